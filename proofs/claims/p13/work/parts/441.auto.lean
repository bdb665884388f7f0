/-! methods, by vc.py -/
def fm_136_1_46 : FM := ([3, 4, 5, 6, 7, 8, 30, 31], [], [(2, 0), (2, 1), (2, 2), (2, 3), (30, 0), (46, 2), (46, 3), (46, 4), (46, 5), (46, 6), (46, 7)], [])
/-- GraphHouse$Ledger.readCommand -/
theorem k_136_1_46 {Z : AmZ} {A : Nat → Nat} {s : GS} {ex : va_W} {d : Nat} {X : AmX} {u_2_0 : Int32} {u_2_1 : Int32} {u_30_0 : Int32} {u_46_2 : Int32} {u_46_1 : Int32} (hd : 9 ≤ d) (hI : Inv s) (e_2_0 : u_2_0 = s.2.2.1 2 0) (e_2_1 : u_2_1 = s.2.2.1 2 1) (e_30_0 : u_30_0 = s.2.2.1 30 0) (e_46_2 : u_46_2 = s.2.2.1 46 2) (e_46_1 : u_46_1 = s.2.2.1 46 1) (p_0 : (u_46_2).toInt ≤ (u_46_1).toInt) (q_0 : KL s) (q_1 : (s.2.2.1 46 3).toInt = 1 → In (s.2.2.1 46 5) 0 25) : GC Z d 136 [.ref (A 1), .ref (A 46)] (WW Z A s ++ ex) (lc s) (lsl s) (fun v u => ∃ a : Nat, ∃ t : GS, Inv t ∧ Fr fm_136_1_46 s t ∧ ((t.2.2.1 46 2).toInt ≤ (t.2.2.1 46 1).toInt) ∧ ((s.2.2.1 2 0).toInt ≤ (t.2.2.1 2 0).toInt) ∧ ∃ z : Int32, v = some (.int z) ∧ u = WW Z (ax A 30 a) t ++ ex ∧ In z 0 1 ∧ (KL t) ∧ ((z).toInt ≠ 0 → (t.2.2.1 30 0).toInt = nln s) ∧ ((z).toInt ≠ 0 → (s.2.2.1 2 0).toInt ≤ 3999) ∧ (∀ k : Nat, (k : Int) < 7 * (s.2.2.1 2 0).toInt → t.1 30 k = s.1 30 k)) X := by
  intro post xp hP hX
  have ro_46_1 := inv_F hI 0 1000 rfl e_46_1
  have ct46 : ∀ (k46 : Nat) (sc46 : GS) (y46_2 : Int32) (y46_3 : Int32) (y46_4 : Int32) (y46_5 : Int32) (w46_46_2 : Int32) (w46_2_0 : Int32) (w46_2_1 : Int32) (w46_30_0 : Int32), Inv sc46 → Fr fm_136_1_46 s sc46 → (In y46_2 0 1000) → (In y46_3 (-1) 25) → (In y46_4 1 5) → (In y46_5 0 5) → (w46_46_2 = sc46.2.2.1 46 2) → (w46_2_0 = sc46.2.2.1 2 0) → (w46_2_1 = sc46.2.2.1 2 1) → (w46_30_0 = sc46.2.2.1 30 0) → ((w46_46_2).toInt ≤ (u_46_1).toInt) → ((u_2_0).toInt ≤ (w46_2_0).toInt) → ((y46_3).toInt = 13 → (y46_4).toInt = 1) → ((y46_4).toInt = 1 → 1 ≤ (y46_5).toInt → In (sc46.1 31 0) 0 25) → (Fr ([31], [], [(46, 2), (46, 3), (46, 4), (46, 5), (46, 6), (46, 7)], []) s sc46) → 5 - (y46_5).toInt < (k46 : Int) → GG Z (d - 1) 136 post (gx xp) (1 + k46 * 900) 46 (fun j => xlook j [(0, .ref (A 1)), (1, .ref (A 46)), (2, .int y46_2), (3, .int y46_3), (4, .ref (zq Z y46_4)), (5, .int y46_5)]) [] (WW Z A sc46 ++ ex) (lc s) (lsl s) := by
    intro k46
    induction k46 with
    | zero => intro sc46 y46_2 y46_3 y46_4 y46_5 w46_46_2 w46_2_0 w46_2_1 w46_30_0 hIc46 hFc46 j46_2 j46_3 j46_4 j46_5 v46_46_2 v46_2_0 v46_2_1 v46_30_0 n46_0 n46_1 g46_0 g46_1 g46_2 mm46; exact m_no mm46 j46_5 rfl
    | succ k46 ih46 =>
      intro sc46 y46_2 y46_3 y46_4 y46_5 w46_46_2 w46_2_0 w46_2_1 w46_30_0 hIc46 hFc46 j46_2 j46_3 j46_4 j46_5 v46_46_2 v46_2_0 v46_2_1 v46_30_0 n46_0 n46_1 g46_0 g46_1 g46_2 mm46
      refine gg_w (M := 1 + k46 * 900 + 900) (by omega) ?_
      refine g_iload 48 (gd rfl) rfl rfl ?_
      refine g_aload 50 (gd rfl) rfl rfl ?_
      have i50 : In y46_4 0 6 := in_w 0 6 j46_4 rfl
      refine g_callS (X := _) (As := []) (r := [.int y46_5]) (x := y46_4) 53 (gd rfl) rfl rfl rfl zm_427 rfl rfl rfl i50 (Nat.le_of_ble_eq_true rfl) (k_427 i50 (by omega)) (fun e u h => h) (fun v u h => ?_)
      obtain ⟨z50, rfl, rfl, p50⟩ := h
      have i50a : In z50 0 9 := by have a := zn_9 i50; exact ⟨by omega, by omega⟩
      show GG _ _ _ _ _ _ _ _ [.int z50, .int y46_5] _ _ _
      refine g_cmp_ge 56 125 (gd rfl) rfl rfl (fun c53 => ?_) (fun c53 => ?_)
      · skip
        have i53 := r_le1 0 5 c53 i50a j46_5 rfl
        refine g_aload_n 126 (gd rfl) rfl rfl ?_
        refine g_bipush 7 128 (gd rfl) rfl rfl ?_
        refine g_iconst 1 129 (gd rfl) rfl rfl ?_
        have v129 : u_46_1 = sc46.2.2.1 46 1 := fr_F e_46_1 hFc46 rfl
        have n129 : (w46_46_2).toInt ≤ (u_46_1).toInt := by have a0 := ro_46_1; unfold In at a0; have a1 := (inv_F hIc46 448 28000 rfl v46_30_0); unfold In at a1; have a2 := (inv_F hIc46 0 32 rfl v46_2_1); unfold In at a2; have a3 := (inv_F hIc46 0 4000 rfl v46_2_0); unfold In at a3; have a4 := (inv_F hIc46 0 1000 rfl v46_46_2); unfold In at a4; have a5 := j46_5; unfold In at a5; have a6 := j46_4; unfold In at a6; have a7 := j46_3; unfold In at a7; have a8 := j46_2; unfold In at a8; omega
        refine g_callv (X := _) (As := [.int (Int32.ofInt 7), .int (Int32.ofInt 1)]) (r := []) (b := A 46) (q := 46) 132 (gd rfl) rfl rfl rfl rfl rfl (ww_o rfl) (Nat.le_of_ble_eq_true rfl) (Nat.zero_le _) (Nat.zero_le _) (k_171_46 (by omega) hIc46 (in_w 6 7 (in_c 7 rfl) rfl) (in_w 0 1 (in_c 1 rfl) rfl) v46_46_2 v129 n129) (fun e u h => h) (fun v u h => ?_)
        obtain ⟨s129, hI129, hF129, n129a, n129b, n129c, rfl, rfl, p129, p129a⟩ := h
        obtain ⟨z129a, e129⟩ : ∃ w, w = s129.2.2.1 46 2 := ⟨_, rfl⟩
        have i129a := inv_F hI129 0 1000 rfl e129
        obtain ⟨z129b, e129a⟩ : ∃ w, w = s129.2.2.1 46 4 := ⟨_, rfl⟩
        have i129b := inv_F hI129 0 1000 rfl e129a
        rw [← (show z129a = s129.2.2.1 46 2 from e129)] at n129a
        rw [← (show u_46_1 = s129.2.2.1 46 1 from fr_F (fr_F e_46_1 hFc46 rfl) hF129 rfl)] at n129a
        rw [← (show z129a = s129.2.2.1 46 2 from e129)] at n129b
        rw [← (show z129b = s129.2.2.1 46 4 from e129a)] at n129b
        rw [← (show w46_46_2 = sc46.2.2.1 46 2 from v46_46_2)] at n129c
        rw [← (show z129b = s129.2.2.1 46 4 from e129a)] at n129c
        show GG _ _ _ _ _ _ _ _ [] _ _ _
        refine g_aload_n 133 (gd rfl) rfl rfl ?_
        refine g_bipush 59 135 (gd rfl) rfl rfl ?_
        refine g_callv (X := _) (As := [.int (Int32.ofInt 59)]) (r := []) (b := A 46) (q := 46) 138 (gd rfl) rfl rfl rfl rfl rfl (ww_o rfl) (Nat.le_of_ble_eq_true rfl) (Nat.zero_le _) (Nat.zero_le _) (k_170_46 (by omega) hI129 (in_w 42 61 (in_c 59 rfl) rfl)) (fun e u h => h) (fun v u h => ?_)
        obtain ⟨z135, rfl, rfl, i135⟩ := h
        show GG _ _ _ _ _ _ _ _ [.int z135] _ _ _
        refine g_if_ne 141 148 (gd rfl) rfl rfl (fun c138 => ?_) (fun c138 => ?_)
        · skip
          have i138 := z_ne 1 1 c138 i135 rfl
          refine g_aload_n 149 (gd rfl) rfl rfl ?_
          refine g_iload_n 150 (gd rfl) rfl rfl ?_
          have hL : Fr ([31], [], [(46, 2), (46, 3), (46, 4), (46, 5), (46, 6), (46, 7)], []) s s129 := (fr_tr rfl g46_2 hF129)
          have v150 : w46_2_0 = s129.2.2.1 2 0 := fr_F (v46_2_0) hF129 rfl
          have v150a : w46_2_1 = s129.2.2.1 2 1 := fr_F (v46_2_1) hF129 rfl
          have v150b : w46_30_0 = s129.2.2.1 30 0 := fr_F (v46_30_0) hF129 rfl
          have p150 : KL s129 := by exact kl_fr q_0 hL rfl
          have p150a : (y46_3).toInt = 13 → In (s129.1 31 0) 0 25 := by intro h13; rw [hF129.1 31 rfl]; exact g46_1 (g46_0 h13) (by have hz1 := zn_1 (g46_0 h13); have h9 := p50; have a0 := ro_46_1; unfold In at a0; have a1 := (inv_F hIc46 448 28000 rfl v46_30_0); unfold In at a1; have a2 := (inv_F hIc46 0 32 rfl v46_2_1); unfold In at a2; have a3 := (inv_F hIc46 0 4000 rfl v46_2_0); unfold In at a3; have a4 := (inv_F hIc46 0 1000 rfl v46_46_2); unfold In at a4; have a5 := j46_5; unfold In at a5; have a6 := j46_4; unfold In at a6; have a7 := j46_3; unfold In at a7; have a8 := j46_2; unfold In at a8; have a9 := i129b; unfold In at a9; have a10 := i129a; unfold In at a10; omega)
          refine g_callv (X := _) (As := [.int y46_3]) (r := []) (b := A 1) (q := 1) 153 (gd rfl) rfl rfl rfl rfl rfl (ww_o rfl) (Nat.le_of_ble_eq_true rfl) (Nat.le_of_eq (lc_cg ((show Fr ([31], [], [(46, 2), (46, 3), (46, 4), (46, 5), (46, 6), (46, 7)], []) s s129 from (fr_tr rfl g46_2 hF129)).2.2.1 30 0 rfl) ((show Fr ([31], [], [(46, 2), (46, 3), (46, 4), (46, 5), (46, 6), (46, 7)], []) s s129 from (fr_tr rfl g46_2 hF129)).2.2.1 2 0 rfl)).1) (Nat.le_of_eq (lc_cg ((show Fr ([31], [], [(46, 2), (46, 3), (46, 4), (46, 5), (46, 6), (46, 7)], []) s s129 from (fr_tr rfl g46_2 hF129)).2.2.1 30 0 rfl) ((show Fr ([31], [], [(46, 2), (46, 3), (46, 4), (46, 5), (46, 6), (46, 7)], []) s s129 from (fr_tr rfl g46_2 hF129)).2.2.1 2 0 rfl)).2.1) (k_138_1 (by omega) hI129 (in_w (-1) 25 j46_3 rfl) v150 v150a v150b p150 p150a) (fun e u h => h) (fun v u h => ?_)
          obtain ⟨a150, s150, hI150, hF150, n150, z150, rfl, rfl, i150, p150b, p150c, p150d, p150e⟩ := h
          obtain ⟨z150a, e150⟩ : ∃ w, w = s150.2.2.1 2 0 := ⟨_, rfl⟩
          have i150a := inv_F hI150 0 4000 rfl e150
          rw [← (show w46_2_0 = s129.2.2.1 2 0 from fr_F (v46_2_0) hF129 rfl)] at n150
          rw [← (show z150a = s150.2.2.1 2 0 from e150)] at n150
          show GG _ _ _ _ _ _ _ _ [.int z150] _ _ _
          refine g_if_ne 156 165 (gd rfl) rfl rfl (fun c153 => ?_) (fun c153 => ?_)
          · skip
            have i153 := z_ne 1 1 c153 i150 rfl
            refine g_iconst 1 166 (gd rfl) rfl rfl ?_
            refine g_goto 170 (gd rfl) rfl ?_
            have n170 : KL s150 := by exact p150b
            have n170a : ((Int32.ofInt 1)).toInt ≠ 0 → (s150.2.2.1 30 0).toInt = nln s := by first | (intro h; exact absurd rfl h) | (intro _; rw [← (lc_cg (s := s) (hL.2.2.1 30 0 rfl) (hL.2.2.1 2 0 rfl)).2.2]; exact p150c c153)
            have n170b : ((Int32.ofInt 1)).toInt ≠ 0 → (s.2.2.1 2 0).toInt ≤ 3999 := by first | (intro h; exact absurd rfl h) | (intro _; rw [← hL.2.2.1 2 0 rfl]; exact p150d c153)
            have n170c : ∀ k : Nat, (k : Int) < 7 * (s.2.2.1 2 0).toInt → s150.1 30 k = s.1 30 k := by exact fun k hk => by rw [p150e k (by rw [hL.2.2.1 2 0 rfl]; exact hk), hL.1 30 rfl]
            have n170d : (z129a).toInt ≤ (u_46_1).toInt := by have a0 := ro_46_1; unfold In at a0; have a1 := (inv_F hIc46 448 28000 rfl v46_30_0); unfold In at a1; have a2 := (inv_F hIc46 0 32 rfl v46_2_1); unfold In at a2; have a3 := (inv_F hIc46 0 4000 rfl v46_2_0); unfold In at a3; have a4 := (inv_F hIc46 0 1000 rfl v46_46_2); unfold In at a4; have a5 := j46_5; unfold In at a5; have a6 := j46_4; unfold In at a6; have a7 := j46_3; unfold In at a7; have a8 := j46_2; unfold In at a8; have a9 := i150a; unfold In at a9; have a10 := i129b; unfold In at a10; have a11 := i129a; unfold In at a11; omega
            have n170e : (s150.2.2.1 46 2).toInt ≤ (s150.2.2.1 46 1).toInt := by have b0 : z129a = s150.2.2.1 46 2 := fr_F (e129) hF150 rfl; have b1 : u_46_1 = s150.2.2.1 46 1 := fr_F (fr_F (fr_F e_46_1 hFc46 rfl) hF129 rfl) hF150 rfl; rw [← b0, ← b1]; exact n170d
            have n170f : (u_2_0).toInt ≤ (z150a).toInt := by have a0 := ro_46_1; unfold In at a0; have a1 := (inv_F hIc46 448 28000 rfl v46_30_0); unfold In at a1; have a2 := (inv_F hIc46 0 32 rfl v46_2_1); unfold In at a2; have a3 := (inv_F hIc46 0 4000 rfl v46_2_0); unfold In at a3; have a4 := (inv_F hIc46 0 1000 rfl v46_46_2); unfold In at a4; have a5 := j46_5; unfold In at a5; have a6 := j46_4; unfold In at a6; have a7 := j46_3; unfold In at a7; have a8 := j46_2; unfold In at a8; have a9 := i150a; unfold In at a9; have a10 := i129b; unfold In at a10; have a11 := i129a; unfold In at a11; omega
            have n170g : (s.2.2.1 2 0).toInt ≤ (s150.2.2.1 2 0).toInt := by have b0 : z150a = s150.2.2.1 2 0 := e150; first | (rw [← b0, ← e_2_0]; exact n170f) | (rw [← b0]; exact n170f)
            exact g_ireturn (gd rfl) rfl (nb01 (in_w 0 1 (in_c 1 rfl) rfl)) (hP _ _ ⟨a150, s150, hI150, (fr_tr rfl (fr_tr rfl hFc46 hF129) hF150), n170e, n170g, (Int32.ofInt 1), rfl, rfl, in_w 0 1 (in_c 1 rfl) rfl, n170, n170a, n170b, n170c⟩)
          · skip
            have i153 := z_eq 0 0 c153 i150 rfl
            refine g_aload_n 157 (gd rfl) rfl rfl ?_
            refine g_iconst 4 158 (gd rfl) rfl rfl ?_
            refine g_iload_n 159 (gd rfl) rfl rfl ?_
            refine g_callv (X := _) (As := [.int (Int32.ofInt 4), .int y46_2]) (r := []) (b := A 46) (q := 46) 162 (gd rfl) rfl rfl rfl rfl rfl (ww_o rfl) (Nat.le_of_ble_eq_true rfl) (Nat.zero_le _) (Nat.zero_le _) (k_168_46 (A := (ax A 30 a150)) (by omega) hI150 (in_w 1 5 (in_c 4 rfl) rfl) (in_w 0 1000 j46_2 rfl)) (fun e u h => h) (fun v u h => ?_)
            obtain ⟨s159, hI159, hF159, z159, rfl, rfl, i159⟩ := h
            show GG _ _ _ _ _ _ _ _ [.int z159] _ _ _
            refine g_if_eq 165 169 (gd rfl) rfl rfl (fun c162 => ?_) (fun c162 => ?_)
            · skip
              refine g_iconst 0 170 (gd rfl) rfl rfl ?_
              have n170 : KL s159 := by exact kl_fr p150b hF159 rfl
              have n170a : ((Int32.ofInt 0)).toInt ≠ 0 → (s159.2.2.1 30 0).toInt = nln s := by intro h; exact absurd rfl h
              have n170b : ((Int32.ofInt 0)).toInt ≠ 0 → (s.2.2.1 2 0).toInt ≤ 3999 := by intro h; exact absurd rfl h
              have n170c : ∀ k : Nat, (k : Int) < 7 * (s.2.2.1 2 0).toInt → s159.1 30 k = s.1 30 k := by exact fun k hk => by rw [hF159.1 30 rfl, p150e k (by rw [hL.2.2.1 2 0 rfl]; exact hk), hL.1 30 rfl]
              have n170d : (z129a).toInt ≤ (u_46_1).toInt := by have a0 := ro_46_1; unfold In at a0; have a1 := (inv_F hIc46 448 28000 rfl v46_30_0); unfold In at a1; have a2 := (inv_F hIc46 0 32 rfl v46_2_1); unfold In at a2; have a3 := (inv_F hIc46 0 4000 rfl v46_2_0); unfold In at a3; have a4 := (inv_F hIc46 0 1000 rfl v46_46_2); unfold In at a4; have a5 := j46_5; unfold In at a5; have a6 := j46_4; unfold In at a6; have a7 := j46_3; unfold In at a7; have a8 := j46_2; unfold In at a8; have a9 := i150a; unfold In at a9; have a10 := i129b; unfold In at a10; have a11 := i129a; unfold In at a11; omega
              have n170e : (s159.2.2.1 46 2).toInt ≤ (s159.2.2.1 46 1).toInt := by have b0 : z129a = s159.2.2.1 46 2 := fr_F (fr_F (e129) hF150 rfl) hF159 rfl; have b1 : u_46_1 = s159.2.2.1 46 1 := fr_F (fr_F (fr_F (fr_F e_46_1 hFc46 rfl) hF129 rfl) hF150 rfl) hF159 rfl; rw [← b0, ← b1]; exact n170d
              have n170f : (u_2_0).toInt ≤ (z150a).toInt := by have a0 := ro_46_1; unfold In at a0; have a1 := (inv_F hIc46 448 28000 rfl v46_30_0); unfold In at a1; have a2 := (inv_F hIc46 0 32 rfl v46_2_1); unfold In at a2; have a3 := (inv_F hIc46 0 4000 rfl v46_2_0); unfold In at a3; have a4 := (inv_F hIc46 0 1000 rfl v46_46_2); unfold In at a4; have a5 := j46_5; unfold In at a5; have a6 := j46_4; unfold In at a6; have a7 := j46_3; unfold In at a7; have a8 := j46_2; unfold In at a8; have a9 := i150a; unfold In at a9; have a10 := i129b; unfold In at a10; have a11 := i129a; unfold In at a11; omega
              have n170g : (s.2.2.1 2 0).toInt ≤ (s159.2.2.1 2 0).toInt := by have b0 : z150a = s159.2.2.1 2 0 := fr_F (e150) hF159 rfl; first | (rw [← b0, ← e_2_0]; exact n170f) | (rw [← b0]; exact n170f)
              exact g_ireturn (gd rfl) rfl (nb01 (in_w 0 1 (in_c 0 rfl) rfl)) (hP _ _ ⟨a150, s159, hI159, (fr_tr rfl (fr_tr rfl (fr_tr rfl hFc46 hF129) hF150) hF159), n170e, n170g, (Int32.ofInt 0), rfl, rfl, in_w 0 1 (in_c 0 rfl) rfl, n170, n170a, n170b, n170c⟩)
            · skip
              exact zn_ne c162 i159 rfl
        · skip
          have i138 := z_eq 0 0 c138 i135 rfl
          refine g_aload_n 142 (gd rfl) rfl rfl ?_
          refine g_iconst 2 143 (gd rfl) rfl rfl ?_
          refine g_iconst 3 144 (gd rfl) rfl rfl ?_
          refine g_callv (X := _) (As := [.int (Int32.ofInt 2), .int (Int32.ofInt 3)]) (r := []) (b := A 46) (q := 46) 147 (gd rfl) rfl rfl rfl rfl rfl (ww_o rfl) (Nat.le_of_ble_eq_true rfl) (Nat.zero_le _) (Nat.zero_le _) (k_169_46 (by omega) hI129 (in_w 2 2 (in_c 2 rfl) rfl) (in_w 3 4 (in_c 3 rfl) rfl)) (fun e u h => h) (fun v u h => ?_)
          obtain ⟨s144, hI144, hF144, z144, rfl, rfl, i144⟩ := h
          show GG _ _ _ _ _ _ _ _ [.int z144] _ _ _
          have n147 : KL s144 := by have hL9 : Fr ([31], [], [(46, 2), (46, 3), (46, 4), (46, 5), (46, 6), (46, 7)], []) s s144 := (fr_tr rfl (fr_tr rfl g46_2 hF129) hF144); exact kl_fr q_0 hL9 rfl
          have n147a : (z144).toInt ≠ 0 → (s144.2.2.1 30 0).toInt = nln s := by first | (intro h; exact absurd rfl h) | (intro h; exfalso; revert h; first | (unfold In at i39; omega) | (unfold In at i104; omega) | (unfold In at i144; omega))
          have n147b : (z144).toInt ≠ 0 → (s.2.2.1 2 0).toInt ≤ 3999 := by first | (intro h; exact absurd rfl h) | (intro h; exfalso; revert h; first | (unfold In at i39; omega) | (unfold In at i104; omega) | (unfold In at i144; omega))
          have n147c : ∀ k : Nat, (k : Int) < 7 * (s.2.2.1 2 0).toInt → s144.1 30 k = s.1 30 k := by have hL9 : Fr ([31], [], [(46, 2), (46, 3), (46, 4), (46, 5), (46, 6), (46, 7)], []) s s144 := (fr_tr rfl (fr_tr rfl g46_2 hF129) hF144); exact fun k _ => by rw [hL9.1 30 rfl]
          have n147d : (z129a).toInt ≤ (u_46_1).toInt := by have a0 := ro_46_1; unfold In at a0; have a1 := (inv_F hIc46 448 28000 rfl v46_30_0); unfold In at a1; have a2 := (inv_F hIc46 0 32 rfl v46_2_1); unfold In at a2; have a3 := (inv_F hIc46 0 4000 rfl v46_2_0); unfold In at a3; have a4 := (inv_F hIc46 0 1000 rfl v46_46_2); unfold In at a4; have a5 := j46_5; unfold In at a5; have a6 := j46_4; unfold In at a6; have a7 := j46_3; unfold In at a7; have a8 := j46_2; unfold In at a8; have a9 := i129b; unfold In at a9; have a10 := i129a; unfold In at a10; omega
          have n147e : (s144.2.2.1 46 2).toInt ≤ (s144.2.2.1 46 1).toInt := by have b0 : z129a = s144.2.2.1 46 2 := fr_F (e129) hF144 rfl; have b1 : u_46_1 = s144.2.2.1 46 1 := fr_F (fr_F (fr_F e_46_1 hFc46 rfl) hF129 rfl) hF144 rfl; rw [← b0, ← b1]; exact n147d
          have n147f : (u_2_0).toInt ≤ (w46_2_0).toInt := by have a0 := ro_46_1; unfold In at a0; have a1 := (inv_F hIc46 448 28000 rfl v46_30_0); unfold In at a1; have a2 := (inv_F hIc46 0 32 rfl v46_2_1); unfold In at a2; have a3 := (inv_F hIc46 0 4000 rfl v46_2_0); unfold In at a3; have a4 := (inv_F hIc46 0 1000 rfl v46_46_2); unfold In at a4; have a5 := j46_5; unfold In at a5; have a6 := j46_4; unfold In at a6; have a7 := j46_3; unfold In at a7; have a8 := j46_2; unfold In at a8; have a9 := i129b; unfold In at a9; have a10 := i129a; unfold In at a10; omega
          have n147g : (s.2.2.1 2 0).toInt ≤ (s144.2.2.1 2 0).toInt := by have b0 : w46_2_0 = s144.2.2.1 2 0 := fr_F (fr_F (v46_2_0) hF129 rfl) hF144 rfl; first | (rw [← b0, ← e_2_0]; exact n147f) | (rw [← b0]; exact n147f)
          exact g_ireturn (gd rfl) rfl (nb01 (in_w 0 1 i144 rfl)) (hP _ _ ⟨(A 30), s144, hI144, (fr_tr rfl (fr_tr rfl hFc46 hF129) hF144), n147e, n147g, z144, rfl, (by rw [ax_id]), in_w 0 1 i144 rfl, n147, n147a, n147b, n147c⟩)
      · skip
        have i53 := r_lt2 1 9 c53 j46_5 i50a rfl
        refine g_iload 58 (gd rfl) rfl rfl ?_
        refine g_aload_n 59 (gd rfl) rfl rfl ?_
        refine g_getA (q2 := 31) 62 (gd rfl) rfl rfl rfl rfl ?_
        refine g_alen (n := 5) (t := 0) 5 63 (gd rfl) rfl rfl (Nat.le_of_ble_eq_true rfl) rfl ?_
        refine g_cmp_ge 66 125 (gd rfl) rfl rfl (fun c63 => ?_) (fun c63 => ?_)
        · skip
          have i63 := r_le2 5 5 c63 (in_c 5 rfl) j46_5 rfl
          refine g_aload_n 126 (gd rfl) rfl rfl ?_
          refine g_bipush 7 128 (gd rfl) rfl rfl ?_
          refine g_iconst 1 129 (gd rfl) rfl rfl ?_
          have v129 : u_46_1 = sc46.2.2.1 46 1 := fr_F e_46_1 hFc46 rfl
          have n129 : (w46_46_2).toInt ≤ (u_46_1).toInt := by have a0 := ro_46_1; unfold In at a0; have a1 := (inv_F hIc46 448 28000 rfl v46_30_0); unfold In at a1; have a2 := (inv_F hIc46 0 32 rfl v46_2_1); unfold In at a2; have a3 := (inv_F hIc46 0 4000 rfl v46_2_0); unfold In at a3; have a4 := (inv_F hIc46 0 1000 rfl v46_46_2); unfold In at a4; have a5 := i63; unfold In at a5; have a6 := j46_4; unfold In at a6; have a7 := j46_3; unfold In at a7; have a8 := j46_2; unfold In at a8; omega
          refine g_callv (X := _) (As := [.int (Int32.ofInt 7), .int (Int32.ofInt 1)]) (r := []) (b := A 46) (q := 46) 132 (gd rfl) rfl rfl rfl rfl rfl (ww_o rfl) (Nat.le_of_ble_eq_true rfl) (Nat.zero_le _) (Nat.zero_le _) (k_171_46 (by omega) hIc46 (in_w 6 7 (in_c 7 rfl) rfl) (in_w 0 1 (in_c 1 rfl) rfl) v46_46_2 v129 n129) (fun e u h => h) (fun v u h => ?_)
          obtain ⟨s129, hI129, hF129, n129a, n129b, n129c, rfl, rfl, p129, p129a⟩ := h
          obtain ⟨z129a, e129⟩ : ∃ w, w = s129.2.2.1 46 2 := ⟨_, rfl⟩
          have i129a := inv_F hI129 0 1000 rfl e129
          obtain ⟨z129b, e129a⟩ : ∃ w, w = s129.2.2.1 46 4 := ⟨_, rfl⟩
          have i129b := inv_F hI129 0 1000 rfl e129a
          rw [← (show z129a = s129.2.2.1 46 2 from e129)] at n129a
          rw [← (show u_46_1 = s129.2.2.1 46 1 from fr_F (fr_F e_46_1 hFc46 rfl) hF129 rfl)] at n129a
          rw [← (show z129a = s129.2.2.1 46 2 from e129)] at n129b
          rw [← (show z129b = s129.2.2.1 46 4 from e129a)] at n129b
          rw [← (show w46_46_2 = sc46.2.2.1 46 2 from v46_46_2)] at n129c
          rw [← (show z129b = s129.2.2.1 46 4 from e129a)] at n129c
          show GG _ _ _ _ _ _ _ _ [] _ _ _
          refine g_aload_n 133 (gd rfl) rfl rfl ?_
          refine g_bipush 59 135 (gd rfl) rfl rfl ?_
          refine g_callv (X := _) (As := [.int (Int32.ofInt 59)]) (r := []) (b := A 46) (q := 46) 138 (gd rfl) rfl rfl rfl rfl rfl (ww_o rfl) (Nat.le_of_ble_eq_true rfl) (Nat.zero_le _) (Nat.zero_le _) (k_170_46 (by omega) hI129 (in_w 42 61 (in_c 59 rfl) rfl)) (fun e u h => h) (fun v u h => ?_)
          obtain ⟨z135, rfl, rfl, i135⟩ := h
          show GG _ _ _ _ _ _ _ _ [.int z135] _ _ _
          refine g_if_ne 141 148 (gd rfl) rfl rfl (fun c138 => ?_) (fun c138 => ?_)
          · skip
            have i138 := z_ne 1 1 c138 i135 rfl
            refine g_aload_n 149 (gd rfl) rfl rfl ?_
            refine g_iload_n 150 (gd rfl) rfl rfl ?_
            have hL : Fr ([31], [], [(46, 2), (46, 3), (46, 4), (46, 5), (46, 6), (46, 7)], []) s s129 := (fr_tr rfl g46_2 hF129)
            have v150 : w46_2_0 = s129.2.2.1 2 0 := fr_F (v46_2_0) hF129 rfl
            have v150a : w46_2_1 = s129.2.2.1 2 1 := fr_F (v46_2_1) hF129 rfl
            have v150b : w46_30_0 = s129.2.2.1 30 0 := fr_F (v46_30_0) hF129 rfl
            have p150 : KL s129 := by exact kl_fr q_0 hL rfl
            have p150a : (y46_3).toInt = 13 → In (s129.1 31 0) 0 25 := by intro h13; rw [hF129.1 31 rfl]; exact g46_1 (g46_0 h13) (by have hz1 := zn_1 (g46_0 h13); have h9 := p50; have a0 := ro_46_1; unfold In at a0; have a1 := (inv_F hIc46 448 28000 rfl v46_30_0); unfold In at a1; have a2 := (inv_F hIc46 0 32 rfl v46_2_1); unfold In at a2; have a3 := (inv_F hIc46 0 4000 rfl v46_2_0); unfold In at a3; have a4 := (inv_F hIc46 0 1000 rfl v46_46_2); unfold In at a4; have a5 := i63; unfold In at a5; have a6 := j46_4; unfold In at a6; have a7 := j46_3; unfold In at a7; have a8 := j46_2; unfold In at a8; have a9 := i129b; unfold In at a9; have a10 := i129a; unfold In at a10; omega)
            refine g_callv (X := _) (As := [.int y46_3]) (r := []) (b := A 1) (q := 1) 153 (gd rfl) rfl rfl rfl rfl rfl (ww_o rfl) (Nat.le_of_ble_eq_true rfl) (Nat.le_of_eq (lc_cg ((show Fr ([31], [], [(46, 2), (46, 3), (46, 4), (46, 5), (46, 6), (46, 7)], []) s s129 from (fr_tr rfl g46_2 hF129)).2.2.1 30 0 rfl) ((show Fr ([31], [], [(46, 2), (46, 3), (46, 4), (46, 5), (46, 6), (46, 7)], []) s s129 from (fr_tr rfl g46_2 hF129)).2.2.1 2 0 rfl)).1) (Nat.le_of_eq (lc_cg ((show Fr ([31], [], [(46, 2), (46, 3), (46, 4), (46, 5), (46, 6), (46, 7)], []) s s129 from (fr_tr rfl g46_2 hF129)).2.2.1 30 0 rfl) ((show Fr ([31], [], [(46, 2), (46, 3), (46, 4), (46, 5), (46, 6), (46, 7)], []) s s129 from (fr_tr rfl g46_2 hF129)).2.2.1 2 0 rfl)).2.1) (k_138_1 (by omega) hI129 (in_w (-1) 25 j46_3 rfl) v150 v150a v150b p150 p150a) (fun e u h => h) (fun v u h => ?_)
            obtain ⟨a150, s150, hI150, hF150, n150, z150, rfl, rfl, i150, p150b, p150c, p150d, p150e⟩ := h
            obtain ⟨z150a, e150⟩ : ∃ w, w = s150.2.2.1 2 0 := ⟨_, rfl⟩
            have i150a := inv_F hI150 0 4000 rfl e150
            rw [← (show w46_2_0 = s129.2.2.1 2 0 from fr_F (v46_2_0) hF129 rfl)] at n150
            rw [← (show z150a = s150.2.2.1 2 0 from e150)] at n150
            show GG _ _ _ _ _ _ _ _ [.int z150] _ _ _
            refine g_if_ne 156 165 (gd rfl) rfl rfl (fun c153 => ?_) (fun c153 => ?_)
            · skip
              have i153 := z_ne 1 1 c153 i150 rfl
              refine g_iconst 1 166 (gd rfl) rfl rfl ?_
              refine g_goto 170 (gd rfl) rfl ?_
              have n170 : KL s150 := by exact p150b
              have n170a : ((Int32.ofInt 1)).toInt ≠ 0 → (s150.2.2.1 30 0).toInt = nln s := by first | (intro h; exact absurd rfl h) | (intro _; rw [← (lc_cg (s := s) (hL.2.2.1 30 0 rfl) (hL.2.2.1 2 0 rfl)).2.2]; exact p150c c153)
              have n170b : ((Int32.ofInt 1)).toInt ≠ 0 → (s.2.2.1 2 0).toInt ≤ 3999 := by first | (intro h; exact absurd rfl h) | (intro _; rw [← hL.2.2.1 2 0 rfl]; exact p150d c153)
              have n170c : ∀ k : Nat, (k : Int) < 7 * (s.2.2.1 2 0).toInt → s150.1 30 k = s.1 30 k := by exact fun k hk => by rw [p150e k (by rw [hL.2.2.1 2 0 rfl]; exact hk), hL.1 30 rfl]
              have n170d : (z129a).toInt ≤ (u_46_1).toInt := by have a0 := ro_46_1; unfold In at a0; have a1 := (inv_F hIc46 448 28000 rfl v46_30_0); unfold In at a1; have a2 := (inv_F hIc46 0 32 rfl v46_2_1); unfold In at a2; have a3 := (inv_F hIc46 0 4000 rfl v46_2_0); unfold In at a3; have a4 := (inv_F hIc46 0 1000 rfl v46_46_2); unfold In at a4; have a5 := i63; unfold In at a5; have a6 := j46_4; unfold In at a6; have a7 := j46_3; unfold In at a7; have a8 := j46_2; unfold In at a8; have a9 := i150a; unfold In at a9; have a10 := i129b; unfold In at a10; have a11 := i129a; unfold In at a11; omega
              have n170e : (s150.2.2.1 46 2).toInt ≤ (s150.2.2.1 46 1).toInt := by have b0 : z129a = s150.2.2.1 46 2 := fr_F (e129) hF150 rfl; have b1 : u_46_1 = s150.2.2.1 46 1 := fr_F (fr_F (fr_F e_46_1 hFc46 rfl) hF129 rfl) hF150 rfl; rw [← b0, ← b1]; exact n170d
              have n170f : (u_2_0).toInt ≤ (z150a).toInt := by have a0 := ro_46_1; unfold In at a0; have a1 := (inv_F hIc46 448 28000 rfl v46_30_0); unfold In at a1; have a2 := (inv_F hIc46 0 32 rfl v46_2_1); unfold In at a2; have a3 := (inv_F hIc46 0 4000 rfl v46_2_0); unfold In at a3; have a4 := (inv_F hIc46 0 1000 rfl v46_46_2); unfold In at a4; have a5 := i63; unfold In at a5; have a6 := j46_4; unfold In at a6; have a7 := j46_3; unfold In at a7; have a8 := j46_2; unfold In at a8; have a9 := i150a; unfold In at a9; have a10 := i129b; unfold In at a10; have a11 := i129a; unfold In at a11; omega
              have n170g : (s.2.2.1 2 0).toInt ≤ (s150.2.2.1 2 0).toInt := by have b0 : z150a = s150.2.2.1 2 0 := e150; first | (rw [← b0, ← e_2_0]; exact n170f) | (rw [← b0]; exact n170f)
              exact g_ireturn (gd rfl) rfl (nb01 (in_w 0 1 (in_c 1 rfl) rfl)) (hP _ _ ⟨a150, s150, hI150, (fr_tr rfl (fr_tr rfl hFc46 hF129) hF150), n170e, n170g, (Int32.ofInt 1), rfl, rfl, in_w 0 1 (in_c 1 rfl) rfl, n170, n170a, n170b, n170c⟩)
            · skip
              have i153 := z_eq 0 0 c153 i150 rfl
              refine g_aload_n 157 (gd rfl) rfl rfl ?_
              refine g_iconst 4 158 (gd rfl) rfl rfl ?_
              refine g_iload_n 159 (gd rfl) rfl rfl ?_
              refine g_callv (X := _) (As := [.int (Int32.ofInt 4), .int y46_2]) (r := []) (b := A 46) (q := 46) 162 (gd rfl) rfl rfl rfl rfl rfl (ww_o rfl) (Nat.le_of_ble_eq_true rfl) (Nat.zero_le _) (Nat.zero_le _) (k_168_46 (A := (ax A 30 a150)) (by omega) hI150 (in_w 1 5 (in_c 4 rfl) rfl) (in_w 0 1000 j46_2 rfl)) (fun e u h => h) (fun v u h => ?_)
              obtain ⟨s159, hI159, hF159, z159, rfl, rfl, i159⟩ := h
              show GG _ _ _ _ _ _ _ _ [.int z159] _ _ _
              refine g_if_eq 165 169 (gd rfl) rfl rfl (fun c162 => ?_) (fun c162 => ?_)
              · skip
                refine g_iconst 0 170 (gd rfl) rfl rfl ?_
                have n170 : KL s159 := by exact kl_fr p150b hF159 rfl
                have n170a : ((Int32.ofInt 0)).toInt ≠ 0 → (s159.2.2.1 30 0).toInt = nln s := by intro h; exact absurd rfl h
                have n170b : ((Int32.ofInt 0)).toInt ≠ 0 → (s.2.2.1 2 0).toInt ≤ 3999 := by intro h; exact absurd rfl h
                have n170c : ∀ k : Nat, (k : Int) < 7 * (s.2.2.1 2 0).toInt → s159.1 30 k = s.1 30 k := by exact fun k hk => by rw [hF159.1 30 rfl, p150e k (by rw [hL.2.2.1 2 0 rfl]; exact hk), hL.1 30 rfl]
                have n170d : (z129a).toInt ≤ (u_46_1).toInt := by have a0 := ro_46_1; unfold In at a0; have a1 := (inv_F hIc46 448 28000 rfl v46_30_0); unfold In at a1; have a2 := (inv_F hIc46 0 32 rfl v46_2_1); unfold In at a2; have a3 := (inv_F hIc46 0 4000 rfl v46_2_0); unfold In at a3; have a4 := (inv_F hIc46 0 1000 rfl v46_46_2); unfold In at a4; have a5 := i63; unfold In at a5; have a6 := j46_4; unfold In at a6; have a7 := j46_3; unfold In at a7; have a8 := j46_2; unfold In at a8; have a9 := i150a; unfold In at a9; have a10 := i129b; unfold In at a10; have a11 := i129a; unfold In at a11; omega
                have n170e : (s159.2.2.1 46 2).toInt ≤ (s159.2.2.1 46 1).toInt := by have b0 : z129a = s159.2.2.1 46 2 := fr_F (fr_F (e129) hF150 rfl) hF159 rfl; have b1 : u_46_1 = s159.2.2.1 46 1 := fr_F (fr_F (fr_F (fr_F e_46_1 hFc46 rfl) hF129 rfl) hF150 rfl) hF159 rfl; rw [← b0, ← b1]; exact n170d
                have n170f : (u_2_0).toInt ≤ (z150a).toInt := by have a0 := ro_46_1; unfold In at a0; have a1 := (inv_F hIc46 448 28000 rfl v46_30_0); unfold In at a1; have a2 := (inv_F hIc46 0 32 rfl v46_2_1); unfold In at a2; have a3 := (inv_F hIc46 0 4000 rfl v46_2_0); unfold In at a3; have a4 := (inv_F hIc46 0 1000 rfl v46_46_2); unfold In at a4; have a5 := i63; unfold In at a5; have a6 := j46_4; unfold In at a6; have a7 := j46_3; unfold In at a7; have a8 := j46_2; unfold In at a8; have a9 := i150a; unfold In at a9; have a10 := i129b; unfold In at a10; have a11 := i129a; unfold In at a11; omega
                have n170g : (s.2.2.1 2 0).toInt ≤ (s159.2.2.1 2 0).toInt := by have b0 : z150a = s159.2.2.1 2 0 := fr_F (e150) hF159 rfl; first | (rw [← b0, ← e_2_0]; exact n170f) | (rw [← b0]; exact n170f)
                exact g_ireturn (gd rfl) rfl (nb01 (in_w 0 1 (in_c 0 rfl) rfl)) (hP _ _ ⟨a150, s159, hI159, (fr_tr rfl (fr_tr rfl (fr_tr rfl hFc46 hF129) hF150) hF159), n170e, n170g, (Int32.ofInt 0), rfl, rfl, in_w 0 1 (in_c 0 rfl) rfl, n170, n170a, n170b, n170c⟩)
              · skip
                exact zn_ne c162 i159 rfl
          · skip
            have i138 := z_eq 0 0 c138 i135 rfl
            refine g_aload_n 142 (gd rfl) rfl rfl ?_
            refine g_iconst 2 143 (gd rfl) rfl rfl ?_
            refine g_iconst 3 144 (gd rfl) rfl rfl ?_
            refine g_callv (X := _) (As := [.int (Int32.ofInt 2), .int (Int32.ofInt 3)]) (r := []) (b := A 46) (q := 46) 147 (gd rfl) rfl rfl rfl rfl rfl (ww_o rfl) (Nat.le_of_ble_eq_true rfl) (Nat.zero_le _) (Nat.zero_le _) (k_169_46 (by omega) hI129 (in_w 2 2 (in_c 2 rfl) rfl) (in_w 3 4 (in_c 3 rfl) rfl)) (fun e u h => h) (fun v u h => ?_)
            obtain ⟨s144, hI144, hF144, z144, rfl, rfl, i144⟩ := h
            show GG _ _ _ _ _ _ _ _ [.int z144] _ _ _
            have n147 : KL s144 := by have hL9 : Fr ([31], [], [(46, 2), (46, 3), (46, 4), (46, 5), (46, 6), (46, 7)], []) s s144 := (fr_tr rfl (fr_tr rfl g46_2 hF129) hF144); exact kl_fr q_0 hL9 rfl
            have n147a : (z144).toInt ≠ 0 → (s144.2.2.1 30 0).toInt = nln s := by first | (intro h; exact absurd rfl h) | (intro h; exfalso; revert h; first | (unfold In at i39; omega) | (unfold In at i104; omega) | (unfold In at i144; omega))
            have n147b : (z144).toInt ≠ 0 → (s.2.2.1 2 0).toInt ≤ 3999 := by first | (intro h; exact absurd rfl h) | (intro h; exfalso; revert h; first | (unfold In at i39; omega) | (unfold In at i104; omega) | (unfold In at i144; omega))
            have n147c : ∀ k : Nat, (k : Int) < 7 * (s.2.2.1 2 0).toInt → s144.1 30 k = s.1 30 k := by have hL9 : Fr ([31], [], [(46, 2), (46, 3), (46, 4), (46, 5), (46, 6), (46, 7)], []) s s144 := (fr_tr rfl (fr_tr rfl g46_2 hF129) hF144); exact fun k _ => by rw [hL9.1 30 rfl]
            have n147d : (z129a).toInt ≤ (u_46_1).toInt := by have a0 := ro_46_1; unfold In at a0; have a1 := (inv_F hIc46 448 28000 rfl v46_30_0); unfold In at a1; have a2 := (inv_F hIc46 0 32 rfl v46_2_1); unfold In at a2; have a3 := (inv_F hIc46 0 4000 rfl v46_2_0); unfold In at a3; have a4 := (inv_F hIc46 0 1000 rfl v46_46_2); unfold In at a4; have a5 := i63; unfold In at a5; have a6 := j46_4; unfold In at a6; have a7 := j46_3; unfold In at a7; have a8 := j46_2; unfold In at a8; have a9 := i129b; unfold In at a9; have a10 := i129a; unfold In at a10; omega
            have n147e : (s144.2.2.1 46 2).toInt ≤ (s144.2.2.1 46 1).toInt := by have b0 : z129a = s144.2.2.1 46 2 := fr_F (e129) hF144 rfl; have b1 : u_46_1 = s144.2.2.1 46 1 := fr_F (fr_F (fr_F e_46_1 hFc46 rfl) hF129 rfl) hF144 rfl; rw [← b0, ← b1]; exact n147d
            have n147f : (u_2_0).toInt ≤ (w46_2_0).toInt := by have a0 := ro_46_1; unfold In at a0; have a1 := (inv_F hIc46 448 28000 rfl v46_30_0); unfold In at a1; have a2 := (inv_F hIc46 0 32 rfl v46_2_1); unfold In at a2; have a3 := (inv_F hIc46 0 4000 rfl v46_2_0); unfold In at a3; have a4 := (inv_F hIc46 0 1000 rfl v46_46_2); unfold In at a4; have a5 := i63; unfold In at a5; have a6 := j46_4; unfold In at a6; have a7 := j46_3; unfold In at a7; have a8 := j46_2; unfold In at a8; have a9 := i129b; unfold In at a9; have a10 := i129a; unfold In at a10; omega
            have n147g : (s.2.2.1 2 0).toInt ≤ (s144.2.2.1 2 0).toInt := by have b0 : w46_2_0 = s144.2.2.1 2 0 := fr_F (fr_F (v46_2_0) hF129 rfl) hF144 rfl; first | (rw [← b0, ← e_2_0]; exact n147f) | (rw [← b0]; exact n147f)
            exact g_ireturn (gd rfl) rfl (nb01 (in_w 0 1 i144 rfl)) (hP _ _ ⟨(A 30), s144, hI144, (fr_tr rfl (fr_tr rfl hFc46 hF129) hF144), n147e, n147g, z144, rfl, (by rw [ax_id]), in_w 0 1 i144 rfl, n147, n147a, n147b, n147c⟩)
        · skip
          have i63 := r_lt1 0 4 c63 j46_5 (in_c 5 rfl) rfl
          refine g_aload_n 67 (gd rfl) rfl rfl ?_
          refine g_bipush 7 69 (gd rfl) rfl rfl ?_
          refine g_iconst 1 70 (gd rfl) rfl rfl ?_
          have v70 : u_46_1 = sc46.2.2.1 46 1 := fr_F e_46_1 hFc46 rfl
          have n70 : (w46_46_2).toInt ≤ (u_46_1).toInt := by have a0 := ro_46_1; unfold In at a0; have a1 := (inv_F hIc46 448 28000 rfl v46_30_0); unfold In at a1; have a2 := (inv_F hIc46 0 32 rfl v46_2_1); unfold In at a2; have a3 := (inv_F hIc46 0 4000 rfl v46_2_0); unfold In at a3; have a4 := (inv_F hIc46 0 1000 rfl v46_46_2); unfold In at a4; have a5 := i63; unfold In at a5; have a6 := j46_4; unfold In at a6; have a7 := j46_3; unfold In at a7; have a8 := j46_2; unfold In at a8; omega
          refine g_callv (X := _) (As := [.int (Int32.ofInt 7), .int (Int32.ofInt 1)]) (r := []) (b := A 46) (q := 46) 73 (gd rfl) rfl rfl rfl rfl rfl (ww_o rfl) (Nat.le_of_ble_eq_true rfl) (Nat.zero_le _) (Nat.zero_le _) (k_171_46 (by omega) hIc46 (in_w 6 7 (in_c 7 rfl) rfl) (in_w 0 1 (in_c 1 rfl) rfl) v46_46_2 v70 n70) (fun e u h => h) (fun v u h => ?_)
          obtain ⟨s70, hI70, hF70, n70a, n70b, n70c, rfl, rfl, p70, p70a⟩ := h
          obtain ⟨z70a, e70⟩ : ∃ w, w = s70.2.2.1 46 2 := ⟨_, rfl⟩
          have i70a := inv_F hI70 0 1000 rfl e70
          obtain ⟨z70b, e70a⟩ : ∃ w, w = s70.2.2.1 46 4 := ⟨_, rfl⟩
          have i70b := inv_F hI70 0 1000 rfl e70a
          rw [← (show z70a = s70.2.2.1 46 2 from e70)] at n70a
          rw [← (show u_46_1 = s70.2.2.1 46 1 from fr_F (fr_F e_46_1 hFc46 rfl) hF70 rfl)] at n70a
          rw [← (show z70a = s70.2.2.1 46 2 from e70)] at n70b
          rw [← (show z70b = s70.2.2.1 46 4 from e70a)] at n70b
          rw [← (show w46_46_2 = sc46.2.2.1 46 2 from v46_46_2)] at n70c
          rw [← (show z70b = s70.2.2.1 46 4 from e70a)] at n70c
          show GG _ _ _ _ _ _ _ _ [] _ _ _
          refine g_aload 75 (gd rfl) rfl rfl ?_
          refine g_iload 77 (gd rfl) rfl rfl ?_
          have i77 : In y46_4 0 6 := in_w 0 6 j46_4 rfl
          have n77 : 0 ≤ (y46_5).toInt := by have a := i63; unfold In at a; omega
          have n77a : (y46_5).toInt < (zn y46_4 : Int) := by have h9 := p50; have a0 := ro_46_1; unfold In at a0; have a1 := (inv_F hIc46 448 28000 rfl v46_30_0); unfold In at a1; have a2 := (inv_F hIc46 0 32 rfl v46_2_1); unfold In at a2; have a3 := (inv_F hIc46 0 4000 rfl v46_2_0); unfold In at a3; have a4 := (inv_F hIc46 0 1000 rfl v46_46_2); unfold In at a4; have a5 := i63; unfold In at a5; have a6 := j46_4; unfold In at a6; have a7 := j46_3; unfold In at a7; have a8 := j46_2; unfold In at a8; have a9 := i70b; unfold In at a9; have a10 := i70a; unfold In at a10; omega
          refine g_callS (X := _) (As := [.int y46_5]) (r := []) (x := y46_4) 80 (gd rfl) rfl rfl rfl zm_429 rfl rfl rfl i77 (Nat.le_of_ble_eq_true rfl) (k_429 i77 n77 n77a (by omega)) (fun e u h => h) (fun v u h => ?_)
          obtain ⟨z77, rfl, rfl, i77a, p77⟩ := h
          show GG _ _ _ _ _ _ _ _ [.int z77] _ _ _
          refine g_bipush 108 82 (gd rfl) rfl rfl ?_
          refine g_cmp_ne 85 89 (gd rfl) rfl rfl (fun c82 => ?_) (fun c82 => ?_)
          · skip
            refine g_iconst 2 90 (gd rfl) rfl rfl ?_
            refine g_istore 92 (gd rfl) rfl (Nat.le_of_ble_eq_true rfl) ?_
            refine g_aload_n 93 (gd rfl) rfl rfl ?_
            refine g_getI 96 (gd rfl) rfl rfl rfl (fun z93 e93 => ?_)
            have i93 := inv_F hI70 0 5 rfl e93
            refine g_iload 98 (gd rfl) rfl rfl ?_
            refine g_cmp_eq 101 108 (gd rfl) rfl rfl (fun c98 => ?_) (fun c98 => ?_)
            · skip
              have i98 := r_eq1 2 2 c98 i93 (in_c 2 rfl) rfl
              refine g_aload_n 109 (gd rfl) rfl rfl ?_
              refine g_getA (q2 := 31) 112 (gd rfl) rfl rfl rfl rfl ?_
              refine g_iload 114 (gd rfl) rfl rfl ?_
              refine g_aload_n 115 (gd rfl) rfl rfl ?_
              refine g_getI 118 (gd rfl) rfl rfl rfl (fun z115 e115 => ?_)
              refine g_iastore 119 (gd rfl) rfl (n := 5) rfl (in_ix i63 rfl) ?_
              have hI118 := inv_sI (q := 31) (j := y46_5.toNatClampNeg) hI70 rfl (in_w (-2147483648) 2147483647 (i_rng z115) rfl)
              refine g_iinc 122 (gd rfl) rfl rfl (Nat.le_of_ble_eq_true rfl) (fun z119 e119 => ?_)
              have i119 := in_add 1 5 e119 i63 (in_c 1 rfl) rfl rfl
              refine g_goto 46 (gd rfl) rfl ?_
              have v46 : z70a = (sI s70 31 y46_5.toNatClampNeg z115).2.2.1 46 2 := sI_F (e70)
              have v46a : w46_2_0 = (sI s70 31 y46_5.toNatClampNeg z115).2.2.1 2 0 := sI_F (fr_F (v46_2_0) hF70 rfl)
              have v46b : w46_2_1 = (sI s70 31 y46_5.toNatClampNeg z115).2.2.1 2 1 := sI_F (fr_F (v46_2_1) hF70 rfl)
              have v46c : w46_30_0 = (sI s70 31 y46_5.toNatClampNeg z115).2.2.1 30 0 := sI_F (fr_F (v46_30_0) hF70 rfl)
              have n46 : (z70a).toInt ≤ (u_46_1).toInt := by have a0 := ro_46_1; unfold In at a0; have a1 := (inv_F hIc46 448 28000 rfl v46_30_0); unfold In at a1; have a2 := (inv_F hIc46 0 32 rfl v46_2_1); unfold In at a2; have a3 := (inv_F hIc46 0 4000 rfl v46_2_0); unfold In at a3; have a4 := (inv_F hIc46 0 1000 rfl v46_46_2); unfold In at a4; have a5 := i63; unfold In at a5; have a6 := j46_4; unfold In at a6; have a7 := j46_3; unfold In at a7; have a8 := j46_2; unfold In at a8; have a9 := (in_c 2 rfl); unfold In at a9; have a10 := i119; unfold In at a10; have a11 := t_add e119 i63 (in_c 1 rfl) rfl; have a12 := (in_c 1 rfl); unfold In at a12; have a13 := i98; unfold In at a13; have a14 := i70b; unfold In at a14; have a15 := i70a; unfold In at a15; omega
              have n46a : (u_2_0).toInt ≤ (w46_2_0).toInt := by have a0 := ro_46_1; unfold In at a0; have a1 := (inv_F hIc46 448 28000 rfl v46_30_0); unfold In at a1; have a2 := (inv_F hIc46 0 32 rfl v46_2_1); unfold In at a2; have a3 := (inv_F hIc46 0 4000 rfl v46_2_0); unfold In at a3; have a4 := (inv_F hIc46 0 1000 rfl v46_46_2); unfold In at a4; have a5 := i63; unfold In at a5; have a6 := j46_4; unfold In at a6; have a7 := j46_3; unfold In at a7; have a8 := j46_2; unfold In at a8; have a9 := (in_c 2 rfl); unfold In at a9; have a10 := i119; unfold In at a10; have a11 := t_add e119 i63 (in_c 1 rfl) rfl; have a12 := (in_c 1 rfl); unfold In at a12; have a13 := i98; unfold In at a13; have a14 := i70b; unfold In at a14; have a15 := i70a; unfold In at a15; omega
              have n46b : (y46_3).toInt = 13 → (y46_4).toInt = 1 := by exact g46_0
              have n46c : (y46_4).toInt = 1 → 1 ≤ (z119).toInt → In ((sI s70 31 y46_5.toNatClampNeg z115).1 31 0) 0 25 := by intro h4 _; first | (exfalso; have h9 := p77 h4; have c8 : (Int32.ofInt 108).toInt = 108 := (by decide); omega) | (have hz1 := zn_1 h4; have hi0 : y46_5.toInt = 0 := (by have h9 := p50; have a0 := ro_46_1; unfold In at a0; have a1 := (inv_F hIc46 448 28000 rfl v46_30_0); unfold In at a1; have a2 := (inv_F hIc46 0 32 rfl v46_2_1); unfold In at a2; have a3 := (inv_F hIc46 0 4000 rfl v46_2_0); unfold In at a3; have a4 := (inv_F hIc46 0 1000 rfl v46_46_2); unfold In at a4; have a5 := i63; unfold In at a5; have a6 := j46_4; unfold In at a6; have a7 := j46_3; unfold In at a7; have a8 := j46_2; unfold In at a8; have a9 := (in_c 2 rfl); unfold In at a9; have a10 := i119; unfold In at a10; have a11 := t_add e119 i63 (in_c 1 rfl) rfl; have a12 := (in_c 1 rfl); unfold In at a12; have a13 := i98; unfold In at a13; have a14 := i70b; unfold In at a14; have a15 := i70a; unfold In at a15; omega); rw [sI_q, show y46_5.toNatClampNeg = 0 from (by show y46_5.toInt.toNat = 0; omega), ug_at, e115]; exact p70a (by rw [← e93]; exact c98.trans (by decide)))
              have n46d : Fr ([31], [], [(46, 2), (46, 3), (46, 4), (46, 5), (46, 6), (46, 7)], []) s (sI s70 31 y46_5.toNatClampNeg z115) := by exact fr_sI rfl (fr_tr rfl g46_2 hF70)
              exact gg_w (by omega) (gg_f (gf_cons rfl (gf_cons rfl (gf_cons rfl (gf_cons rfl (gf_cons rfl (gf_cons rfl gf_nil)))))) (ih46 (sI s70 31 y46_5.toNatClampNeg z115) y46_2 y46_3 y46_4 z119 z70a w46_2_0 w46_2_1 w46_30_0 hI118 (fr_sI rfl (fr_tr rfl hFc46 hF70)) (in_w 0 1000 j46_2 rfl) (in_w (-1) 25 j46_3 rfl) (in_w 1 5 j46_4 rfl) (in_w 0 5 i119 rfl) v46 v46a v46b v46c n46 n46a n46b n46c n46d (m_up mm46 (t_add e119 i63 (in_c 1 rfl) rfl) (in_w 1 1 (in_c 1 rfl) rfl))))
            · skip
              refine g_aload_n 102 (gd rfl) rfl rfl ?_
              refine g_iconst 2 103 (gd rfl) rfl rfl ?_
              refine g_iconst 3 104 (gd rfl) rfl rfl ?_
              refine g_callv (X := _) (As := [.int (Int32.ofInt 2), .int (Int32.ofInt 3)]) (r := []) (b := A 46) (q := 46) 107 (gd rfl) rfl rfl rfl rfl rfl (ww_o rfl) (Nat.le_of_ble_eq_true rfl) (Nat.zero_le _) (Nat.zero_le _) (k_169_46 (by omega) hI70 (in_w 2 2 (in_c 2 rfl) rfl) (in_w 3 4 (in_c 3 rfl) rfl)) (fun e u h => h) (fun v u h => ?_)
              obtain ⟨s104, hI104, hF104, z104, rfl, rfl, i104⟩ := h
              show GG _ _ _ _ _ _ _ _ [.int z104] _ _ _
              have n107 : KL s104 := by have hL9 : Fr ([31], [], [(46, 2), (46, 3), (46, 4), (46, 5), (46, 6), (46, 7)], []) s s104 := (fr_tr rfl (fr_tr rfl g46_2 hF70) hF104); exact kl_fr q_0 hL9 rfl
              have n107a : (z104).toInt ≠ 0 → (s104.2.2.1 30 0).toInt = nln s := by first | (intro h; exact absurd rfl h) | (intro h; exfalso; revert h; first | (unfold In at i39; omega) | (unfold In at i104; omega) | (unfold In at i144; omega))
              have n107b : (z104).toInt ≠ 0 → (s.2.2.1 2 0).toInt ≤ 3999 := by first | (intro h; exact absurd rfl h) | (intro h; exfalso; revert h; first | (unfold In at i39; omega) | (unfold In at i104; omega) | (unfold In at i144; omega))
              have n107c : ∀ k : Nat, (k : Int) < 7 * (s.2.2.1 2 0).toInt → s104.1 30 k = s.1 30 k := by have hL9 : Fr ([31], [], [(46, 2), (46, 3), (46, 4), (46, 5), (46, 6), (46, 7)], []) s s104 := (fr_tr rfl (fr_tr rfl g46_2 hF70) hF104); exact fun k _ => by rw [hL9.1 30 rfl]
              have n107d : (z70a).toInt ≤ (u_46_1).toInt := by have a0 := ro_46_1; unfold In at a0; have a1 := (inv_F hIc46 448 28000 rfl v46_30_0); unfold In at a1; have a2 := (inv_F hIc46 0 32 rfl v46_2_1); unfold In at a2; have a3 := (inv_F hIc46 0 4000 rfl v46_2_0); unfold In at a3; have a4 := (inv_F hIc46 0 1000 rfl v46_46_2); unfold In at a4; have a5 := i63; unfold In at a5; have a6 := j46_4; unfold In at a6; have a7 := j46_3; unfold In at a7; have a8 := j46_2; unfold In at a8; have a9 := (in_c 2 rfl); unfold In at a9; have a10 := i93; unfold In at a10; have a11 := i70b; unfold In at a11; have a12 := i70a; unfold In at a12; omega
              have n107e : (s104.2.2.1 46 2).toInt ≤ (s104.2.2.1 46 1).toInt := by have b0 : z70a = s104.2.2.1 46 2 := fr_F (e70) hF104 rfl; have b1 : u_46_1 = s104.2.2.1 46 1 := fr_F (fr_F (fr_F e_46_1 hFc46 rfl) hF70 rfl) hF104 rfl; rw [← b0, ← b1]; exact n107d
              have n107f : (u_2_0).toInt ≤ (w46_2_0).toInt := by have a0 := ro_46_1; unfold In at a0; have a1 := (inv_F hIc46 448 28000 rfl v46_30_0); unfold In at a1; have a2 := (inv_F hIc46 0 32 rfl v46_2_1); unfold In at a2; have a3 := (inv_F hIc46 0 4000 rfl v46_2_0); unfold In at a3; have a4 := (inv_F hIc46 0 1000 rfl v46_46_2); unfold In at a4; have a5 := i63; unfold In at a5; have a6 := j46_4; unfold In at a6; have a7 := j46_3; unfold In at a7; have a8 := j46_2; unfold In at a8; have a9 := (in_c 2 rfl); unfold In at a9; have a10 := i93; unfold In at a10; have a11 := i70b; unfold In at a11; have a12 := i70a; unfold In at a12; omega
              have n107g : (s.2.2.1 2 0).toInt ≤ (s104.2.2.1 2 0).toInt := by have b0 : w46_2_0 = s104.2.2.1 2 0 := fr_F (fr_F (v46_2_0) hF70 rfl) hF104 rfl; first | (rw [← b0, ← e_2_0]; exact n107f) | (rw [← b0]; exact n107f)
              exact g_ireturn (gd rfl) rfl (nb01 (in_w 0 1 i104 rfl)) (hP _ _ ⟨(A 30), s104, hI104, (fr_tr rfl (fr_tr rfl hFc46 hF70) hF104), n107e, n107g, z104, rfl, (by rw [ax_id]), in_w 0 1 i104 rfl, n107, n107a, n107b, n107c⟩)
          · skip
            have i82 := r_eq1 108 108 c82 i77a (in_c 108 rfl) rfl
            refine g_iconst 1 86 (gd rfl) rfl rfl ?_
            refine g_goto 90 (gd rfl) rfl ?_
            refine g_istore 92 (gd rfl) rfl (Nat.le_of_ble_eq_true rfl) ?_
            refine g_aload_n 93 (gd rfl) rfl rfl ?_
            refine g_getI 96 (gd rfl) rfl rfl rfl (fun z93 e93 => ?_)
            have i93 := inv_F hI70 0 5 rfl e93
            refine g_iload 98 (gd rfl) rfl rfl ?_
            refine g_cmp_eq 101 108 (gd rfl) rfl rfl (fun c98 => ?_) (fun c98 => ?_)
            · skip
              have i98 := r_eq1 1 1 c98 i93 (in_c 1 rfl) rfl
              refine g_aload_n 109 (gd rfl) rfl rfl ?_
              refine g_getA (q2 := 31) 112 (gd rfl) rfl rfl rfl rfl ?_
              refine g_iload 114 (gd rfl) rfl rfl ?_
              refine g_aload_n 115 (gd rfl) rfl rfl ?_
              refine g_getI 118 (gd rfl) rfl rfl rfl (fun z115 e115 => ?_)
              refine g_iastore 119 (gd rfl) rfl (n := 5) rfl (in_ix i63 rfl) ?_
              have hI118 := inv_sI (q := 31) (j := y46_5.toNatClampNeg) hI70 rfl (in_w (-2147483648) 2147483647 (i_rng z115) rfl)
              refine g_iinc 122 (gd rfl) rfl rfl (Nat.le_of_ble_eq_true rfl) (fun z119 e119 => ?_)
              have i119 := in_add 1 5 e119 i63 (in_c 1 rfl) rfl rfl
              refine g_goto 46 (gd rfl) rfl ?_
              have v46 : z70a = (sI s70 31 y46_5.toNatClampNeg z115).2.2.1 46 2 := sI_F (e70)
              have v46a : w46_2_0 = (sI s70 31 y46_5.toNatClampNeg z115).2.2.1 2 0 := sI_F (fr_F (v46_2_0) hF70 rfl)
              have v46b : w46_2_1 = (sI s70 31 y46_5.toNatClampNeg z115).2.2.1 2 1 := sI_F (fr_F (v46_2_1) hF70 rfl)
              have v46c : w46_30_0 = (sI s70 31 y46_5.toNatClampNeg z115).2.2.1 30 0 := sI_F (fr_F (v46_30_0) hF70 rfl)
              have n46 : (z70a).toInt ≤ (u_46_1).toInt := by have a0 := ro_46_1; unfold In at a0; have a1 := (inv_F hIc46 448 28000 rfl v46_30_0); unfold In at a1; have a2 := (inv_F hIc46 0 32 rfl v46_2_1); unfold In at a2; have a3 := (inv_F hIc46 0 4000 rfl v46_2_0); unfold In at a3; have a4 := (inv_F hIc46 0 1000 rfl v46_46_2); unfold In at a4; have a5 := i63; unfold In at a5; have a6 := j46_4; unfold In at a6; have a7 := j46_3; unfold In at a7; have a8 := j46_2; unfold In at a8; have a9 := (in_c 1 rfl); unfold In at a9; have a10 := i119; unfold In at a10; have a11 := t_add e119 i63 (in_c 1 rfl) rfl; have a12 := i98; unfold In at a12; have a13 := i70b; unfold In at a13; have a14 := i70a; unfold In at a14; omega
              have n46a : (u_2_0).toInt ≤ (w46_2_0).toInt := by have a0 := ro_46_1; unfold In at a0; have a1 := (inv_F hIc46 448 28000 rfl v46_30_0); unfold In at a1; have a2 := (inv_F hIc46 0 32 rfl v46_2_1); unfold In at a2; have a3 := (inv_F hIc46 0 4000 rfl v46_2_0); unfold In at a3; have a4 := (inv_F hIc46 0 1000 rfl v46_46_2); unfold In at a4; have a5 := i63; unfold In at a5; have a6 := j46_4; unfold In at a6; have a7 := j46_3; unfold In at a7; have a8 := j46_2; unfold In at a8; have a9 := (in_c 1 rfl); unfold In at a9; have a10 := i119; unfold In at a10; have a11 := t_add e119 i63 (in_c 1 rfl) rfl; have a12 := i98; unfold In at a12; have a13 := i70b; unfold In at a13; have a14 := i70a; unfold In at a14; omega
              have n46b : (y46_3).toInt = 13 → (y46_4).toInt = 1 := by exact g46_0
              have n46c : (y46_4).toInt = 1 → 1 ≤ (z119).toInt → In ((sI s70 31 y46_5.toNatClampNeg z115).1 31 0) 0 25 := by intro h4 _; first | (exfalso; have h9 := p77 h4; have c8 : (Int32.ofInt 108).toInt = 108 := (by decide); omega) | (have hz1 := zn_1 h4; have hi0 : y46_5.toInt = 0 := (by have h9 := p50; have a0 := ro_46_1; unfold In at a0; have a1 := (inv_F hIc46 448 28000 rfl v46_30_0); unfold In at a1; have a2 := (inv_F hIc46 0 32 rfl v46_2_1); unfold In at a2; have a3 := (inv_F hIc46 0 4000 rfl v46_2_0); unfold In at a3; have a4 := (inv_F hIc46 0 1000 rfl v46_46_2); unfold In at a4; have a5 := i63; unfold In at a5; have a6 := j46_4; unfold In at a6; have a7 := j46_3; unfold In at a7; have a8 := j46_2; unfold In at a8; have a9 := (in_c 1 rfl); unfold In at a9; have a10 := i119; unfold In at a10; have a11 := t_add e119 i63 (in_c 1 rfl) rfl; have a12 := i98; unfold In at a12; have a13 := i70b; unfold In at a13; have a14 := i70a; unfold In at a14; omega); rw [sI_q, show y46_5.toNatClampNeg = 0 from (by show y46_5.toInt.toNat = 0; omega), ug_at, e115]; exact p70a (by rw [← e93]; exact c98.trans (by decide)))
              have n46d : Fr ([31], [], [(46, 2), (46, 3), (46, 4), (46, 5), (46, 6), (46, 7)], []) s (sI s70 31 y46_5.toNatClampNeg z115) := by exact fr_sI rfl (fr_tr rfl g46_2 hF70)
              exact gg_w (by omega) (gg_f (gf_cons rfl (gf_cons rfl (gf_cons rfl (gf_cons rfl (gf_cons rfl (gf_cons rfl gf_nil)))))) (ih46 (sI s70 31 y46_5.toNatClampNeg z115) y46_2 y46_3 y46_4 z119 z70a w46_2_0 w46_2_1 w46_30_0 hI118 (fr_sI rfl (fr_tr rfl hFc46 hF70)) (in_w 0 1000 j46_2 rfl) (in_w (-1) 25 j46_3 rfl) (in_w 1 5 j46_4 rfl) (in_w 0 5 i119 rfl) v46 v46a v46b v46c n46 n46a n46b n46c n46d (m_up mm46 (t_add e119 i63 (in_c 1 rfl) rfl) (in_w 1 1 (in_c 1 rfl) rfl))))
            · skip
              refine g_aload_n 102 (gd rfl) rfl rfl ?_
              refine g_iconst 2 103 (gd rfl) rfl rfl ?_
              refine g_iconst 3 104 (gd rfl) rfl rfl ?_
              refine g_callv (X := _) (As := [.int (Int32.ofInt 2), .int (Int32.ofInt 3)]) (r := []) (b := A 46) (q := 46) 107 (gd rfl) rfl rfl rfl rfl rfl (ww_o rfl) (Nat.le_of_ble_eq_true rfl) (Nat.zero_le _) (Nat.zero_le _) (k_169_46 (by omega) hI70 (in_w 2 2 (in_c 2 rfl) rfl) (in_w 3 4 (in_c 3 rfl) rfl)) (fun e u h => h) (fun v u h => ?_)
              obtain ⟨s104, hI104, hF104, z104, rfl, rfl, i104⟩ := h
              show GG _ _ _ _ _ _ _ _ [.int z104] _ _ _
              have n107 : KL s104 := by have hL9 : Fr ([31], [], [(46, 2), (46, 3), (46, 4), (46, 5), (46, 6), (46, 7)], []) s s104 := (fr_tr rfl (fr_tr rfl g46_2 hF70) hF104); exact kl_fr q_0 hL9 rfl
              have n107a : (z104).toInt ≠ 0 → (s104.2.2.1 30 0).toInt = nln s := by first | (intro h; exact absurd rfl h) | (intro h; exfalso; revert h; first | (unfold In at i39; omega) | (unfold In at i104; omega) | (unfold In at i144; omega))
              have n107b : (z104).toInt ≠ 0 → (s.2.2.1 2 0).toInt ≤ 3999 := by first | (intro h; exact absurd rfl h) | (intro h; exfalso; revert h; first | (unfold In at i39; omega) | (unfold In at i104; omega) | (unfold In at i144; omega))
              have n107c : ∀ k : Nat, (k : Int) < 7 * (s.2.2.1 2 0).toInt → s104.1 30 k = s.1 30 k := by have hL9 : Fr ([31], [], [(46, 2), (46, 3), (46, 4), (46, 5), (46, 6), (46, 7)], []) s s104 := (fr_tr rfl (fr_tr rfl g46_2 hF70) hF104); exact fun k _ => by rw [hL9.1 30 rfl]
              have n107d : (z70a).toInt ≤ (u_46_1).toInt := by have a0 := ro_46_1; unfold In at a0; have a1 := (inv_F hIc46 448 28000 rfl v46_30_0); unfold In at a1; have a2 := (inv_F hIc46 0 32 rfl v46_2_1); unfold In at a2; have a3 := (inv_F hIc46 0 4000 rfl v46_2_0); unfold In at a3; have a4 := (inv_F hIc46 0 1000 rfl v46_46_2); unfold In at a4; have a5 := i63; unfold In at a5; have a6 := j46_4; unfold In at a6; have a7 := j46_3; unfold In at a7; have a8 := j46_2; unfold In at a8; have a9 := (in_c 1 rfl); unfold In at a9; have a10 := i93; unfold In at a10; have a11 := i70b; unfold In at a11; have a12 := i70a; unfold In at a12; omega
              have n107e : (s104.2.2.1 46 2).toInt ≤ (s104.2.2.1 46 1).toInt := by have b0 : z70a = s104.2.2.1 46 2 := fr_F (e70) hF104 rfl; have b1 : u_46_1 = s104.2.2.1 46 1 := fr_F (fr_F (fr_F e_46_1 hFc46 rfl) hF70 rfl) hF104 rfl; rw [← b0, ← b1]; exact n107d
              have n107f : (u_2_0).toInt ≤ (w46_2_0).toInt := by have a0 := ro_46_1; unfold In at a0; have a1 := (inv_F hIc46 448 28000 rfl v46_30_0); unfold In at a1; have a2 := (inv_F hIc46 0 32 rfl v46_2_1); unfold In at a2; have a3 := (inv_F hIc46 0 4000 rfl v46_2_0); unfold In at a3; have a4 := (inv_F hIc46 0 1000 rfl v46_46_2); unfold In at a4; have a5 := i63; unfold In at a5; have a6 := j46_4; unfold In at a6; have a7 := j46_3; unfold In at a7; have a8 := j46_2; unfold In at a8; have a9 := (in_c 1 rfl); unfold In at a9; have a10 := i93; unfold In at a10; have a11 := i70b; unfold In at a11; have a12 := i70a; unfold In at a12; omega
              have n107g : (s.2.2.1 2 0).toInt ≤ (s104.2.2.1 2 0).toInt := by have b0 : w46_2_0 = s104.2.2.1 2 0 := fr_F (fr_F (v46_2_0) hF70 rfl) hF104 rfl; first | (rw [← b0, ← e_2_0]; exact n107f) | (rw [← b0]; exact n107f)
              exact g_ireturn (gd rfl) rfl (nb01 (in_w 0 1 i104 rfl)) (hP _ _ ⟨(A 30), s104, hI104, (fr_tr rfl (fr_tr rfl hFc46 hF70) hF104), n107e, n107g, z104, rfl, (by rw [ax_id]), in_w 0 1 i104 rfl, n107, n107a, n107b, n107c⟩)
  refine g_enter2 (k := 136) (N := 6301) (by omega) rfl (Nat.le_of_ble_eq_true rfl) ?_
  refine g_aload_n 1 (gd rfl) rfl rfl ?_
  refine g_getI 4 (gd rfl) rfl rfl rfl (fun z1 e1 => ?_)
  have i1 := inv_F hI 0 1000 rfl e1
  refine g_istore_n 5 (gd rfl) rfl (Nat.le_of_ble_eq_true rfl) ?_
  refine g_aload_n 6 (gd rfl) rfl rfl ?_
  refine g_getI 9 (gd rfl) rfl rfl rfl (fun z6 e6 => ?_)
  have i6 := inv_F hI 0 5 rfl e6
  refine g_iconst 1 10 (gd rfl) rfl rfl ?_
  refine g_cmp_ne 13 20 (gd rfl) rfl rfl (fun c10 => ?_) (fun c10 => ?_)
  · skip
    refine g_iconst (-1) 21 (gd rfl) rfl rfl ?_
    refine g_istore_n 22 (gd rfl) rfl (Nat.le_of_ble_eq_true rfl) ?_
    refine g_iload_n 23 (gd rfl) rfl rfl ?_
    refine g_calls (As := [.int (Int32.ofInt (-1))]) (r := []) 26 (gd rfl) rfl rfl rfl rfl rfl (Nat.le_of_ble_eq_true rfl) (mc := 0) (ms := 0) (Nat.zero_le _) (Nat.zero_le _) (P := fun v u => _) ?_ (fun v u h => h)
    intro po23 xx23 hp23 hx23
    refine g_enter2 (k := 137) (N := 300) (by omega) rfl (Nat.le_of_ble_eq_true rfl) ?_
    refine g_iload_n 1 (gd rfl) rfl rfl ?_
    refine g_lsw [(0, 47), (13, 44), (19, 50), (22, 53)] 56 (gd rfl) rfl rfl rfl ⟨fun c23x1 => ?_, fun c23x1_0 => ⟨fun c23x1 => ?_, fun c23x1_1 => ⟨fun c23x1 => ?_, fun c23x1_2 => ⟨fun c23x1 => ?_, fun c23x1_3 => ?_⟩⟩⟩⟩
    · skip
      exact sw_ne c23x1 (in_c (-1) rfl) rfl
    · skip
      exact sw_ne c23x1 (in_c (-1) rfl) rfl
    · skip
      exact sw_ne c23x1 (in_c (-1) rfl) rfl
    · skip
      exact sw_ne c23x1 (in_c (-1) rfl) rfl
    · skip
      refine g_ldcs 5 58 (gd rfl) rfl rfl ?_
      refine g_areturn (gd rfl) rfl (hp23 _ _ ?_)
      show GG _ _ _ _ _ _ _ _ [.ref (zq Z (Int32.ofInt 5))] _ _ _
      refine g_astore 28 (gd rfl) rfl (Nat.le_of_ble_eq_true rfl) ?_
      refine g_aload 30 (gd rfl) rfl rfl ?_
      have i30 : In (Int32.ofInt 5) 0 6 := in_w 0 6 (in_c 5 rfl) rfl
      refine g_callS (X := _) (As := []) (r := []) (x := (Int32.ofInt 5)) 33 (gd rfl) rfl rfl rfl zm_428 rfl rfl rfl i30 (Nat.le_of_ble_eq_true rfl) (k_428 i30 (by omega)) (fun e u h => h) (fun v u h => ?_)
      obtain ⟨z30, rfl, rfl, i30a, p30⟩ := h
      show GG _ _ _ _ _ _ _ _ [.int z30] _ _ _
      refine g_if_eq 36 43 (gd rfl) rfl rfl (fun c33 => ?_) (fun c33 => ?_)
      · skip
        have i33 := z_eq 0 0 c33 i30a rfl
        refine g_iconst 0 44 (gd rfl) rfl rfl ?_
        refine g_istore 46 (gd rfl) rfl (Nat.le_of_ble_eq_true rfl) ?_
        have n46 : (u_46_2).toInt ≤ (u_46_1).toInt := by have a0 := (inv_F hI 0 1000 rfl e_46_1); unfold In at a0; have a1 := (inv_F hI 0 1000 rfl e_46_2); unfold In at a1; have a2 := (inv_F hI 448 28000 rfl e_30_0); unfold In at a2; have a3 := (inv_F hI 0 32 rfl e_2_1); unfold In at a3; have a4 := (inv_F hI 0 4000 rfl e_2_0); unfold In at a4; have a5 := (in_c 0 rfl); unfold In at a5; have a6 := (in_c (-1) rfl); unfold In at a6; have a7 := i1; unfold In at a7; have a8 := i6; unfold In at a8; omega
        have n46a : (u_2_0).toInt ≤ (u_2_0).toInt := by have a0 := (inv_F hI 0 1000 rfl e_46_1); unfold In at a0; have a1 := (inv_F hI 0 1000 rfl e_46_2); unfold In at a1; have a2 := (inv_F hI 448 28000 rfl e_30_0); unfold In at a2; have a3 := (inv_F hI 0 32 rfl e_2_1); unfold In at a3; have a4 := (inv_F hI 0 4000 rfl e_2_0); unfold In at a4; have a5 := (in_c 0 rfl); unfold In at a5; have a6 := (in_c (-1) rfl); unfold In at a6; have a7 := i1; unfold In at a7; have a8 := i6; unfold In at a8; omega
        have n46b : ((Int32.ofInt (-1))).toInt = 13 → ((Int32.ofInt 5)).toInt = 1 := by intro h; first | decide | (exfalso; have a0 := (inv_F hI 0 1000 rfl e_46_1); unfold In at a0; have a1 := (inv_F hI 0 1000 rfl e_46_2); unfold In at a1; have a2 := (inv_F hI 448 28000 rfl e_30_0); unfold In at a2; have a3 := (inv_F hI 0 32 rfl e_2_1); unfold In at a3; have a4 := (inv_F hI 0 4000 rfl e_2_0); unfold In at a4; have a5 := (in_c 0 rfl); unfold In at a5; have a6 := (in_c (-1) rfl); unfold In at a6; have a7 := i1; unfold In at a7; have a8 := i6; unfold In at a8; omega)
        have n46c : ((Int32.ofInt 5)).toInt = 1 → 1 ≤ ((Int32.ofInt 0)).toInt → In (s.1 31 0) 0 25 := by intro _ h; exfalso; revert h; decide
        have n46d : Fr ([31], [], [(46, 2), (46, 3), (46, 4), (46, 5), (46, 6), (46, 7)], []) s s := by exact fr_rf
        exact gg_w (by omega) (gg_f (gf_cons rfl (gf_cons rfl (gf_cons rfl (gf_cons rfl (gf_cons rfl (gf_cons rfl gf_nil)))))) (ct46 6 s z1 (Int32.ofInt (-1)) (Int32.ofInt 5) (Int32.ofInt 0) u_46_2 u_2_0 u_2_1 u_30_0 hI fr_rf (in_w 0 1000 i1 rfl) (in_w (-1) 25 (in_c (-1) rfl) rfl) (in_w 1 5 (in_c 5 rfl) rfl) (in_w 0 5 (in_c 0 rfl) rfl) e_46_2 e_2_0 e_2_1 e_30_0 n46 n46a n46b n46c n46d (m_in 6 (in_w 0 5 (in_c 0 rfl) rfl) rfl)))
      · skip
        have i33 := z_ne 1 1 c33 i30a rfl
        refine g_aload_n 37 (gd rfl) rfl rfl ?_
        refine g_iconst 2 38 (gd rfl) rfl rfl ?_
        refine g_iconst 3 39 (gd rfl) rfl rfl ?_
        refine g_callv (X := _) (As := [.int (Int32.ofInt 2), .int (Int32.ofInt 3)]) (r := []) (b := A 46) (q := 46) 42 (gd rfl) rfl rfl rfl rfl rfl (ww_o rfl) (Nat.le_of_ble_eq_true rfl) (Nat.zero_le _) (Nat.zero_le _) (k_169_46 (by omega) hI (in_w 2 2 (in_c 2 rfl) rfl) (in_w 3 4 (in_c 3 rfl) rfl)) (fun e u h => h) (fun v u h => ?_)
        obtain ⟨s39, hI39, hF39, z39, rfl, rfl, i39⟩ := h
        show GG _ _ _ _ _ _ _ _ [.int z39] _ _ _
        have n42 : KL s39 := by have hL9 : Fr ([31], [], [(46, 2), (46, 3), (46, 4), (46, 5), (46, 6), (46, 7)], []) s s39 := (fr_tr rfl fr_rf hF39); exact kl_fr q_0 hL9 rfl
        have n42a : (z39).toInt ≠ 0 → (s39.2.2.1 30 0).toInt = nln s := by first | (intro h; exact absurd rfl h) | (intro h; exfalso; revert h; first | (unfold In at i39; omega) | (unfold In at i104; omega) | (unfold In at i144; omega))
        have n42b : (z39).toInt ≠ 0 → (s.2.2.1 2 0).toInt ≤ 3999 := by first | (intro h; exact absurd rfl h) | (intro h; exfalso; revert h; first | (unfold In at i39; omega) | (unfold In at i104; omega) | (unfold In at i144; omega))
        have n42c : ∀ k : Nat, (k : Int) < 7 * (s.2.2.1 2 0).toInt → s39.1 30 k = s.1 30 k := by have hL9 : Fr ([31], [], [(46, 2), (46, 3), (46, 4), (46, 5), (46, 6), (46, 7)], []) s s39 := (fr_tr rfl fr_rf hF39); exact fun k _ => by rw [hL9.1 30 rfl]
        have n42d : (u_46_2).toInt ≤ (u_46_1).toInt := by have a0 := (inv_F hI 0 1000 rfl e_46_1); unfold In at a0; have a1 := (inv_F hI 0 1000 rfl e_46_2); unfold In at a1; have a2 := (inv_F hI 448 28000 rfl e_30_0); unfold In at a2; have a3 := (inv_F hI 0 32 rfl e_2_1); unfold In at a3; have a4 := (inv_F hI 0 4000 rfl e_2_0); unfold In at a4; have a5 := (in_c (-1) rfl); unfold In at a5; have a6 := i1; unfold In at a6; have a7 := i6; unfold In at a7; omega
        have n42e : (s39.2.2.1 46 2).toInt ≤ (s39.2.2.1 46 1).toInt := by have b0 : u_46_2 = s39.2.2.1 46 2 := fr_F (e_46_2) hF39 rfl; have b1 : u_46_1 = s39.2.2.1 46 1 := fr_F (e_46_1) hF39 rfl; rw [← b0, ← b1]; exact n42d
        have n42f : (u_2_0).toInt ≤ (u_2_0).toInt := by have a0 := (inv_F hI 0 1000 rfl e_46_1); unfold In at a0; have a1 := (inv_F hI 0 1000 rfl e_46_2); unfold In at a1; have a2 := (inv_F hI 448 28000 rfl e_30_0); unfold In at a2; have a3 := (inv_F hI 0 32 rfl e_2_1); unfold In at a3; have a4 := (inv_F hI 0 4000 rfl e_2_0); unfold In at a4; have a5 := (in_c (-1) rfl); unfold In at a5; have a6 := i1; unfold In at a6; have a7 := i6; unfold In at a7; omega
        have n42g : (s.2.2.1 2 0).toInt ≤ (s39.2.2.1 2 0).toInt := by have b0 : u_2_0 = s39.2.2.1 2 0 := fr_F (e_2_0) hF39 rfl; first | (rw [← b0, ← e_2_0]; exact n42f) | (rw [← b0]; exact n42f)
        exact g_ireturn (gd rfl) rfl (nb01 (in_w 0 1 i39 rfl)) (hP _ _ ⟨(A 30), s39, hI39, (fr_tr rfl fr_rf hF39), n42e, n42g, z39, rfl, (by rw [ax_id]), in_w 0 1 i39 rfl, n42, n42a, n42b, n42c⟩)
  · skip
    have i10 := r_eq1 1 1 c10 i6 (in_c 1 rfl) rfl
    refine g_aload_n 14 (gd rfl) rfl rfl ?_
    refine g_getI 17 (gd rfl) rfl rfl rfl (fun z14 e14 => ?_)
    have i17 : In z14 0 25 := by rw [e14]; exact q_1 (by rw [← e6]; exact c10.trans (by decide))
    refine g_goto 21 (gd rfl) rfl ?_
    refine g_istore_n 22 (gd rfl) rfl (Nat.le_of_ble_eq_true rfl) ?_
    refine g_iload_n 23 (gd rfl) rfl rfl ?_
    refine g_calls (As := [.int z14]) (r := []) 26 (gd rfl) rfl rfl rfl rfl rfl (Nat.le_of_ble_eq_true rfl) (mc := 0) (ms := 0) (Nat.zero_le _) (Nat.zero_le _) (P := fun v u => _) ?_ (fun v u h => h)
    intro po23 xx23 hp23 hx23
    refine g_enter2 (k := 137) (N := 300) (by omega) rfl (Nat.le_of_ble_eq_true rfl) ?_
    refine g_iload_n 1 (gd rfl) rfl rfl ?_
    refine g_lsw [(0, 47), (13, 44), (19, 50), (22, 53)] 56 (gd rfl) rfl rfl rfl ⟨fun c23x1 => ?_, fun c23x1_0 => ⟨fun c23x1 => ?_, fun c23x1_1 => ⟨fun c23x1 => ?_, fun c23x1_2 => ⟨fun c23x1 => ?_, fun c23x1_3 => ?_⟩⟩⟩⟩
    · skip
      have i23x1 := sw_eq c23x1
      refine g_ldcs 2 49 (gd rfl) rfl rfl ?_
      refine g_areturn (gd rfl) rfl (hp23 _ _ ?_)
      show GG _ _ _ _ _ _ _ _ [.ref (zq Z (Int32.ofInt 2))] _ _ _
      refine g_astore 28 (gd rfl) rfl (Nat.le_of_ble_eq_true rfl) ?_
      refine g_aload 30 (gd rfl) rfl rfl ?_
      have i30 : In (Int32.ofInt 2) 0 6 := in_w 0 6 (in_c 2 rfl) rfl
      refine g_callS (X := _) (As := []) (r := []) (x := (Int32.ofInt 2)) 33 (gd rfl) rfl rfl rfl zm_428 rfl rfl rfl i30 (Nat.le_of_ble_eq_true rfl) (k_428 i30 (by omega)) (fun e u h => h) (fun v u h => ?_)
      obtain ⟨z30, rfl, rfl, i30a, p30⟩ := h
      show GG _ _ _ _ _ _ _ _ [.int z30] _ _ _
      refine g_if_eq 36 43 (gd rfl) rfl rfl (fun c33 => ?_) (fun c33 => ?_)
      · skip
        have i33 := z_eq 0 0 c33 i30a rfl
        refine g_iconst 0 44 (gd rfl) rfl rfl ?_
        refine g_istore 46 (gd rfl) rfl (Nat.le_of_ble_eq_true rfl) ?_
        have n46 : (u_46_2).toInt ≤ (u_46_1).toInt := by have a0 := (inv_F hI 0 1000 rfl e_46_1); unfold In at a0; have a1 := (inv_F hI 0 1000 rfl e_46_2); unfold In at a1; have a2 := (inv_F hI 448 28000 rfl e_30_0); unfold In at a2; have a3 := (inv_F hI 0 32 rfl e_2_1); unfold In at a3; have a4 := (inv_F hI 0 4000 rfl e_2_0); unfold In at a4; have a5 := (in_c 0 rfl); unfold In at a5; have a6 := i23x1; unfold In at a6; have a7 := i1; unfold In at a7; have a8 := i10; unfold In at a8; omega
        have n46a : (u_2_0).toInt ≤ (u_2_0).toInt := by have a0 := (inv_F hI 0 1000 rfl e_46_1); unfold In at a0; have a1 := (inv_F hI 0 1000 rfl e_46_2); unfold In at a1; have a2 := (inv_F hI 448 28000 rfl e_30_0); unfold In at a2; have a3 := (inv_F hI 0 32 rfl e_2_1); unfold In at a3; have a4 := (inv_F hI 0 4000 rfl e_2_0); unfold In at a4; have a5 := (in_c 0 rfl); unfold In at a5; have a6 := i23x1; unfold In at a6; have a7 := i1; unfold In at a7; have a8 := i10; unfold In at a8; omega
        have n46b : (z14).toInt = 13 → ((Int32.ofInt 2)).toInt = 1 := by intro h; first | decide | (exfalso; have a0 := (inv_F hI 0 1000 rfl e_46_1); unfold In at a0; have a1 := (inv_F hI 0 1000 rfl e_46_2); unfold In at a1; have a2 := (inv_F hI 448 28000 rfl e_30_0); unfold In at a2; have a3 := (inv_F hI 0 32 rfl e_2_1); unfold In at a3; have a4 := (inv_F hI 0 4000 rfl e_2_0); unfold In at a4; have a5 := (in_c 0 rfl); unfold In at a5; have a6 := i23x1; unfold In at a6; have a7 := i1; unfold In at a7; have a8 := i10; unfold In at a8; omega)
        have n46c : ((Int32.ofInt 2)).toInt = 1 → 1 ≤ ((Int32.ofInt 0)).toInt → In (s.1 31 0) 0 25 := by intro _ h; exfalso; revert h; decide
        have n46d : Fr ([31], [], [(46, 2), (46, 3), (46, 4), (46, 5), (46, 6), (46, 7)], []) s s := by exact fr_rf
        exact gg_w (by omega) (gg_f (gf_cons rfl (gf_cons rfl (gf_cons rfl (gf_cons rfl (gf_cons rfl (gf_cons rfl gf_nil)))))) (ct46 6 s z1 z14 (Int32.ofInt 2) (Int32.ofInt 0) u_46_2 u_2_0 u_2_1 u_30_0 hI fr_rf (in_w 0 1000 i1 rfl) (in_w (-1) 25 i23x1 rfl) (in_w 1 5 (in_c 2 rfl) rfl) (in_w 0 5 (in_c 0 rfl) rfl) e_46_2 e_2_0 e_2_1 e_30_0 n46 n46a n46b n46c n46d (m_in 6 (in_w 0 5 (in_c 0 rfl) rfl) rfl)))
      · skip
        have i33 := z_ne 1 1 c33 i30a rfl
        refine g_aload_n 37 (gd rfl) rfl rfl ?_
        refine g_iconst 2 38 (gd rfl) rfl rfl ?_
        refine g_iconst 3 39 (gd rfl) rfl rfl ?_
        refine g_callv (X := _) (As := [.int (Int32.ofInt 2), .int (Int32.ofInt 3)]) (r := []) (b := A 46) (q := 46) 42 (gd rfl) rfl rfl rfl rfl rfl (ww_o rfl) (Nat.le_of_ble_eq_true rfl) (Nat.zero_le _) (Nat.zero_le _) (k_169_46 (by omega) hI (in_w 2 2 (in_c 2 rfl) rfl) (in_w 3 4 (in_c 3 rfl) rfl)) (fun e u h => h) (fun v u h => ?_)
        obtain ⟨s39, hI39, hF39, z39, rfl, rfl, i39⟩ := h
        show GG _ _ _ _ _ _ _ _ [.int z39] _ _ _
        have n42 : KL s39 := by have hL9 : Fr ([31], [], [(46, 2), (46, 3), (46, 4), (46, 5), (46, 6), (46, 7)], []) s s39 := (fr_tr rfl fr_rf hF39); exact kl_fr q_0 hL9 rfl
        have n42a : (z39).toInt ≠ 0 → (s39.2.2.1 30 0).toInt = nln s := by first | (intro h; exact absurd rfl h) | (intro h; exfalso; revert h; first | (unfold In at i39; omega) | (unfold In at i104; omega) | (unfold In at i144; omega))
        have n42b : (z39).toInt ≠ 0 → (s.2.2.1 2 0).toInt ≤ 3999 := by first | (intro h; exact absurd rfl h) | (intro h; exfalso; revert h; first | (unfold In at i39; omega) | (unfold In at i104; omega) | (unfold In at i144; omega))
        have n42c : ∀ k : Nat, (k : Int) < 7 * (s.2.2.1 2 0).toInt → s39.1 30 k = s.1 30 k := by have hL9 : Fr ([31], [], [(46, 2), (46, 3), (46, 4), (46, 5), (46, 6), (46, 7)], []) s s39 := (fr_tr rfl fr_rf hF39); exact fun k _ => by rw [hL9.1 30 rfl]
        have n42d : (u_46_2).toInt ≤ (u_46_1).toInt := by have a0 := (inv_F hI 0 1000 rfl e_46_1); unfold In at a0; have a1 := (inv_F hI 0 1000 rfl e_46_2); unfold In at a1; have a2 := (inv_F hI 448 28000 rfl e_30_0); unfold In at a2; have a3 := (inv_F hI 0 32 rfl e_2_1); unfold In at a3; have a4 := (inv_F hI 0 4000 rfl e_2_0); unfold In at a4; have a5 := i23x1; unfold In at a5; have a6 := i1; unfold In at a6; have a7 := i10; unfold In at a7; omega
        have n42e : (s39.2.2.1 46 2).toInt ≤ (s39.2.2.1 46 1).toInt := by have b0 : u_46_2 = s39.2.2.1 46 2 := fr_F (e_46_2) hF39 rfl; have b1 : u_46_1 = s39.2.2.1 46 1 := fr_F (e_46_1) hF39 rfl; rw [← b0, ← b1]; exact n42d
        have n42f : (u_2_0).toInt ≤ (u_2_0).toInt := by have a0 := (inv_F hI 0 1000 rfl e_46_1); unfold In at a0; have a1 := (inv_F hI 0 1000 rfl e_46_2); unfold In at a1; have a2 := (inv_F hI 448 28000 rfl e_30_0); unfold In at a2; have a3 := (inv_F hI 0 32 rfl e_2_1); unfold In at a3; have a4 := (inv_F hI 0 4000 rfl e_2_0); unfold In at a4; have a5 := i23x1; unfold In at a5; have a6 := i1; unfold In at a6; have a7 := i10; unfold In at a7; omega
        have n42g : (s.2.2.1 2 0).toInt ≤ (s39.2.2.1 2 0).toInt := by have b0 : u_2_0 = s39.2.2.1 2 0 := fr_F (e_2_0) hF39 rfl; first | (rw [← b0, ← e_2_0]; exact n42f) | (rw [← b0]; exact n42f)
        exact g_ireturn (gd rfl) rfl (nb01 (in_w 0 1 i39 rfl)) (hP _ _ ⟨(A 30), s39, hI39, (fr_tr rfl fr_rf hF39), n42e, n42g, z39, rfl, (by rw [ax_id]), in_w 0 1 i39 rfl, n42, n42a, n42b, n42c⟩)
    · skip
      have i23x1 := sw_eq c23x1
      refine g_ldcs 1 46 (gd rfl) rfl rfl ?_
      refine g_areturn (gd rfl) rfl (hp23 _ _ ?_)
      show GG _ _ _ _ _ _ _ _ [.ref (zq Z (Int32.ofInt 1))] _ _ _
      refine g_astore 28 (gd rfl) rfl (Nat.le_of_ble_eq_true rfl) ?_
      refine g_aload 30 (gd rfl) rfl rfl ?_
      have i30 : In (Int32.ofInt 1) 0 6 := in_w 0 6 (in_c 1 rfl) rfl
      refine g_callS (X := _) (As := []) (r := []) (x := (Int32.ofInt 1)) 33 (gd rfl) rfl rfl rfl zm_428 rfl rfl rfl i30 (Nat.le_of_ble_eq_true rfl) (k_428 i30 (by omega)) (fun e u h => h) (fun v u h => ?_)
      obtain ⟨z30, rfl, rfl, i30a, p30⟩ := h
      show GG _ _ _ _ _ _ _ _ [.int z30] _ _ _
      refine g_if_eq 36 43 (gd rfl) rfl rfl (fun c33 => ?_) (fun c33 => ?_)
      · skip
        have i33 := z_eq 0 0 c33 i30a rfl
        refine g_iconst 0 44 (gd rfl) rfl rfl ?_
        refine g_istore 46 (gd rfl) rfl (Nat.le_of_ble_eq_true rfl) ?_
        have n46 : (u_46_2).toInt ≤ (u_46_1).toInt := by have a0 := (inv_F hI 0 1000 rfl e_46_1); unfold In at a0; have a1 := (inv_F hI 0 1000 rfl e_46_2); unfold In at a1; have a2 := (inv_F hI 448 28000 rfl e_30_0); unfold In at a2; have a3 := (inv_F hI 0 32 rfl e_2_1); unfold In at a3; have a4 := (inv_F hI 0 4000 rfl e_2_0); unfold In at a4; have a5 := (in_c 0 rfl); unfold In at a5; have a6 := i23x1; unfold In at a6; have a7 := i1; unfold In at a7; have a8 := i10; unfold In at a8; omega
        have n46a : (u_2_0).toInt ≤ (u_2_0).toInt := by have a0 := (inv_F hI 0 1000 rfl e_46_1); unfold In at a0; have a1 := (inv_F hI 0 1000 rfl e_46_2); unfold In at a1; have a2 := (inv_F hI 448 28000 rfl e_30_0); unfold In at a2; have a3 := (inv_F hI 0 32 rfl e_2_1); unfold In at a3; have a4 := (inv_F hI 0 4000 rfl e_2_0); unfold In at a4; have a5 := (in_c 0 rfl); unfold In at a5; have a6 := i23x1; unfold In at a6; have a7 := i1; unfold In at a7; have a8 := i10; unfold In at a8; omega
        have n46b : (z14).toInt = 13 → ((Int32.ofInt 1)).toInt = 1 := by intro h; first | decide | (exfalso; have a0 := (inv_F hI 0 1000 rfl e_46_1); unfold In at a0; have a1 := (inv_F hI 0 1000 rfl e_46_2); unfold In at a1; have a2 := (inv_F hI 448 28000 rfl e_30_0); unfold In at a2; have a3 := (inv_F hI 0 32 rfl e_2_1); unfold In at a3; have a4 := (inv_F hI 0 4000 rfl e_2_0); unfold In at a4; have a5 := (in_c 0 rfl); unfold In at a5; have a6 := i23x1; unfold In at a6; have a7 := i1; unfold In at a7; have a8 := i10; unfold In at a8; omega)
        have n46c : ((Int32.ofInt 1)).toInt = 1 → 1 ≤ ((Int32.ofInt 0)).toInt → In (s.1 31 0) 0 25 := by intro _ h; exfalso; revert h; decide
        have n46d : Fr ([31], [], [(46, 2), (46, 3), (46, 4), (46, 5), (46, 6), (46, 7)], []) s s := by exact fr_rf
        exact gg_w (by omega) (gg_f (gf_cons rfl (gf_cons rfl (gf_cons rfl (gf_cons rfl (gf_cons rfl (gf_cons rfl gf_nil)))))) (ct46 6 s z1 z14 (Int32.ofInt 1) (Int32.ofInt 0) u_46_2 u_2_0 u_2_1 u_30_0 hI fr_rf (in_w 0 1000 i1 rfl) (in_w (-1) 25 i23x1 rfl) (in_w 1 5 (in_c 1 rfl) rfl) (in_w 0 5 (in_c 0 rfl) rfl) e_46_2 e_2_0 e_2_1 e_30_0 n46 n46a n46b n46c n46d (m_in 6 (in_w 0 5 (in_c 0 rfl) rfl) rfl)))
      · skip
        have i33 := z_ne 1 1 c33 i30a rfl
        refine g_aload_n 37 (gd rfl) rfl rfl ?_
        refine g_iconst 2 38 (gd rfl) rfl rfl ?_
        refine g_iconst 3 39 (gd rfl) rfl rfl ?_
        refine g_callv (X := _) (As := [.int (Int32.ofInt 2), .int (Int32.ofInt 3)]) (r := []) (b := A 46) (q := 46) 42 (gd rfl) rfl rfl rfl rfl rfl (ww_o rfl) (Nat.le_of_ble_eq_true rfl) (Nat.zero_le _) (Nat.zero_le _) (k_169_46 (by omega) hI (in_w 2 2 (in_c 2 rfl) rfl) (in_w 3 4 (in_c 3 rfl) rfl)) (fun e u h => h) (fun v u h => ?_)
        obtain ⟨s39, hI39, hF39, z39, rfl, rfl, i39⟩ := h
        show GG _ _ _ _ _ _ _ _ [.int z39] _ _ _
        have n42 : KL s39 := by have hL9 : Fr ([31], [], [(46, 2), (46, 3), (46, 4), (46, 5), (46, 6), (46, 7)], []) s s39 := (fr_tr rfl fr_rf hF39); exact kl_fr q_0 hL9 rfl
        have n42a : (z39).toInt ≠ 0 → (s39.2.2.1 30 0).toInt = nln s := by first | (intro h; exact absurd rfl h) | (intro h; exfalso; revert h; first | (unfold In at i39; omega) | (unfold In at i104; omega) | (unfold In at i144; omega))
        have n42b : (z39).toInt ≠ 0 → (s.2.2.1 2 0).toInt ≤ 3999 := by first | (intro h; exact absurd rfl h) | (intro h; exfalso; revert h; first | (unfold In at i39; omega) | (unfold In at i104; omega) | (unfold In at i144; omega))
        have n42c : ∀ k : Nat, (k : Int) < 7 * (s.2.2.1 2 0).toInt → s39.1 30 k = s.1 30 k := by have hL9 : Fr ([31], [], [(46, 2), (46, 3), (46, 4), (46, 5), (46, 6), (46, 7)], []) s s39 := (fr_tr rfl fr_rf hF39); exact fun k _ => by rw [hL9.1 30 rfl]
        have n42d : (u_46_2).toInt ≤ (u_46_1).toInt := by have a0 := (inv_F hI 0 1000 rfl e_46_1); unfold In at a0; have a1 := (inv_F hI 0 1000 rfl e_46_2); unfold In at a1; have a2 := (inv_F hI 448 28000 rfl e_30_0); unfold In at a2; have a3 := (inv_F hI 0 32 rfl e_2_1); unfold In at a3; have a4 := (inv_F hI 0 4000 rfl e_2_0); unfold In at a4; have a5 := i23x1; unfold In at a5; have a6 := i1; unfold In at a6; have a7 := i10; unfold In at a7; omega
        have n42e : (s39.2.2.1 46 2).toInt ≤ (s39.2.2.1 46 1).toInt := by have b0 : u_46_2 = s39.2.2.1 46 2 := fr_F (e_46_2) hF39 rfl; have b1 : u_46_1 = s39.2.2.1 46 1 := fr_F (e_46_1) hF39 rfl; rw [← b0, ← b1]; exact n42d
        have n42f : (u_2_0).toInt ≤ (u_2_0).toInt := by have a0 := (inv_F hI 0 1000 rfl e_46_1); unfold In at a0; have a1 := (inv_F hI 0 1000 rfl e_46_2); unfold In at a1; have a2 := (inv_F hI 448 28000 rfl e_30_0); unfold In at a2; have a3 := (inv_F hI 0 32 rfl e_2_1); unfold In at a3; have a4 := (inv_F hI 0 4000 rfl e_2_0); unfold In at a4; have a5 := i23x1; unfold In at a5; have a6 := i1; unfold In at a6; have a7 := i10; unfold In at a7; omega
        have n42g : (s.2.2.1 2 0).toInt ≤ (s39.2.2.1 2 0).toInt := by have b0 : u_2_0 = s39.2.2.1 2 0 := fr_F (e_2_0) hF39 rfl; first | (rw [← b0, ← e_2_0]; exact n42f) | (rw [← b0]; exact n42f)
        exact g_ireturn (gd rfl) rfl (nb01 (in_w 0 1 i39 rfl)) (hP _ _ ⟨(A 30), s39, hI39, (fr_tr rfl fr_rf hF39), n42e, n42g, z39, rfl, (by rw [ax_id]), in_w 0 1 i39 rfl, n42, n42a, n42b, n42c⟩)
    · skip
      have i23x1 := sw_eq c23x1
      refine g_ldcs 3 52 (gd rfl) rfl rfl ?_
      refine g_areturn (gd rfl) rfl (hp23 _ _ ?_)
      show GG _ _ _ _ _ _ _ _ [.ref (zq Z (Int32.ofInt 3))] _ _ _
      refine g_astore 28 (gd rfl) rfl (Nat.le_of_ble_eq_true rfl) ?_
      refine g_aload 30 (gd rfl) rfl rfl ?_
      have i30 : In (Int32.ofInt 3) 0 6 := in_w 0 6 (in_c 3 rfl) rfl
      refine g_callS (X := _) (As := []) (r := []) (x := (Int32.ofInt 3)) 33 (gd rfl) rfl rfl rfl zm_428 rfl rfl rfl i30 (Nat.le_of_ble_eq_true rfl) (k_428 i30 (by omega)) (fun e u h => h) (fun v u h => ?_)
      obtain ⟨z30, rfl, rfl, i30a, p30⟩ := h
      show GG _ _ _ _ _ _ _ _ [.int z30] _ _ _
      refine g_if_eq 36 43 (gd rfl) rfl rfl (fun c33 => ?_) (fun c33 => ?_)
      · skip
        have i33 := z_eq 0 0 c33 i30a rfl
        refine g_iconst 0 44 (gd rfl) rfl rfl ?_
        refine g_istore 46 (gd rfl) rfl (Nat.le_of_ble_eq_true rfl) ?_
        have n46 : (u_46_2).toInt ≤ (u_46_1).toInt := by have a0 := (inv_F hI 0 1000 rfl e_46_1); unfold In at a0; have a1 := (inv_F hI 0 1000 rfl e_46_2); unfold In at a1; have a2 := (inv_F hI 448 28000 rfl e_30_0); unfold In at a2; have a3 := (inv_F hI 0 32 rfl e_2_1); unfold In at a3; have a4 := (inv_F hI 0 4000 rfl e_2_0); unfold In at a4; have a5 := (in_c 0 rfl); unfold In at a5; have a6 := i23x1; unfold In at a6; have a7 := i1; unfold In at a7; have a8 := i10; unfold In at a8; omega
        have n46a : (u_2_0).toInt ≤ (u_2_0).toInt := by have a0 := (inv_F hI 0 1000 rfl e_46_1); unfold In at a0; have a1 := (inv_F hI 0 1000 rfl e_46_2); unfold In at a1; have a2 := (inv_F hI 448 28000 rfl e_30_0); unfold In at a2; have a3 := (inv_F hI 0 32 rfl e_2_1); unfold In at a3; have a4 := (inv_F hI 0 4000 rfl e_2_0); unfold In at a4; have a5 := (in_c 0 rfl); unfold In at a5; have a6 := i23x1; unfold In at a6; have a7 := i1; unfold In at a7; have a8 := i10; unfold In at a8; omega
        have n46b : (z14).toInt = 13 → ((Int32.ofInt 3)).toInt = 1 := by intro h; first | decide | (exfalso; have a0 := (inv_F hI 0 1000 rfl e_46_1); unfold In at a0; have a1 := (inv_F hI 0 1000 rfl e_46_2); unfold In at a1; have a2 := (inv_F hI 448 28000 rfl e_30_0); unfold In at a2; have a3 := (inv_F hI 0 32 rfl e_2_1); unfold In at a3; have a4 := (inv_F hI 0 4000 rfl e_2_0); unfold In at a4; have a5 := (in_c 0 rfl); unfold In at a5; have a6 := i23x1; unfold In at a6; have a7 := i1; unfold In at a7; have a8 := i10; unfold In at a8; omega)
        have n46c : ((Int32.ofInt 3)).toInt = 1 → 1 ≤ ((Int32.ofInt 0)).toInt → In (s.1 31 0) 0 25 := by intro _ h; exfalso; revert h; decide
        have n46d : Fr ([31], [], [(46, 2), (46, 3), (46, 4), (46, 5), (46, 6), (46, 7)], []) s s := by exact fr_rf
        exact gg_w (by omega) (gg_f (gf_cons rfl (gf_cons rfl (gf_cons rfl (gf_cons rfl (gf_cons rfl (gf_cons rfl gf_nil)))))) (ct46 6 s z1 z14 (Int32.ofInt 3) (Int32.ofInt 0) u_46_2 u_2_0 u_2_1 u_30_0 hI fr_rf (in_w 0 1000 i1 rfl) (in_w (-1) 25 i23x1 rfl) (in_w 1 5 (in_c 3 rfl) rfl) (in_w 0 5 (in_c 0 rfl) rfl) e_46_2 e_2_0 e_2_1 e_30_0 n46 n46a n46b n46c n46d (m_in 6 (in_w 0 5 (in_c 0 rfl) rfl) rfl)))
      · skip
        have i33 := z_ne 1 1 c33 i30a rfl
        refine g_aload_n 37 (gd rfl) rfl rfl ?_
        refine g_iconst 2 38 (gd rfl) rfl rfl ?_
        refine g_iconst 3 39 (gd rfl) rfl rfl ?_
        refine g_callv (X := _) (As := [.int (Int32.ofInt 2), .int (Int32.ofInt 3)]) (r := []) (b := A 46) (q := 46) 42 (gd rfl) rfl rfl rfl rfl rfl (ww_o rfl) (Nat.le_of_ble_eq_true rfl) (Nat.zero_le _) (Nat.zero_le _) (k_169_46 (by omega) hI (in_w 2 2 (in_c 2 rfl) rfl) (in_w 3 4 (in_c 3 rfl) rfl)) (fun e u h => h) (fun v u h => ?_)
        obtain ⟨s39, hI39, hF39, z39, rfl, rfl, i39⟩ := h
        show GG _ _ _ _ _ _ _ _ [.int z39] _ _ _
        have n42 : KL s39 := by have hL9 : Fr ([31], [], [(46, 2), (46, 3), (46, 4), (46, 5), (46, 6), (46, 7)], []) s s39 := (fr_tr rfl fr_rf hF39); exact kl_fr q_0 hL9 rfl
        have n42a : (z39).toInt ≠ 0 → (s39.2.2.1 30 0).toInt = nln s := by first | (intro h; exact absurd rfl h) | (intro h; exfalso; revert h; first | (unfold In at i39; omega) | (unfold In at i104; omega) | (unfold In at i144; omega))
        have n42b : (z39).toInt ≠ 0 → (s.2.2.1 2 0).toInt ≤ 3999 := by first | (intro h; exact absurd rfl h) | (intro h; exfalso; revert h; first | (unfold In at i39; omega) | (unfold In at i104; omega) | (unfold In at i144; omega))
        have n42c : ∀ k : Nat, (k : Int) < 7 * (s.2.2.1 2 0).toInt → s39.1 30 k = s.1 30 k := by have hL9 : Fr ([31], [], [(46, 2), (46, 3), (46, 4), (46, 5), (46, 6), (46, 7)], []) s s39 := (fr_tr rfl fr_rf hF39); exact fun k _ => by rw [hL9.1 30 rfl]
        have n42d : (u_46_2).toInt ≤ (u_46_1).toInt := by have a0 := (inv_F hI 0 1000 rfl e_46_1); unfold In at a0; have a1 := (inv_F hI 0 1000 rfl e_46_2); unfold In at a1; have a2 := (inv_F hI 448 28000 rfl e_30_0); unfold In at a2; have a3 := (inv_F hI 0 32 rfl e_2_1); unfold In at a3; have a4 := (inv_F hI 0 4000 rfl e_2_0); unfold In at a4; have a5 := i23x1; unfold In at a5; have a6 := i1; unfold In at a6; have a7 := i10; unfold In at a7; omega
        have n42e : (s39.2.2.1 46 2).toInt ≤ (s39.2.2.1 46 1).toInt := by have b0 : u_46_2 = s39.2.2.1 46 2 := fr_F (e_46_2) hF39 rfl; have b1 : u_46_1 = s39.2.2.1 46 1 := fr_F (e_46_1) hF39 rfl; rw [← b0, ← b1]; exact n42d
        have n42f : (u_2_0).toInt ≤ (u_2_0).toInt := by have a0 := (inv_F hI 0 1000 rfl e_46_1); unfold In at a0; have a1 := (inv_F hI 0 1000 rfl e_46_2); unfold In at a1; have a2 := (inv_F hI 448 28000 rfl e_30_0); unfold In at a2; have a3 := (inv_F hI 0 32 rfl e_2_1); unfold In at a3; have a4 := (inv_F hI 0 4000 rfl e_2_0); unfold In at a4; have a5 := i23x1; unfold In at a5; have a6 := i1; unfold In at a6; have a7 := i10; unfold In at a7; omega
        have n42g : (s.2.2.1 2 0).toInt ≤ (s39.2.2.1 2 0).toInt := by have b0 : u_2_0 = s39.2.2.1 2 0 := fr_F (e_2_0) hF39 rfl; first | (rw [← b0, ← e_2_0]; exact n42f) | (rw [← b0]; exact n42f)
        exact g_ireturn (gd rfl) rfl (nb01 (in_w 0 1 i39 rfl)) (hP _ _ ⟨(A 30), s39, hI39, (fr_tr rfl fr_rf hF39), n42e, n42g, z39, rfl, (by rw [ax_id]), in_w 0 1 i39 rfl, n42, n42a, n42b, n42c⟩)
    · skip
      have i23x1 := sw_eq c23x1
      refine g_ldcs 4 55 (gd rfl) rfl rfl ?_
      refine g_areturn (gd rfl) rfl (hp23 _ _ ?_)
      show GG _ _ _ _ _ _ _ _ [.ref (zq Z (Int32.ofInt 4))] _ _ _
      refine g_astore 28 (gd rfl) rfl (Nat.le_of_ble_eq_true rfl) ?_
      refine g_aload 30 (gd rfl) rfl rfl ?_
      have i30 : In (Int32.ofInt 4) 0 6 := in_w 0 6 (in_c 4 rfl) rfl
      refine g_callS (X := _) (As := []) (r := []) (x := (Int32.ofInt 4)) 33 (gd rfl) rfl rfl rfl zm_428 rfl rfl rfl i30 (Nat.le_of_ble_eq_true rfl) (k_428 i30 (by omega)) (fun e u h => h) (fun v u h => ?_)
      obtain ⟨z30, rfl, rfl, i30a, p30⟩ := h
      show GG _ _ _ _ _ _ _ _ [.int z30] _ _ _
      refine g_if_eq 36 43 (gd rfl) rfl rfl (fun c33 => ?_) (fun c33 => ?_)
      · skip
        have i33 := z_eq 0 0 c33 i30a rfl
        refine g_iconst 0 44 (gd rfl) rfl rfl ?_
        refine g_istore 46 (gd rfl) rfl (Nat.le_of_ble_eq_true rfl) ?_
        have n46 : (u_46_2).toInt ≤ (u_46_1).toInt := by have a0 := (inv_F hI 0 1000 rfl e_46_1); unfold In at a0; have a1 := (inv_F hI 0 1000 rfl e_46_2); unfold In at a1; have a2 := (inv_F hI 448 28000 rfl e_30_0); unfold In at a2; have a3 := (inv_F hI 0 32 rfl e_2_1); unfold In at a3; have a4 := (inv_F hI 0 4000 rfl e_2_0); unfold In at a4; have a5 := (in_c 0 rfl); unfold In at a5; have a6 := i23x1; unfold In at a6; have a7 := i1; unfold In at a7; have a8 := i10; unfold In at a8; omega
        have n46a : (u_2_0).toInt ≤ (u_2_0).toInt := by have a0 := (inv_F hI 0 1000 rfl e_46_1); unfold In at a0; have a1 := (inv_F hI 0 1000 rfl e_46_2); unfold In at a1; have a2 := (inv_F hI 448 28000 rfl e_30_0); unfold In at a2; have a3 := (inv_F hI 0 32 rfl e_2_1); unfold In at a3; have a4 := (inv_F hI 0 4000 rfl e_2_0); unfold In at a4; have a5 := (in_c 0 rfl); unfold In at a5; have a6 := i23x1; unfold In at a6; have a7 := i1; unfold In at a7; have a8 := i10; unfold In at a8; omega
        have n46b : (z14).toInt = 13 → ((Int32.ofInt 4)).toInt = 1 := by intro h; first | decide | (exfalso; have a0 := (inv_F hI 0 1000 rfl e_46_1); unfold In at a0; have a1 := (inv_F hI 0 1000 rfl e_46_2); unfold In at a1; have a2 := (inv_F hI 448 28000 rfl e_30_0); unfold In at a2; have a3 := (inv_F hI 0 32 rfl e_2_1); unfold In at a3; have a4 := (inv_F hI 0 4000 rfl e_2_0); unfold In at a4; have a5 := (in_c 0 rfl); unfold In at a5; have a6 := i23x1; unfold In at a6; have a7 := i1; unfold In at a7; have a8 := i10; unfold In at a8; omega)
        have n46c : ((Int32.ofInt 4)).toInt = 1 → 1 ≤ ((Int32.ofInt 0)).toInt → In (s.1 31 0) 0 25 := by intro _ h; exfalso; revert h; decide
        have n46d : Fr ([31], [], [(46, 2), (46, 3), (46, 4), (46, 5), (46, 6), (46, 7)], []) s s := by exact fr_rf
        exact gg_w (by omega) (gg_f (gf_cons rfl (gf_cons rfl (gf_cons rfl (gf_cons rfl (gf_cons rfl (gf_cons rfl gf_nil)))))) (ct46 6 s z1 z14 (Int32.ofInt 4) (Int32.ofInt 0) u_46_2 u_2_0 u_2_1 u_30_0 hI fr_rf (in_w 0 1000 i1 rfl) (in_w (-1) 25 i23x1 rfl) (in_w 1 5 (in_c 4 rfl) rfl) (in_w 0 5 (in_c 0 rfl) rfl) e_46_2 e_2_0 e_2_1 e_30_0 n46 n46a n46b n46c n46d (m_in 6 (in_w 0 5 (in_c 0 rfl) rfl) rfl)))
      · skip
        have i33 := z_ne 1 1 c33 i30a rfl
        refine g_aload_n 37 (gd rfl) rfl rfl ?_
        refine g_iconst 2 38 (gd rfl) rfl rfl ?_
        refine g_iconst 3 39 (gd rfl) rfl rfl ?_
        refine g_callv (X := _) (As := [.int (Int32.ofInt 2), .int (Int32.ofInt 3)]) (r := []) (b := A 46) (q := 46) 42 (gd rfl) rfl rfl rfl rfl rfl (ww_o rfl) (Nat.le_of_ble_eq_true rfl) (Nat.zero_le _) (Nat.zero_le _) (k_169_46 (by omega) hI (in_w 2 2 (in_c 2 rfl) rfl) (in_w 3 4 (in_c 3 rfl) rfl)) (fun e u h => h) (fun v u h => ?_)
        obtain ⟨s39, hI39, hF39, z39, rfl, rfl, i39⟩ := h
        show GG _ _ _ _ _ _ _ _ [.int z39] _ _ _
        have n42 : KL s39 := by have hL9 : Fr ([31], [], [(46, 2), (46, 3), (46, 4), (46, 5), (46, 6), (46, 7)], []) s s39 := (fr_tr rfl fr_rf hF39); exact kl_fr q_0 hL9 rfl
        have n42a : (z39).toInt ≠ 0 → (s39.2.2.1 30 0).toInt = nln s := by first | (intro h; exact absurd rfl h) | (intro h; exfalso; revert h; first | (unfold In at i39; omega) | (unfold In at i104; omega) | (unfold In at i144; omega))
        have n42b : (z39).toInt ≠ 0 → (s.2.2.1 2 0).toInt ≤ 3999 := by first | (intro h; exact absurd rfl h) | (intro h; exfalso; revert h; first | (unfold In at i39; omega) | (unfold In at i104; omega) | (unfold In at i144; omega))
        have n42c : ∀ k : Nat, (k : Int) < 7 * (s.2.2.1 2 0).toInt → s39.1 30 k = s.1 30 k := by have hL9 : Fr ([31], [], [(46, 2), (46, 3), (46, 4), (46, 5), (46, 6), (46, 7)], []) s s39 := (fr_tr rfl fr_rf hF39); exact fun k _ => by rw [hL9.1 30 rfl]
        have n42d : (u_46_2).toInt ≤ (u_46_1).toInt := by have a0 := (inv_F hI 0 1000 rfl e_46_1); unfold In at a0; have a1 := (inv_F hI 0 1000 rfl e_46_2); unfold In at a1; have a2 := (inv_F hI 448 28000 rfl e_30_0); unfold In at a2; have a3 := (inv_F hI 0 32 rfl e_2_1); unfold In at a3; have a4 := (inv_F hI 0 4000 rfl e_2_0); unfold In at a4; have a5 := i23x1; unfold In at a5; have a6 := i1; unfold In at a6; have a7 := i10; unfold In at a7; omega
        have n42e : (s39.2.2.1 46 2).toInt ≤ (s39.2.2.1 46 1).toInt := by have b0 : u_46_2 = s39.2.2.1 46 2 := fr_F (e_46_2) hF39 rfl; have b1 : u_46_1 = s39.2.2.1 46 1 := fr_F (e_46_1) hF39 rfl; rw [← b0, ← b1]; exact n42d
        have n42f : (u_2_0).toInt ≤ (u_2_0).toInt := by have a0 := (inv_F hI 0 1000 rfl e_46_1); unfold In at a0; have a1 := (inv_F hI 0 1000 rfl e_46_2); unfold In at a1; have a2 := (inv_F hI 448 28000 rfl e_30_0); unfold In at a2; have a3 := (inv_F hI 0 32 rfl e_2_1); unfold In at a3; have a4 := (inv_F hI 0 4000 rfl e_2_0); unfold In at a4; have a5 := i23x1; unfold In at a5; have a6 := i1; unfold In at a6; have a7 := i10; unfold In at a7; omega
        have n42g : (s.2.2.1 2 0).toInt ≤ (s39.2.2.1 2 0).toInt := by have b0 : u_2_0 = s39.2.2.1 2 0 := fr_F (e_2_0) hF39 rfl; first | (rw [← b0, ← e_2_0]; exact n42f) | (rw [← b0]; exact n42f)
        exact g_ireturn (gd rfl) rfl (nb01 (in_w 0 1 i39 rfl)) (hP _ _ ⟨(A 30), s39, hI39, (fr_tr rfl fr_rf hF39), n42e, n42g, z39, rfl, (by rw [ax_id]), in_w 0 1 i39 rfl, n42, n42a, n42b, n42c⟩)
    · skip
      refine g_ldcs 5 58 (gd rfl) rfl rfl ?_
      refine g_areturn (gd rfl) rfl (hp23 _ _ ?_)
      show GG _ _ _ _ _ _ _ _ [.ref (zq Z (Int32.ofInt 5))] _ _ _
      refine g_astore 28 (gd rfl) rfl (Nat.le_of_ble_eq_true rfl) ?_
      refine g_aload 30 (gd rfl) rfl rfl ?_
      have i30 : In (Int32.ofInt 5) 0 6 := in_w 0 6 (in_c 5 rfl) rfl
      refine g_callS (X := _) (As := []) (r := []) (x := (Int32.ofInt 5)) 33 (gd rfl) rfl rfl rfl zm_428 rfl rfl rfl i30 (Nat.le_of_ble_eq_true rfl) (k_428 i30 (by omega)) (fun e u h => h) (fun v u h => ?_)
      obtain ⟨z30, rfl, rfl, i30a, p30⟩ := h
      show GG _ _ _ _ _ _ _ _ [.int z30] _ _ _
      refine g_if_eq 36 43 (gd rfl) rfl rfl (fun c33 => ?_) (fun c33 => ?_)
      · skip
        have i33 := z_eq 0 0 c33 i30a rfl
        refine g_iconst 0 44 (gd rfl) rfl rfl ?_
        refine g_istore 46 (gd rfl) rfl (Nat.le_of_ble_eq_true rfl) ?_
        have n46 : (u_46_2).toInt ≤ (u_46_1).toInt := by have a0 := (inv_F hI 0 1000 rfl e_46_1); unfold In at a0; have a1 := (inv_F hI 0 1000 rfl e_46_2); unfold In at a1; have a2 := (inv_F hI 448 28000 rfl e_30_0); unfold In at a2; have a3 := (inv_F hI 0 32 rfl e_2_1); unfold In at a3; have a4 := (inv_F hI 0 4000 rfl e_2_0); unfold In at a4; have a5 := (in_c 0 rfl); unfold In at a5; have a6 := i17; unfold In at a6; have a7 := i1; unfold In at a7; have a8 := i10; unfold In at a8; omega
        have n46a : (u_2_0).toInt ≤ (u_2_0).toInt := by have a0 := (inv_F hI 0 1000 rfl e_46_1); unfold In at a0; have a1 := (inv_F hI 0 1000 rfl e_46_2); unfold In at a1; have a2 := (inv_F hI 448 28000 rfl e_30_0); unfold In at a2; have a3 := (inv_F hI 0 32 rfl e_2_1); unfold In at a3; have a4 := (inv_F hI 0 4000 rfl e_2_0); unfold In at a4; have a5 := (in_c 0 rfl); unfold In at a5; have a6 := i17; unfold In at a6; have a7 := i1; unfold In at a7; have a8 := i10; unfold In at a8; omega
        have n46b : (z14).toInt = 13 → ((Int32.ofInt 5)).toInt = 1 := by intro h; first | decide | (exfalso; have a0 := (inv_F hI 0 1000 rfl e_46_1); unfold In at a0; have a1 := (inv_F hI 0 1000 rfl e_46_2); unfold In at a1; have a2 := (inv_F hI 448 28000 rfl e_30_0); unfold In at a2; have a3 := (inv_F hI 0 32 rfl e_2_1); unfold In at a3; have a4 := (inv_F hI 0 4000 rfl e_2_0); unfold In at a4; have a5 := (in_c 0 rfl); unfold In at a5; have a6 := i17; unfold In at a6; have a7 := i1; unfold In at a7; have a8 := i10; unfold In at a8; omega)
        have n46c : ((Int32.ofInt 5)).toInt = 1 → 1 ≤ ((Int32.ofInt 0)).toInt → In (s.1 31 0) 0 25 := by intro _ h; exfalso; revert h; decide
        have n46d : Fr ([31], [], [(46, 2), (46, 3), (46, 4), (46, 5), (46, 6), (46, 7)], []) s s := by exact fr_rf
        exact gg_w (by omega) (gg_f (gf_cons rfl (gf_cons rfl (gf_cons rfl (gf_cons rfl (gf_cons rfl (gf_cons rfl gf_nil)))))) (ct46 6 s z1 z14 (Int32.ofInt 5) (Int32.ofInt 0) u_46_2 u_2_0 u_2_1 u_30_0 hI fr_rf (in_w 0 1000 i1 rfl) (in_w (-1) 25 i17 rfl) (in_w 1 5 (in_c 5 rfl) rfl) (in_w 0 5 (in_c 0 rfl) rfl) e_46_2 e_2_0 e_2_1 e_30_0 n46 n46a n46b n46c n46d (m_in 6 (in_w 0 5 (in_c 0 rfl) rfl) rfl)))
      · skip
        have i33 := z_ne 1 1 c33 i30a rfl
        refine g_aload_n 37 (gd rfl) rfl rfl ?_
        refine g_iconst 2 38 (gd rfl) rfl rfl ?_
        refine g_iconst 3 39 (gd rfl) rfl rfl ?_
        refine g_callv (X := _) (As := [.int (Int32.ofInt 2), .int (Int32.ofInt 3)]) (r := []) (b := A 46) (q := 46) 42 (gd rfl) rfl rfl rfl rfl rfl (ww_o rfl) (Nat.le_of_ble_eq_true rfl) (Nat.zero_le _) (Nat.zero_le _) (k_169_46 (by omega) hI (in_w 2 2 (in_c 2 rfl) rfl) (in_w 3 4 (in_c 3 rfl) rfl)) (fun e u h => h) (fun v u h => ?_)
        obtain ⟨s39, hI39, hF39, z39, rfl, rfl, i39⟩ := h
        show GG _ _ _ _ _ _ _ _ [.int z39] _ _ _
        have n42 : KL s39 := by have hL9 : Fr ([31], [], [(46, 2), (46, 3), (46, 4), (46, 5), (46, 6), (46, 7)], []) s s39 := (fr_tr rfl fr_rf hF39); exact kl_fr q_0 hL9 rfl
        have n42a : (z39).toInt ≠ 0 → (s39.2.2.1 30 0).toInt = nln s := by first | (intro h; exact absurd rfl h) | (intro h; exfalso; revert h; first | (unfold In at i39; omega) | (unfold In at i104; omega) | (unfold In at i144; omega))
        have n42b : (z39).toInt ≠ 0 → (s.2.2.1 2 0).toInt ≤ 3999 := by first | (intro h; exact absurd rfl h) | (intro h; exfalso; revert h; first | (unfold In at i39; omega) | (unfold In at i104; omega) | (unfold In at i144; omega))
        have n42c : ∀ k : Nat, (k : Int) < 7 * (s.2.2.1 2 0).toInt → s39.1 30 k = s.1 30 k := by have hL9 : Fr ([31], [], [(46, 2), (46, 3), (46, 4), (46, 5), (46, 6), (46, 7)], []) s s39 := (fr_tr rfl fr_rf hF39); exact fun k _ => by rw [hL9.1 30 rfl]
        have n42d : (u_46_2).toInt ≤ (u_46_1).toInt := by have a0 := (inv_F hI 0 1000 rfl e_46_1); unfold In at a0; have a1 := (inv_F hI 0 1000 rfl e_46_2); unfold In at a1; have a2 := (inv_F hI 448 28000 rfl e_30_0); unfold In at a2; have a3 := (inv_F hI 0 32 rfl e_2_1); unfold In at a3; have a4 := (inv_F hI 0 4000 rfl e_2_0); unfold In at a4; have a5 := i17; unfold In at a5; have a6 := i1; unfold In at a6; have a7 := i10; unfold In at a7; omega
        have n42e : (s39.2.2.1 46 2).toInt ≤ (s39.2.2.1 46 1).toInt := by have b0 : u_46_2 = s39.2.2.1 46 2 := fr_F (e_46_2) hF39 rfl; have b1 : u_46_1 = s39.2.2.1 46 1 := fr_F (e_46_1) hF39 rfl; rw [← b0, ← b1]; exact n42d
        have n42f : (u_2_0).toInt ≤ (u_2_0).toInt := by have a0 := (inv_F hI 0 1000 rfl e_46_1); unfold In at a0; have a1 := (inv_F hI 0 1000 rfl e_46_2); unfold In at a1; have a2 := (inv_F hI 448 28000 rfl e_30_0); unfold In at a2; have a3 := (inv_F hI 0 32 rfl e_2_1); unfold In at a3; have a4 := (inv_F hI 0 4000 rfl e_2_0); unfold In at a4; have a5 := i17; unfold In at a5; have a6 := i1; unfold In at a6; have a7 := i10; unfold In at a7; omega
        have n42g : (s.2.2.1 2 0).toInt ≤ (s39.2.2.1 2 0).toInt := by have b0 : u_2_0 = s39.2.2.1 2 0 := fr_F (e_2_0) hF39 rfl; first | (rw [← b0, ← e_2_0]; exact n42f) | (rw [← b0]; exact n42f)
        exact g_ireturn (gd rfl) rfl (nb01 (in_w 0 1 i39 rfl)) (hP _ _ ⟨(A 30), s39, hI39, (fr_tr rfl fr_rf hF39), n42e, n42g, z39, rfl, (by rw [ax_id]), in_w 0 1 i39 rfl, n42, n42a, n42b, n42c⟩)

def fm_134_1_32 : FM := ([33, 34, 35, 36, 37, 38], [], [(32, 0), (32, 1), (32, 2), (32, 3), (32, 4)], [])
/-- GraphHouse$Ledger.replay -/
theorem k_134_1_32 {Z : AmZ} {A : Nat → Nat} {s : GS} {ex : va_W} {d : Nat} {X : AmX} {x2 : Int32} {u_32_0 : Int32} {u_32_1 : Int32} {u_2_0 : Int32} {u_30_0 : Int32} (hd : 5 ≤ d) (hI : Inv s) (h2 : In x2 0 4000) (e_32_0 : u_32_0 = s.2.2.1 32 0) (e_32_1 : u_32_1 = s.2.2.1 32 1) (e_2_0 : u_2_0 = s.2.2.1 2 0) (e_30_0 : u_30_0 = s.2.2.1 30 0) (p_0 : (x2).toInt ≤ (u_2_0).toInt) (p_1 : 7 * (u_2_0).toInt ≤ (u_30_0).toInt) (q_0 : KL s) : GC Z d 134 [.ref (A 1), .ref (A 32), .int x2] (WW Z A s ++ ex) 0 0 (fun v u => ∃ t : GS, Inv t ∧ Fr fm_134_1_32 s t ∧ v = none ∧ u = WW Z A t ++ ex ∧ (KL t)) X := by
  intro post xp hP hX
  have ro_2_0 := inv_F hI 0 4000 rfl e_2_0
  have ro_30_0 := inv_F hI 448 28000 rfl e_30_0
  have ct17 : ∀ (k17 : Nat) (sc17 : GS) (y17_3 : Int32) (w17_32_0 : Int32) (w17_32_1 : Int32), Inv sc17 → Fr fm_134_1_32 s sc17 → (In y17_3 0 4000) → (w17_32_0 = sc17.2.2.1 32 0) → (w17_32_1 = sc17.2.2.1 32 1) → ((w17_32_0).toInt = (y17_3).toInt) → ((y17_3).toInt ≤ (x2).toInt) → (KV sc17 32) → 4000 - (y17_3).toInt < (k17 : Int) → GG Z (d - 1) 134 post (gx xp) (1 + k17 * 900) 17 (fun j => xlook j [(0, .ref (A 1)), (1, .ref (A 32)), (2, .int x2), (3, .int y17_3)]) [] (WW Z A sc17 ++ ex) 0 0 := by
    intro k17
    induction k17 with
    | zero => intro sc17 y17_3 w17_32_0 w17_32_1 hIc17 hFc17 j17_3 v17_32_0 v17_32_1 n17_0 n17_1 g17_0 mm17; exact m_no mm17 j17_3 rfl
    | succ k17 ih17 =>
      intro sc17 y17_3 w17_32_0 w17_32_1 hIc17 hFc17 j17_3 v17_32_0 v17_32_1 n17_0 n17_1 g17_0 mm17
      refine gg_w (M := 1 + k17 * 900 + 900) (by omega) ?_
      refine g_iload_n 18 (gd rfl) rfl rfl ?_
      refine g_iload_n 19 (gd rfl) rfl rfl ?_
      refine g_cmp_ge 22 33 (gd rfl) rfl rfl (fun c19 => ?_) (fun c19 => ?_)
      · skip
        have n33 : KL sc17 := by have hFF : Fr fm_134_1_32 s sc17 := hFc17; exact kl_sh q_0 hFF rfl (by rw [← v17_32_0, ← e_2_0]; have a0 := h2; unfold In at a0; have a1 := ro_30_0; unfold In at a1; have a2 := ro_2_0; unfold In at a2; have a3 := (inv_F hIc17 0 32 rfl v17_32_1); unfold In at a3; have a4 := (inv_F hIc17 0 4000 rfl v17_32_0); unfold In at a4; have a5 := j17_3; unfold In at a5; omega) g17_0
        exact g_return (gd rfl) rfl (hP _ _ ⟨sc17, hIc17, hFc17, rfl, rfl, n33⟩)
      · skip
        have i19 := r_lt1 0 3999 c19 j17_3 h2 rfl
        have i19a := r_lt2 1 4000 c19 j17_3 h2 rfl
        refine g_aload_n 23 (gd rfl) rfl rfl ?_
        refine g_aload_n 24 (gd rfl) rfl rfl ?_
        have i24 : In w17_32_0 0 3999 := by exact ⟨by have a0 := i19a; unfold In at a0; have a1 := ro_30_0; unfold In at a1; have a2 := ro_2_0; unfold In at a2; have a3 := (inv_F hIc17 0 32 rfl v17_32_1); unfold In at a3; have a4 := (inv_F hIc17 0 4000 rfl v17_32_0); unfold In at a4; have a5 := i19; unfold In at a5; omega, by have a0 := i19a; unfold In at a0; have a1 := ro_30_0; unfold In at a1; have a2 := ro_2_0; unfold In at a2; have a3 := (inv_F hIc17 0 32 rfl v17_32_1); unfold In at a3; have a4 := (inv_F hIc17 0 4000 rfl v17_32_0); unfold In at a4; have a5 := i19; unfold In at a5; omega⟩
        have v24 : u_30_0 = sc17.2.2.1 30 0 := fr_F e_30_0 hFc17 rfl
        have n24 : 7 * (w17_32_0).toInt + 7 ≤ (u_30_0).toInt := by have a0 := i19a; unfold In at a0; have a1 := ro_30_0; unfold In at a1; have a2 := ro_2_0; unfold In at a2; have a3 := (inv_F hIc17 0 32 rfl v17_32_1); unfold In at a3; have a4 := i24; unfold In at a4; have a5 := i19; unfold In at a5; omega
        have p24 : RW7 (sc17.1 30) (sc17.2.2.1 32 0).toInt.toNat := by rw [hFc17.1 30 rfl]; exact q_0.1 _ (by rw [← v17_32_0, ← e_2_0]; have a0 := i19a; unfold In at a0; have a1 := ro_30_0; unfold In at a1; have a2 := ro_2_0; unfold In at a2; have a3 := (inv_F hIc17 0 32 rfl v17_32_1); unfold In at a3; have a4 := i24; unfold In at a4; have a5 := i19; unfold In at a5; omega)
        have p24a : KV sc17 32 := by exact g17_0
        refine g_callv (X := _) (As := [.ref (A 32)]) (r := []) (b := A 1) (q := 1) 27 (gd rfl) rfl rfl rfl rfl rfl (ww_o rfl) (Nat.le_of_ble_eq_true rfl) (Nat.zero_le _) (Nat.zero_le _) (k_131_1_32 (by omega) hIc17 v17_32_0 v17_32_1 v24 (in_w 0 3999 i24 rfl) n24 p24 p24a) (fun e u h => h) (fun v u h => ?_)
        obtain ⟨s24, hI24, hF24, n24a, rfl, rfl, p24b⟩ := h
        obtain ⟨z24a, e24⟩ : ∃ w, w = s24.2.2.1 32 0 := ⟨_, rfl⟩
        have i24b := inv_F hI24 0 4000 rfl e24
        rw [← (show w17_32_0 = sc17.2.2.1 32 0 from v17_32_0)] at n24a
        rw [← (show z24a = s24.2.2.1 32 0 from e24)] at n24a
        show GG _ _ _ _ _ _ _ _ [] _ _ _
        refine g_iinc 30 (gd rfl) rfl rfl (Nat.le_of_ble_eq_true rfl) (fun z27 e27 => ?_)
        have i27 := in_add 1 4000 e27 i19 (in_c 1 rfl) rfl rfl
        refine g_goto 17 (gd rfl) rfl ?_
        have n17 : (z24a).toInt = (z27).toInt := by have a0 := i19a; unfold In at a0; have a1 := ro_30_0; unfold In at a1; have a2 := ro_2_0; unfold In at a2; have a3 := (inv_F hIc17 0 32 rfl v17_32_1); unfold In at a3; have a4 := i24; unfold In at a4; have a5 := i19; unfold In at a5; have a6 := i27; unfold In at a6; have a7 := t_add e27 i19 (in_c 1 rfl) rfl; have a8 := (in_c 1 rfl); unfold In at a8; have a9 := i24b; unfold In at a9; omega
        have n17a : (z27).toInt ≤ (x2).toInt := by have a0 := i19a; unfold In at a0; have a1 := ro_30_0; unfold In at a1; have a2 := ro_2_0; unfold In at a2; have a3 := (inv_F hIc17 0 32 rfl v17_32_1); unfold In at a3; have a4 := i24; unfold In at a4; have a5 := i19; unfold In at a5; have a6 := i27; unfold In at a6; have a7 := t_add e27 i19 (in_c 1 rfl) rfl; have a8 := (in_c 1 rfl); unfold In at a8; have a9 := i24b; unfold In at a9; omega
        have n17b : KV s24 32 := by exact p24b
        exact gg_w (by omega) (gg_f (gf_cons rfl (gf_cons rfl (gf_cons rfl (gf_cons rfl gf_nil)))) (ih17 s24 z27 z24a _ hI24 (fr_tr rfl hFc17 hF24) (in_w 0 4000 i27 rfl) e24 rfl n17 n17a n17b (m_up mm17 (t_add e27 i19 (in_c 1 rfl) rfl) (in_w 1 1 (in_c 1 rfl) rfl))))
  refine g_enter2 (k := 134) (N := 3601801) (by omega) rfl (Nat.le_of_ble_eq_true rfl) ?_
  refine g_iload_n 1 (gd rfl) rfl rfl ?_
  refine g_aload_n 2 (gd rfl) rfl rfl ?_
  refine g_getI 5 (gd rfl) rfl rfl rfl (fun z2 e2 => ?_)
  have q2 : u_32_0 = z2 := (e_32_0).trans e2.symm
  subst q2
  refine g_cmp_ge 8 12 (gd rfl) rfl rfl (fun c5 => ?_) (fun c5 => ?_)
  · skip
    refine g_aload_n 13 (gd rfl) rfl rfl ?_
    refine g_getI 16 (gd rfl) rfl rfl rfl (fun z13 e13 => ?_)
    have q13 : u_32_0 = z13 := (e_32_0).trans e13.symm
    subst q13
    refine g_istore_n 17 (gd rfl) rfl (Nat.le_of_ble_eq_true rfl) ?_
    have n17 : (u_32_0).toInt = (u_32_0).toInt := by have a0 := (inv_F hI 448 28000 rfl e_30_0); unfold In at a0; have a1 := (inv_F hI 0 4000 rfl e_2_0); unfold In at a1; have a2 := (inv_F hI 0 32 rfl e_32_1); unfold In at a2; have a3 := (inv_F hI 0 4000 rfl e_32_0); unfold In at a3; have a4 := h2; unfold In at a4; omega
    have n17a : (u_32_0).toInt ≤ (x2).toInt := by have a0 := (inv_F hI 448 28000 rfl e_30_0); unfold In at a0; have a1 := (inv_F hI 0 4000 rfl e_2_0); unfold In at a1; have a2 := (inv_F hI 0 32 rfl e_32_1); unfold In at a2; have a3 := (inv_F hI 0 4000 rfl e_32_0); unfold In at a3; have a4 := h2; unfold In at a4; omega
    have n17b : KV s 32 := by exact q_0.2.2.2.2
    exact gg_w (by omega) (gg_f (gf_cons rfl (gf_cons rfl (gf_cons rfl (gf_cons rfl gf_nil)))) (ct17 4001 s u_32_0 u_32_0 u_32_1 hI fr_rf (in_w 0 4000 (inv_F hI 0 4000 rfl e_32_0) rfl) e_32_0 e_32_1 n17 n17a n17b (m_in 4001 (in_w 0 4000 (inv_F hI 0 4000 rfl e_32_0) rfl) rfl)))
  · skip
    have i5 := r_lt1 0 3999 c5 h2 (inv_F hI 0 4000 rfl e_32_0) rfl
    have i5a := r_lt2 1 4000 c5 h2 (inv_F hI 0 4000 rfl e_32_0) rfl
    refine g_aload_n 9 (gd rfl) rfl rfl ?_
    refine g_callv (X := _) (As := []) (r := []) (b := A 32) (q := 32) 12 (gd rfl) rfl rfl rfl rfl rfl (ww_o rfl) (Nat.le_of_ble_eq_true rfl) (Nat.zero_le _) (Nat.zero_le _) (k_92_32 (by omega) hI ) (fun e u h => h) (fun v u h => ?_)
    obtain ⟨s9, hI9, hF9, n9, rfl, rfl, p9⟩ := h
    obtain ⟨z9a, e9⟩ : ∃ w, w = s9.2.2.1 32 0 := ⟨_, rfl⟩
    have i9a := inv_F hI9 0 4000 rfl e9
    rw [← (show z9a = s9.2.2.1 32 0 from e9)] at n9
    show GG _ _ _ _ _ _ _ _ [] _ _ _
    refine g_aload_n 13 (gd rfl) rfl rfl ?_
    refine g_getI 16 (gd rfl) rfl rfl rfl (fun z13 e13 => ?_)
    have q13 : z9a = z13 := (e9).trans e13.symm
    subst q13
    refine g_istore_n 17 (gd rfl) rfl (Nat.le_of_ble_eq_true rfl) ?_
    have n17 : (z9a).toInt = (z9a).toInt := by have a0 := (inv_F hI 448 28000 rfl e_30_0); unfold In at a0; have a1 := (inv_F hI 0 4000 rfl e_2_0); unfold In at a1; have a2 := (inv_F hI 0 32 rfl e_32_1); unfold In at a2; have a3 := i5a; unfold In at a3; have a4 := i5; unfold In at a4; have a5 := i9a; unfold In at a5; omega
    have n17a : (z9a).toInt ≤ (x2).toInt := by have a0 := (inv_F hI 448 28000 rfl e_30_0); unfold In at a0; have a1 := (inv_F hI 0 4000 rfl e_2_0); unfold In at a1; have a2 := (inv_F hI 0 32 rfl e_32_1); unfold In at a2; have a3 := i5a; unfold In at a3; have a4 := i5; unfold In at a4; have a5 := i9a; unfold In at a5; omega
    have n17b : KV s9 32 := by exact p9
    exact gg_w (by omega) (gg_f (gf_cons rfl (gf_cons rfl (gf_cons rfl (gf_cons rfl gf_nil)))) (ct17 4001 s9 z9a z9a _ hI9 (fr_tr rfl fr_rf hF9) (in_w 0 4000 i9a rfl) e9 rfl n17 n17a n17b (m_in 4001 (in_w 0 4000 i9a rfl) rfl)))

def fm_217_0 : FM := ([33, 34, 35, 36, 37, 38], [], [(0, 2), (32, 0), (32, 1), (32, 2), (32, 3), (32, 4)], [])
/-- GraphHouse.view -/
theorem k_217_0 {Z : AmZ} {A : Nat → Nat} {s : GS} {ex : va_W} {d : Nat} {x1 : Int32} {u_2_0 : Int32} {u_32_0 : Int32} {u_32_1 : Int32} {u_30_0 : Int32} (hd : 7 ≤ d) (hI : Inv s) (e_2_0 : u_2_0 = s.2.2.1 2 0) (e_32_0 : u_32_0 = s.2.2.1 32 0) (e_32_1 : u_32_1 = s.2.2.1 32 1) (e_30_0 : u_30_0 = s.2.2.1 30 0) (p_0 : 7 * (u_2_0).toInt ≤ (u_30_0).toInt) (q_0 : KL s) : GC Z d 217 [.ref (A 0), .int x1] (WW Z A s ++ ex) 3 18 (fun v u => ∃ t : GS, Inv t ∧ Fr fm_217_0 s t ∧ ∃ z : Int32, v = some (.int z) ∧ u = WW Z A t ++ ex ∧ In z 0 4000 ∧ (KL t)) (gE1 Z A ex ([], [], [], []) s) := by
  intro post xp hP hX
  have ro_2_0 := inv_F hI 0 4000 rfl e_2_0
  have ro_30_0 := inv_F hI 448 28000 rfl e_30_0
  refine g_enter2 (k := 217) (N := 900) (by omega) rfl (Nat.le_of_ble_eq_true rfl) ?_
  refine g_iload_n 1 (gd rfl) rfl rfl ?_
  refine g_iconst (-1) 2 (gd rfl) rfl rfl ?_
  refine g_cmp_lt 5 23 (gd rfl) rfl rfl (fun c2 => ?_) (fun c2 => ?_)
  · skip
    have i2 := r_lt1 (-2147483648) (-2) c2 (i_rng x1) (in_c (-1) rfl) rfl
    refine g_iconst 0 24 (gd rfl) rfl rfl ?_
    refine g_thr (E := am_IA) (y := yX11_allow) 27 (gd rfl) rfl rfl (Or.inl ⟨rfl, rfl, rfl⟩) (by omega) (Nat.le_of_ble_eq_true rfl) (Nat.le_of_ble_eq_true rfl) (Nat.le_of_ble_eq_true rfl) (fun c24 => ?_) (fun c24 => ?_)
    · skip
      exact zn_ne c24 (in_c 0 rfl) rfl
    · skip
      exact (hX _ _ ⟨rfl, s, hI, fr_rf, rfl⟩)
  · skip
    have i2 := r_le2 (-1) 2147483647 c2 (in_c (-1) rfl) (i_rng x1) rfl
    refine g_iload_n 6 (gd rfl) rfl rfl ?_
    refine g_aload_n 7 (gd rfl) rfl rfl ?_
    refine g_getA (q2 := 1) 10 (gd rfl) rfl rfl rfl rfl ?_
    refine g_getA (q2 := 2) 13 (gd rfl) rfl rfl rfl rfl ?_
    refine g_getI 16 (gd rfl) rfl rfl rfl (fun z13 e13 => ?_)
    have q13 : u_2_0 = z13 := (e_2_0).trans e13.symm
    subst q13
    refine g_cmp_gt 19 23 (gd rfl) rfl rfl (fun c16 => ?_) (fun c16 => ?_)
    · skip
      have i16 := r_lt2 1 2147483647 c16 (inv_F hI 0 4000 rfl e_2_0) i2 rfl
      refine g_iconst 0 24 (gd rfl) rfl rfl ?_
      refine g_thr (E := am_IA) (y := yX11_allow) 27 (gd rfl) rfl rfl (Or.inl ⟨rfl, rfl, rfl⟩) (by omega) (Nat.le_of_ble_eq_true rfl) (Nat.le_of_ble_eq_true rfl) (Nat.le_of_ble_eq_true rfl) (fun c24 => ?_) (fun c24 => ?_)
      · skip
        exact zn_ne c24 (in_c 0 rfl) rfl
      · skip
        exact (hX _ _ ⟨rfl, s, hI, fr_rf, rfl⟩)
    · skip
      have i16 := r_le1 (-1) 4000 c16 i2 (inv_F hI 0 4000 rfl e_2_0) rfl
      refine g_iconst 1 20 (gd rfl) rfl rfl ?_
      refine g_goto 24 (gd rfl) rfl ?_
      refine g_thr (E := am_IA) (y := yX11_allow) 27 (gd rfl) rfl rfl (Or.inl ⟨rfl, rfl, rfl⟩) (by omega) (Nat.le_of_ble_eq_true rfl) (Nat.le_of_ble_eq_true rfl) (Nat.le_of_ble_eq_true rfl) (fun c24 => ?_) (fun c24 => ?_)
      · skip
        refine g_aload_n 28 (gd rfl) rfl rfl ?_
        refine g_iload_n 29 (gd rfl) rfl rfl ?_
        refine g_putI 32 (gd rfl) rfl rfl rfl rfl ?_
        have hI29 := inv_sF (q := 0) (j := 2) hI rfl (in_w (-1) 4000 i16 rfl)
        refine g_iload_n 33 (gd rfl) rfl rfl ?_
        refine g_iconst (-1) 34 (gd rfl) rfl rfl ?_
        refine g_cmp_eq 37 49 (gd rfl) rfl rfl (fun c34 => ?_) (fun c34 => ?_)
        · skip
          have i34 := r_eq1 (-1) (-1) c34 i16 (in_c (-1) rfl) rfl
          refine g_aload_n 50 (gd rfl) rfl rfl ?_
          refine g_callv (X := _) (As := []) (r := []) (b := A 0) (q := 0) 53 (gd rfl) rfl rfl rfl rfl rfl (ww_o rfl) (Nat.le_of_ble_eq_true rfl) (mc := 0) (ms := 0) (Nat.zero_le _) (Nat.zero_le _) (P := fun v u => _) ?_ (fun e u h => h) (fun v u h => h)
          intro po50 xx50 hp50 hx50
          refine g_enter2 (k := 259) (N := 300) (by omega) rfl (Nat.le_of_ble_eq_true rfl) ?_
          refine g_aload_n 1 (gd rfl) rfl rfl ?_
          refine g_getI 4 (gd rfl) rfl rfl rfl (fun z50x1 e50x1 => ?_)
          have q50x1 : x1 = z50x1 := (sF_get).trans e50x1.symm
          subst q50x1
          refine g_iconst (-1) 5 (gd rfl) rfl rfl ?_
          refine g_cmp_ne 8 18 (gd rfl) rfl rfl (fun c50x5 => ?_) (fun c50x5 => ?_)
          · skip
            exact n_ne c50x5 i34 (in_c (-1) rfl) rfl
          · skip
            refine g_aload_n 9 (gd rfl) rfl rfl ?_
            refine g_getA (q2 := 1) 12 (gd rfl) rfl rfl rfl rfl ?_
            refine g_getA (q2 := 2) 15 (gd rfl) rfl rfl rfl rfl ?_
            refine g_goto 22 (gd rfl) rfl ?_
            refine g_areturn (gd rfl) rfl (hp50 _ _ ?_)
            show GG _ _ _ _ _ _ _ _ [.ref (A 2)] _ _ _
            refine g_getI 56 (gd rfl) rfl rfl rfl (fun z53 e53 => ?_)
            have q53 : u_2_0 = z53 := (sF_ne rfl (e_2_0)).trans e53.symm
            subst q53
            have n56 : KL (sF s 0 2 x1) := by exact kl_fr q_0 (show Fr ([], [], [(0, 2)], []) s (sF s 0 2 x1) from (fr_sF rfl fr_rf)) rfl
            exact g_ireturn (gd rfl) rfl rfl (hP _ _ ⟨(sF s 0 2 x1), hI29, (fr_sF rfl fr_rf), u_2_0, rfl, rfl, in_w 0 4000 (inv_F hI 0 4000 rfl e_2_0) rfl, n56⟩)
        · skip
          have i34 := r_ne1 0 4000 c34 i16 (in_c (-1) rfl) rfl
          refine g_aload_n 38 (gd rfl) rfl rfl ?_
          refine g_getA (q2 := 1) 41 (gd rfl) rfl rfl rfl rfl ?_
          refine g_aload_n 42 (gd rfl) rfl rfl ?_
          refine g_getA (q2 := 32) 45 (gd rfl) rfl rfl rfl rfl ?_
          refine g_iload_n 46 (gd rfl) rfl rfl ?_
          have v46 : u_32_0 = (sF s 0 2 x1).2.2.1 32 0 := sF_ne rfl (e_32_0)
          have v46a : u_32_1 = (sF s 0 2 x1).2.2.1 32 1 := sF_ne rfl (e_32_1)
          have v46b : u_2_0 = (sF s 0 2 x1).2.2.1 2 0 := sF_ne rfl (e_2_0)
          have v46c : u_30_0 = (sF s 0 2 x1).2.2.1 30 0 := sF_ne rfl (e_30_0)
          have n46 : (x1).toInt ≤ (u_2_0).toInt := by have a0 := i34; unfold In at a0; have a1 := (inv_F hI 448 28000 rfl e_30_0); unfold In at a1; have a2 := (inv_F hI 0 32 rfl e_32_1); unfold In at a2; have a3 := (inv_F hI 0 4000 rfl e_32_0); unfold In at a3; have a4 := (inv_F hI 0 4000 rfl e_2_0); unfold In at a4; omega
          have n46a : 7 * (u_2_0).toInt ≤ (u_30_0).toInt := by have a0 := i34; unfold In at a0; have a1 := (inv_F hI 448 28000 rfl e_30_0); unfold In at a1; have a2 := (inv_F hI 0 32 rfl e_32_1); unfold In at a2; have a3 := (inv_F hI 0 4000 rfl e_32_0); unfold In at a3; have a4 := (inv_F hI 0 4000 rfl e_2_0); unfold In at a4; omega
          have p46 : KL (sF s 0 2 x1) := by exact kl_fr q_0 (show Fr ([], [], [(0, 2)], []) s (sF s 0 2 x1) from (fr_sF rfl fr_rf)) rfl
          refine g_callv (X := _) (As := [.ref (A 32), .int x1]) (r := []) (b := A 1) (q := 1) 49 (gd rfl) rfl rfl rfl rfl rfl (ww_o rfl) (Nat.le_of_ble_eq_true rfl) (Nat.zero_le _) (Nat.zero_le _) (k_134_1_32 (by omega) hI29 (in_w 0 4000 i34 rfl) v46 v46a v46b v46c n46 n46a p46) (fun e u h => h) (fun v u h => ?_)
          obtain ⟨s46, hI46, hF46, rfl, rfl, p46a⟩ := h
          show GG _ _ _ _ _ _ _ _ [] _ _ _
          refine g_aload_n 50 (gd rfl) rfl rfl ?_
          refine g_callv (X := _) (As := []) (r := []) (b := A 0) (q := 0) 53 (gd rfl) rfl rfl rfl rfl rfl (ww_o rfl) (Nat.le_of_ble_eq_true rfl) (mc := 0) (ms := 0) (Nat.zero_le _) (Nat.zero_le _) (P := fun v u => _) ?_ (fun e u h => h) (fun v u h => h)
          intro po50 xx50 hp50 hx50
          refine g_enter2 (k := 259) (N := 300) (by omega) rfl (Nat.le_of_ble_eq_true rfl) ?_
          refine g_aload_n 1 (gd rfl) rfl rfl ?_
          refine g_getI 4 (gd rfl) rfl rfl rfl (fun z50x1 e50x1 => ?_)
          have q50x1 : x1 = z50x1 := (fr_F (s := (sF s 0 2 x1)) (sF_get) hF46 rfl).trans e50x1.symm
          subst q50x1
          refine g_iconst (-1) 5 (gd rfl) rfl rfl ?_
          refine g_cmp_ne 8 18 (gd rfl) rfl rfl (fun c50x5 => ?_) (fun c50x5 => ?_)
          · skip
            refine g_aload_n 19 (gd rfl) rfl rfl ?_
            refine g_getA (q2 := 32) 22 (gd rfl) rfl rfl rfl rfl ?_
            refine g_areturn (gd rfl) rfl (hp50 _ _ ?_)
            show GG _ _ _ _ _ _ _ _ [.ref (A 32)] _ _ _
            refine g_getI 56 (gd rfl) rfl rfl rfl (fun z53 e53 => ?_)
            have i53 := inv_F hI46 0 4000 rfl e53
            have n56 : KL s46 := by exact p46a
            exact g_ireturn (gd rfl) rfl rfl (hP _ _ ⟨s46, hI46, (fr_tr rfl (fr_sF rfl fr_rf) hF46), z53, rfl, rfl, in_w 0 4000 i53 rfl, n56⟩)
          · skip
            exact absurd c50x5 c34
      · skip
        exact zn_eq c24 (in_c 1 rfl) rfl

def fm_135_1_46 : FM := ([3, 4, 5, 6, 7, 8, 17, 18, 19, 20, 21, 22, 30, 31], [], [(2, 0), (2, 1), (2, 2), (2, 3), (2, 4), (16, 0), (16, 1), (16, 2), (16, 3), (16, 4), (30, 0), (46, 2), (46, 3), (46, 4), (46, 5), (46, 6), (46, 7)], [])
/-- GraphHouse$Ledger.carryOut -/
theorem k_135_1_46 {Z : AmZ} {A : Nat → Nat} {s : GS} {ex : va_W} {d : Nat} {X : AmX} {u_2_0 : Int32} {u_2_1 : Int32} {u_30_0 : Int32} {u_46_1 : Int32} (hd : 10 ≤ d) (hI : Inv s) (e_2_0 : u_2_0 = s.2.2.1 2 0) (e_2_1 : u_2_1 = s.2.2.1 2 1) (e_30_0 : u_30_0 = s.2.2.1 30 0) (e_46_1 : u_46_1 = s.2.2.1 46 1) (q_0 : KL s) : GC Z d 135 [.ref (A 1), .ref (A 46)] (WW Z A s ++ ex) (lgC s) (lgS s) (fun v u => ∃ a : Nat, ∃ t : GS, Inv t ∧ Fr fm_135_1_46 s t ∧ ∃ z : Int32, v = some (.int z) ∧ u = WW Z (ax A 30 a) t ++ ex ∧ In z (-4) 1000 ∧ (KL t)) X := by
  intro post xp hP hX
  have ro_46_1 := inv_F hI 0 1000 rfl e_46_1
  have ct17 : ∀ (k17 : Nat) (sc17 : GS) (ac17 : Nat) (cc17 : Nat) (cs17 : Nat) (y17_2 : Int32) (w17_46_2 : Int32) (w17_2_0 : Int32) (w17_2_1 : Int32) (w17_30_0 : Int32), Inv sc17 → Fr fm_135_1_46 s sc17 → (lgC sc17 ≤ cc17) → (lgS sc17 ≤ cs17) → (In y17_2 0 2001) → (w17_46_2 = sc17.2.2.1 46 2) → (w17_2_0 = sc17.2.2.1 2 0) → (w17_2_1 = sc17.2.2.1 2 1) → (w17_30_0 = sc17.2.2.1 30 0) → ((w17_46_2).toInt ≤ (u_46_1).toInt) → ((u_2_0).toInt ≤ (w17_2_0).toInt) → (KL sc17) → ((∀ p : Nat, p < 160 → sc17.1 18 p = s.1 4 p ∧ sc17.1 19 p = s.1 5 p) ∧ sc17.2.2.1 16 0 = s.2.2.1 2 0 ∧ sc17.2.2.1 16 1 = s.2.2.1 2 1) → (∀ k : Nat, (k : Int) < 7 * (s.2.2.1 2 0).toInt → sc17.1 30 k = s.1 30 k) → 2001 - (y17_2).toInt < (k17 : Int) → GG Z (d - 1) 135 post (gx xp) (1 + k17 * 900) 17 (fun j => xlook j [(0, .ref (A 1)), (1, .ref (A 46)), (2, .int y17_2)]) [] (WW Z (ax A 30 ac17) sc17 ++ ex) cc17 cs17 := by
    intro k17
    induction k17 with
    | zero => intro sc17 ac17 cc17 cs17 y17_2 w17_46_2 w17_2_0 w17_2_1 w17_30_0 hIc17 hFc17 hcc17 hcs17 j17_2 v17_46_2 v17_2_0 v17_2_1 v17_30_0 n17_0 n17_1 g17_0 g17_1 g17_2 mm17; exact m_no mm17 j17_2 rfl
    | succ k17 ih17 =>
      intro sc17 ac17 cc17 cs17 y17_2 w17_46_2 w17_2_0 w17_2_1 w17_30_0 hIc17 hFc17 hcc17 hcs17 j17_2 v17_46_2 v17_2_0 v17_2_1 v17_30_0 n17_0 n17_1 g17_0 g17_1 g17_2 mm17
      refine gg_w (M := 1 + k17 * 900 + 900) (by omega) ?_
      refine g_iload_n 18 (gd rfl) rfl rfl ?_
      refine g_sipush 1000 21 (gd rfl) rfl rfl ?_
      refine g_cmp_gt 24 68 (gd rfl) rfl rfl (fun c21 => ?_) (fun c21 => ?_)
      · skip
        have i21 := r_lt2 1001 2001 c21 (in_c 1000 rfl) j17_2 rfl
        refine g_bipush (-4) 70 (gd rfl) rfl rfl ?_
        have n70 : KL sc17 := by exact g17_0
        exact g_ireturn (gd rfl) rfl rfl (hP _ _ ⟨ac17, sc17, hIc17, hFc17, (Int32.ofInt (-4)), rfl, rfl, in_w (-4) 1000 (in_c (-4) rfl) rfl, n70⟩)
      · skip
        have i21 := r_le1 0 1000 c21 j17_2 (in_c 1000 rfl) rfl
        refine g_aload_n 25 (gd rfl) rfl rfl ?_
        refine g_bipush 7 27 (gd rfl) rfl rfl ?_
        refine g_iconst 1 28 (gd rfl) rfl rfl ?_
        have v28 : u_46_1 = sc17.2.2.1 46 1 := fr_F e_46_1 hFc17 rfl
        have n28 : (w17_46_2).toInt ≤ (u_46_1).toInt := by have a0 := ro_46_1; unfold In at a0; have a1 := (inv_F hIc17 448 28000 rfl v17_30_0); unfold In at a1; have a2 := (inv_F hIc17 0 32 rfl v17_2_1); unfold In at a2; have a3 := (inv_F hIc17 0 4000 rfl v17_2_0); unfold In at a3; have a4 := (inv_F hIc17 0 1000 rfl v17_46_2); unfold In at a4; have a5 := i21; unfold In at a5; omega
        refine g_callv (X := _) (As := [.int (Int32.ofInt 7), .int (Int32.ofInt 1)]) (r := []) (b := A 46) (q := 46) 31 (gd rfl) rfl rfl rfl rfl rfl (ww_o rfl) (Nat.le_of_ble_eq_true rfl) (Nat.zero_le _) (Nat.zero_le _) (k_171_46 (A := (ax A 30 ac17)) (by omega) hIc17 (in_w 6 7 (in_c 7 rfl) rfl) (in_w 0 1 (in_c 1 rfl) rfl) v17_46_2 v28 n28) (fun e u h => h) (fun v u h => ?_)
        obtain ⟨s28, hI28, hF28, n28a, n28b, n28c, rfl, rfl, p28, p28a⟩ := h
        obtain ⟨z28a, e28⟩ : ∃ w, w = s28.2.2.1 46 2 := ⟨_, rfl⟩
        have i28a := inv_F hI28 0 1000 rfl e28
        obtain ⟨z28b, e28a⟩ : ∃ w, w = s28.2.2.1 46 4 := ⟨_, rfl⟩
        have i28b := inv_F hI28 0 1000 rfl e28a
        rw [← (show z28a = s28.2.2.1 46 2 from e28)] at n28a
        rw [← (show u_46_1 = s28.2.2.1 46 1 from fr_F (fr_F e_46_1 hFc17 rfl) hF28 rfl)] at n28a
        rw [← (show z28a = s28.2.2.1 46 2 from e28)] at n28b
        rw [← (show z28b = s28.2.2.1 46 4 from e28a)] at n28b
        rw [← (show w17_46_2 = sc17.2.2.1 46 2 from v17_46_2)] at n28c
        rw [← (show z28b = s28.2.2.1 46 4 from e28a)] at n28c
        show GG _ _ _ _ _ _ _ _ [] _ _ _
        refine g_aload_n 32 (gd rfl) rfl rfl ?_
        refine g_getI (A := (ax A 30 ac17)) (q := 46) 35 (gd rfl) rfl rfl rfl (fun z32 e32 => ?_)
        have i32 := inv_F hI28 0 5 rfl e32
        refine g_if_ne 38 40 (gd rfl) rfl rfl (fun c35 => ?_) (fun c35 => ?_)
        · skip
          have i35 := z_ne 1 5 c35 i32 rfl
          refine g_aload_n 41 (gd rfl) rfl rfl ?_
          refine g_aload_n 42 (gd rfl) rfl rfl ?_
          have v42 : w17_2_0 = s28.2.2.1 2 0 := fr_F (v17_2_0) hF28 rfl
          have v42a : w17_2_1 = s28.2.2.1 2 1 := fr_F (v17_2_1) hF28 rfl
          have v42b : w17_30_0 = s28.2.2.1 30 0 := fr_F (v17_30_0) hF28 rfl
          have v42c : u_46_1 = s28.2.2.1 46 1 := fr_F (fr_F e_46_1 hFc17 rfl) hF28 rfl
          have n42 : (z28a).toInt ≤ (u_46_1).toInt := by have a0 := ro_46_1; unfold In at a0; have a1 := (inv_F hIc17 448 28000 rfl v17_30_0); unfold In at a1; have a2 := (inv_F hIc17 0 32 rfl v17_2_1); unfold In at a2; have a3 := (inv_F hIc17 0 4000 rfl v17_2_0); unfold In at a3; have a4 := (inv_F hIc17 0 1000 rfl v17_46_2); unfold In at a4; have a5 := i21; unfold In at a5; have a6 := i35; unfold In at a6; have a7 := i28b; unfold In at a7; have a8 := i28a; unfold In at a8; omega
          have p42 : KL s28 := by exact kl_fr g17_0 hF28 rfl
          have p42a : (s28.2.2.1 46 3).toInt = 1 → In (s28.2.2.1 46 5) 0 25 := by exact p28a
          refine g_callv (X := _) (As := [.ref (A 46)]) (r := []) (b := A 1) (q := 1) 45 (gd rfl) rfl rfl rfl rfl rfl (ww_o rfl) (Nat.le_of_ble_eq_true rfl) (Nat.le_trans (lg_lc (inv_F hI28 448 28000 (q := 30) (j := 0) rfl rfl)).1 (by have h2 := (lg_cg (hF28.2.2.1 30 0 rfl)).1; omega)) (Nat.le_trans (lg_lc (inv_F hI28 448 28000 (q := 30) (j := 0) rfl rfl)).2 (by have h2 := (lg_cg (hF28.2.2.1 30 0 rfl)).2; omega)) (k_136_1_46 (A := (ax A 30 ac17)) (by omega) hI28 v42 v42a v42b e28 v42c n42 p42 p42a) (fun e u h => h) (fun v u h => ?_)
          obtain ⟨a42, s42, hI42, hF42, n42a, n42b, z42, rfl, rfl, i42, p42b, p42c, p42d, p42e⟩ := h
          rw [ax_ax]
          obtain ⟨z42a, e42⟩ : ∃ w, w = s42.2.2.1 46 2 := ⟨_, rfl⟩
          have i42a := inv_F hI42 0 1000 rfl e42
          obtain ⟨z42b, e42a⟩ : ∃ w, w = s42.2.2.1 2 0 := ⟨_, rfl⟩
          have i42b := inv_F hI42 0 4000 rfl e42a
          rw [← (show z42a = s42.2.2.1 46 2 from e42)] at n42a
          rw [← (show u_46_1 = s42.2.2.1 46 1 from fr_F (fr_F (fr_F e_46_1 hFc17 rfl) hF28 rfl) hF42 rfl)] at n42a
          rw [← (show w17_2_0 = s28.2.2.1 2 0 from fr_F (v17_2_0) hF28 rfl)] at n42b
          rw [← (show z42b = s42.2.2.1 2 0 from e42a)] at n42b
          show GG _ _ _ _ _ _ _ _ [.int z42] _ _ _
          have hv42 : _ = s42.2.2.1 2 0 := (show z42b = s42.2.2.1 2 0 from e42a)
          refine g_if_ne 48 62 (gd rfl) rfl rfl (fun c45 => ?_) (fun c45 => ?_)
          · skip
            have i45 := z_ne 1 1 c45 i42 rfl
            refine g_iinc 65 (gd rfl) rfl rfl (Nat.le_of_ble_eq_true rfl) (fun z62 e62 => ?_)
            have i62 := in_add 1 1001 e62 i21 (in_c 1 rfl) rfl rfl
            refine g_goto 17 (gd rfl) rfl ?_
            have hr17 : lgC s42 ≤ (cc17 - lc s28) := by have h := (lgt_st (s := s28) (t := s42) (inv_F hI28 448 28000 (q := 30) (j := 0) rfl rfl) (p42d c45) (kl_fr g17_0 hF28 rfl).2.1 (p42c c45)).1; have h2 := (lg_cg (hF28.2.2.1 30 0 rfl)).1; omega
            have hr17a : lgS s42 ≤ (cs17 - lsl s28) := by have h := (lgt_st (s := s28) (t := s42) (inv_F hI28 448 28000 (q := 30) (j := 0) rfl rfl) (p42d c45) (kl_fr g17_0 hF28 rfl).2.1 (p42c c45)).2; have h2 := (lg_cg (hF28.2.2.1 30 0 rfl)).2; omega
            have n17 : (z42a).toInt ≤ (u_46_1).toInt := by have a0 := ro_46_1; unfold In at a0; have a1 := (inv_F hIc17 448 28000 rfl v17_30_0); unfold In at a1; have a2 := (inv_F hIc17 0 32 rfl v17_2_1); unfold In at a2; have a3 := (inv_F hIc17 0 4000 rfl v17_2_0); unfold In at a3; have a4 := (inv_F hIc17 0 1000 rfl v17_46_2); unfold In at a4; have a5 := i21; unfold In at a5; have a6 := i62; unfold In at a6; have a7 := t_add e62 i21 (in_c 1 rfl) rfl; have a8 := (in_c 1 rfl); unfold In at a8; have a9 := i42b; unfold In at a9; have a10 := i42a; unfold In at a10; omega
            have n17a : (u_2_0).toInt ≤ (z42b).toInt := by have a0 := ro_46_1; unfold In at a0; have a1 := (inv_F hIc17 448 28000 rfl v17_30_0); unfold In at a1; have a2 := (inv_F hIc17 0 32 rfl v17_2_1); unfold In at a2; have a3 := (inv_F hIc17 0 4000 rfl v17_2_0); unfold In at a3; have a4 := (inv_F hIc17 0 1000 rfl v17_46_2); unfold In at a4; have a5 := i21; unfold In at a5; have a6 := i62; unfold In at a6; have a7 := t_add e62 i21 (in_c 1 rfl) rfl; have a8 := (in_c 1 rfl); unfold In at a8; have a9 := i42b; unfold In at a9; have a10 := i42a; unfold In at a10; omega
            have n17b : KL s42 := by exact p42b
            have n17c : (∀ p : Nat, p < 160 → s42.1 18 p = s.1 4 p ∧ s42.1 19 p = s.1 5 p) ∧ s42.2.2.1 16 0 = s.2.2.1 2 0 ∧ s42.2.2.1 16 1 = s.2.2.1 2 1 := by exact ⟨fun p hp => by rw [hF42.1 18 rfl, hF42.1 19 rfl, hF28.1 18 rfl, hF28.1 19 rfl]; exact g17_1.1 p hp, by rw [hF42.2.2.1 16 0 rfl, hF28.2.2.1 16 0 rfl]; exact g17_1.2.1, by rw [hF42.2.2.1 16 1 rfl, hF28.2.2.1 16 1 rfl]; exact g17_1.2.2⟩
            have n17d : ∀ k : Nat, (k : Int) < 7 * (s.2.2.1 2 0).toInt → s42.1 30 k = s.1 30 k := by exact fun k hk => by rw [p42e k (by rw [hF28.2.2.1 2 0 rfl, ← v17_2_0]; rw [← e_2_0] at hk; have a0 := ro_46_1; unfold In at a0; have a1 := (inv_F hIc17 448 28000 rfl v17_30_0); unfold In at a1; have a2 := (inv_F hIc17 0 32 rfl v17_2_1); unfold In at a2; have a3 := (inv_F hIc17 0 4000 rfl v17_2_0); unfold In at a3; have a4 := (inv_F hIc17 0 1000 rfl v17_46_2); unfold In at a4; have a5 := i21; unfold In at a5; have a6 := i62; unfold In at a6; have a7 := t_add e62 i21 (in_c 1 rfl) rfl; have a8 := (in_c 1 rfl); unfold In at a8; have a9 := i42b; unfold In at a9; have a10 := i42a; unfold In at a10; omega), hF28.1 30 rfl]; exact g17_2 k hk
            exact gg_w (by omega) (gg_f (gf_cons rfl (gf_cons rfl (gf_cons rfl gf_nil))) (ih17 s42 a42 (cc17 - lc s28) (cs17 - lsl s28) z62 z42a z42b _ _ hI42 (fr_tr rfl (fr_tr rfl hFc17 hF28) hF42) hr17 hr17a (in_w 0 2001 i62 rfl) e42 e42a rfl rfl n17 n17a n17b n17c n17d (m_up mm17 (t_add e62 i21 (in_c 1 rfl) rfl) (in_w 1 1 (in_c 1 rfl) rfl))))
          · skip
            have i45 := z_eq 0 0 c45 i42 rfl
            refine g_aload_n 49 (gd rfl) rfl rfl ?_
            refine g_getA (A := (ax A 30 a42)) (q := 1) (q2 := 2) 52 (gd rfl) rfl rfl rfl rfl ?_
            refine g_aload_n 53 (gd rfl) rfl rfl ?_
            refine g_getA (A := (ax A 30 a42)) (q := 1) (q2 := 16) 56 (gd rfl) rfl rfl rfl rfl ?_
            refine g_callv (X := _) (As := [.ref (A 16)]) (r := []) (b := A 2) (q := 2) 59 (gd rfl) rfl rfl rfl rfl rfl (ww_o rfl) (Nat.le_of_ble_eq_true rfl) (Nat.zero_le _) (Nat.zero_le _) (k_93_2_16 (A := (ax A 30 a42)) (by omega) hI42 ) (fun e u h => h) (fun v u h => ?_)
            obtain ⟨s56, hI56, hF56, rfl, rfl, p56, p56a, p56b, p56c⟩ := h
            show GG _ _ _ _ _ _ _ _ [] _ _ _
            refine g_bipush (-4) 61 (gd rfl) rfl rfl ?_
            have n61 : KL s56 := by have hFF : Fr fm_135_1_46 s s56 := (fr_tr rfl (fr_tr rfl (fr_tr rfl hFc17 hF28) hF42) hF56); exact kl_bk q_0 (fun k hk => by rw [hF56.1 30 rfl, p42e k (by rw [hF28.2.2.1 2 0 rfl, ← v17_2_0]; rw [← e_2_0] at hk; have a0 := ro_46_1; unfold In at a0; have a1 := (inv_F hIc17 448 28000 rfl v17_30_0); unfold In at a1; have a2 := (inv_F hIc17 0 32 rfl v17_2_1); unfold In at a2; have a3 := (inv_F hIc17 0 4000 rfl v17_2_0); unfold In at a3; have a4 := (inv_F hIc17 0 1000 rfl v17_46_2); unfold In at a4; have a5 := i21; unfold In at a5; have a6 := i42a; unfold In at a6; omega), hF28.1 30 rfl]; exact g17_2 k hk) (by have h9 := p42b.2.1; rw [hF56.2.2.1 30 0 rfl]; rw [← hv42] at h9; rw [← e_2_0]; have a0 := ro_46_1; unfold In at a0; have a1 := (inv_F hIc17 448 28000 rfl v17_30_0); unfold In at a1; have a2 := (inv_F hIc17 0 32 rfl v17_2_1); unfold In at a2; have a3 := (inv_F hIc17 0 4000 rfl v17_2_0); unfold In at a3; have a4 := (inv_F hIc17 0 1000 rfl v17_46_2); unfold In at a4; have a5 := i21; unfold In at a5; have a6 := i42a; unfold In at a6; omega) (by rw [p56b, hF42.2.2.1 16 0 rfl, hF28.2.2.1 16 0 rfl]; exact g17_1.2.1) (by rw [p56c, hF42.2.2.1 16 1 rfl, hF28.2.2.1 16 1 rfl]; exact g17_1.2.2) (kn_cp q_0.2.2.2.1.2 (fun p hp => by rw [p56 p hp, hF42.1 18 rfl, hF28.1 18 rfl]; exact (g17_1.1 p hp).1) (fun p hp => by rw [p56a p hp, hF42.1 19 rfl, hF28.1 19 rfl]; exact (g17_1.1 p hp).2)) (hFF.2.2.1 32 0 rfl) (hFF.2.2.1 32 1 rfl) (hFF.1 34 rfl) (hFF.1 35 rfl)
            exact g_ireturn (gd rfl) rfl rfl (hP _ _ ⟨a42, s56, hI56, (fr_tr rfl (fr_tr rfl (fr_tr rfl hFc17 hF28) hF42) hF56), (Int32.ofInt (-4)), rfl, rfl, in_w (-4) 1000 (in_c (-4) rfl) rfl, n61⟩)
        · skip
          have i35 := z_eq 0 0 c35 i32 rfl
          refine g_iload_n 39 (gd rfl) rfl rfl ?_
          have n39 : KL s28 := by exact kl_fr g17_0 hF28 rfl
          exact g_ireturn (gd rfl) rfl rfl (hP _ _ ⟨ac17, s28, hI28, (fr_tr rfl hFc17 hF28), y17_2, rfl, rfl, in_w (-4) 1000 i21 rfl, n39⟩)
  refine g_enter2 (k := 135) (N := 1802701) (by omega) rfl (Nat.le_of_ble_eq_true rfl) ?_
  refine g_aload_n 1 (gd rfl) rfl rfl ?_
  refine g_getA (q2 := 16) 4 (gd rfl) rfl rfl rfl rfl ?_
  refine g_aload_n 5 (gd rfl) rfl rfl ?_
  refine g_getA (q2 := 2) 8 (gd rfl) rfl rfl rfl rfl ?_
  refine g_callv (X := _) (As := [.ref (A 2)]) (r := []) (b := A 16) (q := 16) 11 (gd rfl) rfl rfl rfl rfl rfl (ww_o rfl) (Nat.le_of_ble_eq_true rfl) (Nat.zero_le _) (Nat.zero_le _) (k_93_16_2 (by omega) hI ) (fun e u h => h) (fun v u h => ?_)
  obtain ⟨s8, hI8, hF8, rfl, rfl, p8, p8a, p8b, p8c⟩ := h
  show GG _ _ _ _ _ _ _ _ [] _ _ _
  refine g_aload_n 12 (gd rfl) rfl rfl ?_
  refine g_callv (X := _) (As := []) (r := []) (b := A 46) (q := 46) 15 (gd rfl) rfl rfl rfl rfl rfl (ww_o rfl) (Nat.le_of_ble_eq_true rfl) (mc := 0) (ms := 0) (Nat.zero_le _) (Nat.zero_le _) (P := fun v u => _) ?_ (fun e u h => h) (fun v u h => h)
  intro po12 xx12 hp12 hx12
  refine g_enter2 (k := 167) (N := 300) (by omega) rfl (Nat.le_of_ble_eq_true rfl) ?_
  refine g_aload_n 1 (gd rfl) rfl rfl ?_
  refine g_iconst 0 2 (gd rfl) rfl rfl ?_
  refine g_putI 5 (gd rfl) rfl rfl rfl rfl ?_
  have hI12x2 := inv_sF (q := 46) (j := 2) hI8 rfl (in_w 0 1000 (in_c 0 rfl) rfl)
  refine g_aload_n 6 (gd rfl) rfl rfl ?_
  refine g_iconst (-1) 7 (gd rfl) rfl rfl ?_
  refine g_putI 10 (gd rfl) rfl rfl rfl rfl ?_
  have hI12x7 := inv_sF (q := 46) (j := 6) hI12x2 rfl (in_w (-1) 5 (in_c (-1) rfl) rfl)
  refine g_aload_n 11 (gd rfl) rfl rfl ?_
  refine g_iconst (-1) 12 (gd rfl) rfl rfl ?_
  refine g_putI 15 (gd rfl) rfl rfl rfl rfl ?_
  have hI12x12 := inv_sF (q := 46) (j := 7) hI12x7 rfl (in_w (-1) 1000 (in_c (-1) rfl) rfl)
  refine g_return (gd rfl) rfl (hp12 _ _ ?_)
  show GG _ _ _ _ _ _ _ _ [] _ _ _
  refine g_iconst 0 16 (gd rfl) rfl rfl ?_
  refine g_istore_n 17 (gd rfl) rfl (Nat.le_of_ble_eq_true rfl) ?_
  have hr17 : lgC (sF (sF (sF s8 46 2 (Int32.ofInt 0)) 46 6 (Int32.ofInt (-1))) 46 7 (Int32.ofInt (-1))) ≤ (lgC s) := by exact Nat.le_of_eq (lg_cg ((show Fr ([17, 18, 19, 20, 21, 22], [], [(16, 0), (16, 1), (16, 2), (16, 3), (16, 4), (46, 2), (46, 6), (46, 7)], []) s (sF (sF (sF s8 46 2 (Int32.ofInt 0)) 46 6 (Int32.ofInt (-1))) 46 7 (Int32.ofInt (-1))) from (fr_sF rfl (fr_sF rfl (fr_sF rfl (fr_tr rfl fr_rf hF8))))).2.2.1 30 0 rfl)).1
  have hr17a : lgS (sF (sF (sF s8 46 2 (Int32.ofInt 0)) 46 6 (Int32.ofInt (-1))) 46 7 (Int32.ofInt (-1))) ≤ (lgS s) := by exact Nat.le_of_eq (lg_cg ((show Fr ([17, 18, 19, 20, 21, 22], [], [(16, 0), (16, 1), (16, 2), (16, 3), (16, 4), (46, 2), (46, 6), (46, 7)], []) s (sF (sF (sF s8 46 2 (Int32.ofInt 0)) 46 6 (Int32.ofInt (-1))) 46 7 (Int32.ofInt (-1))) from (fr_sF rfl (fr_sF rfl (fr_sF rfl (fr_tr rfl fr_rf hF8))))).2.2.1 30 0 rfl)).2
  rw [show WW Z A (sF (sF (sF s8 46 2 (Int32.ofInt 0)) 46 6 (Int32.ofInt (-1))) 46 7 (Int32.ofInt (-1))) ++ ex = WW Z (ax A 30 (A 30)) (sF (sF (sF s8 46 2 (Int32.ofInt 0)) 46 6 (Int32.ofInt (-1))) 46 7 (Int32.ofInt (-1))) ++ ex from by rw [ax_id]]
  have v17 : (Int32.ofInt 0) = (sF (sF (sF s8 46 2 (Int32.ofInt 0)) 46 6 (Int32.ofInt (-1))) 46 7 (Int32.ofInt (-1))).2.2.1 46 2 := sF_ne rfl (sF_ne rfl (sF_get))
  have v17a : u_2_0 = (sF (sF (sF s8 46 2 (Int32.ofInt 0)) 46 6 (Int32.ofInt (-1))) 46 7 (Int32.ofInt (-1))).2.2.1 2 0 := sF_ne rfl (sF_ne rfl (sF_ne rfl (fr_F (e_2_0) hF8 rfl)))
  have v17b : u_2_1 = (sF (sF (sF s8 46 2 (Int32.ofInt 0)) 46 6 (Int32.ofInt (-1))) 46 7 (Int32.ofInt (-1))).2.2.1 2 1 := sF_ne rfl (sF_ne rfl (sF_ne rfl (fr_F (e_2_1) hF8 rfl)))
  have v17c : u_30_0 = (sF (sF (sF s8 46 2 (Int32.ofInt 0)) 46 6 (Int32.ofInt (-1))) 46 7 (Int32.ofInt (-1))).2.2.1 30 0 := sF_ne rfl (sF_ne rfl (sF_ne rfl (fr_F (e_30_0) hF8 rfl)))
  have n17 : ((Int32.ofInt 0)).toInt ≤ (u_46_1).toInt := by have a0 := (inv_F hI 0 1000 rfl e_46_1); unfold In at a0; have a1 := (inv_F hI 448 28000 rfl e_30_0); unfold In at a1; have a2 := (inv_F hI 0 32 rfl e_2_1); unfold In at a2; have a3 := (inv_F hI 0 4000 rfl e_2_0); unfold In at a3; have a4 := (in_c 0 rfl); unfold In at a4; have a5 := (in_c (-1) rfl); unfold In at a5; omega
  have n17a : (u_2_0).toInt ≤ (u_2_0).toInt := by have a0 := (inv_F hI 0 1000 rfl e_46_1); unfold In at a0; have a1 := (inv_F hI 448 28000 rfl e_30_0); unfold In at a1; have a2 := (inv_F hI 0 32 rfl e_2_1); unfold In at a2; have a3 := (inv_F hI 0 4000 rfl e_2_0); unfold In at a3; have a4 := (in_c 0 rfl); unfold In at a4; have a5 := (in_c (-1) rfl); unfold In at a5; omega
  have n17b : KL (sF (sF (sF s8 46 2 (Int32.ofInt 0)) 46 6 (Int32.ofInt (-1))) 46 7 (Int32.ofInt (-1))) := by exact kl_fr q_0 (show Fr ([17, 18, 19, 20, 21, 22], [], [(16, 0), (16, 1), (16, 2), (16, 3), (16, 4), (46, 2), (46, 6), (46, 7)], []) s (sF (sF (sF s8 46 2 (Int32.ofInt 0)) 46 6 (Int32.ofInt (-1))) 46 7 (Int32.ofInt (-1))) from (fr_sF rfl (fr_sF rfl (fr_sF rfl (fr_tr rfl fr_rf hF8))))) rfl
  have n17c : (∀ p : Nat, p < 160 → (sF (sF (sF s8 46 2 (Int32.ofInt 0)) 46 6 (Int32.ofInt (-1))) 46 7 (Int32.ofInt (-1))).1 18 p = s.1 4 p ∧ (sF (sF (sF s8 46 2 (Int32.ofInt 0)) 46 6 (Int32.ofInt (-1))) 46 7 (Int32.ofInt (-1))).1 19 p = s.1 5 p) ∧ (sF (sF (sF s8 46 2 (Int32.ofInt 0)) 46 6 (Int32.ofInt (-1))) 46 7 (Int32.ofInt (-1))).2.2.1 16 0 = s.2.2.1 2 0 ∧ (sF (sF (sF s8 46 2 (Int32.ofInt 0)) 46 6 (Int32.ofInt (-1))) 46 7 (Int32.ofInt (-1))).2.2.1 16 1 = s.2.2.1 2 1 := by exact ⟨fun p hp => ⟨p8 p hp, p8a p hp⟩, p8b, p8c⟩
  have n17d : ∀ k : Nat, (k : Int) < 7 * (s.2.2.1 2 0).toInt → (sF (sF (sF s8 46 2 (Int32.ofInt 0)) 46 6 (Int32.ofInt (-1))) 46 7 (Int32.ofInt (-1))).1 30 k = s.1 30 k := by exact fun k _ => by rw [(show Fr ([17, 18, 19, 20, 21, 22], [], [(16, 0), (16, 1), (16, 2), (16, 3), (16, 4), (46, 2), (46, 6), (46, 7)], []) s (sF (sF (sF s8 46 2 (Int32.ofInt 0)) 46 6 (Int32.ofInt (-1))) 46 7 (Int32.ofInt (-1))) from (fr_sF rfl (fr_sF rfl (fr_sF rfl (fr_tr rfl fr_rf hF8))))).1 30 rfl]
  exact gg_w (by omega) (gg_f (gf_cons rfl (gf_cons rfl (gf_cons rfl gf_nil))) (ct17 2002 (sF (sF (sF s8 46 2 (Int32.ofInt 0)) 46 6 (Int32.ofInt (-1))) 46 7 (Int32.ofInt (-1))) (A 30) (lgC s) (lgS s) (Int32.ofInt 0) (Int32.ofInt 0) u_2_0 u_2_1 u_30_0 hI12x12 (fr_sF rfl (fr_sF rfl (fr_sF rfl (fr_tr rfl fr_rf hF8)))) hr17 hr17a (in_w 0 2001 (in_c 0 rfl) rfl) v17 v17a v17b v17c n17 n17a n17b n17c n17d (m_in 2002 (in_w 0 2001 (in_c 0 rfl) rfl) rfl)))

def fm_225_0 : FM := ([3, 4, 5, 6, 7, 8, 17, 18, 19, 20, 21, 22, 30, 31], [], [(2, 0), (2, 1), (2, 2), (2, 3), (2, 4), (16, 0), (16, 1), (16, 2), (16, 3), (16, 4), (30, 0), (46, 2), (46, 3), (46, 4), (46, 5), (46, 6), (46, 7)], [])
/-- GraphHouse.load -/
theorem k_225_0 {Z : AmZ} {A : Nat → Nat} {s : GS} {ex : va_W} {d : Nat} {X : AmX} {u_2_0 : Int32} {u_2_1 : Int32} {u_30_0 : Int32} (hd : 11 ≤ d) (hI : Inv s) (e_2_0 : u_2_0 = s.2.2.1 2 0) (e_2_1 : u_2_1 = s.2.2.1 2 1) (e_30_0 : u_30_0 = s.2.2.1 30 0) (q_0 : KL s) : GC Z d 225 [.ref (A 0)] (WW Z A s ++ ex) 3943 83130 (fun v u => ∃ a : Nat, ∃ t : GS, Inv t ∧ Fr fm_225_0 s t ∧ ∃ z : Int32, v = some (.int z) ∧ u = WW Z (ax A 30 a) t ++ ex ∧ In z (-4) 1000 ∧ (KL t)) X := by
  intro post xp hP hX
  refine g_enter2 (k := 225) (N := 900) (by omega) rfl (Nat.le_of_ble_eq_true rfl) ?_
  refine g_aload_n 1 (gd rfl) rfl rfl ?_
  refine g_getA (q2 := 1) 4 (gd rfl) rfl rfl rfl rfl ?_
  refine g_aload_n 5 (gd rfl) rfl rfl ?_
  refine g_getA (q2 := 46) 8 (gd rfl) rfl rfl rfl rfl ?_
  have p8 : KL s := by exact q_0
  refine g_callv (X := _) (As := [.ref (A 46)]) (r := []) (b := A 1) (q := 1) 11 (gd rfl) rfl rfl rfl rfl rfl (ww_o rfl) (Nat.le_of_ble_eq_true rfl) (Nat.le_trans (lgC_le (inv_F hI 448 28000 (q := 30) (j := 0) rfl rfl)) (Nat.le_of_ble_eq_true rfl)) (Nat.le_trans (lgS_le (inv_F hI 448 28000 (q := 30) (j := 0) rfl rfl)) (Nat.le_of_ble_eq_true rfl)) (k_135_1_46 (by omega) hI e_2_0 e_2_1 e_30_0 rfl p8) (fun e u h => h) (fun v u h => ?_)
  obtain ⟨a8, s8, hI8, hF8, z8, rfl, rfl, i8, p8a⟩ := h
  show GG _ _ _ _ _ _ _ _ [.int z8] _ _ _
  have n11 : KL s8 := by exact p8a
  exact g_ireturn (gd rfl) rfl rfl (hP _ _ ⟨a8, s8, hI8, (fr_tr rfl fr_rf hF8), z8, rfl, rfl, in_w (-4) 1000 i8 rfl, n11⟩)
