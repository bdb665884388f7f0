/-! methods, by vc.py -/
def fm_171_46 : FM := ([], [], [(46, 2), (46, 3), (46, 4), (46, 5)], [])
/-- GraphHouse$Script.next -/
theorem k_171_46 {Z : AmZ} {A : Nat → Nat} {s : GS} {ex : va_W} {d : Nat} {X : AmX} {x1 : Int32} {x2 : Int32} {u_46_2 : Int32} {u_46_1 : Int32} (hd : 7 ≤ d) (hI : Inv s) (h1 : In x1 6 7) (h2 : In x2 0 1) (e_46_2 : u_46_2 = s.2.2.1 46 2) (e_46_1 : u_46_1 = s.2.2.1 46 1) (p_0 : (u_46_2).toInt ≤ (u_46_1).toInt) : GC Z d 171 [.ref (A 46), .int x1, .int x2] (WW Z A s ++ ex) 0 0 (fun v u => ∃ t : GS, Inv t ∧ Fr fm_171_46 s t ∧ ((t.2.2.1 46 2).toInt ≤ (t.2.2.1 46 1).toInt) ∧ ((t.2.2.1 46 4).toInt ≤ (t.2.2.1 46 2).toInt) ∧ ((s.2.2.1 46 2).toInt ≤ (t.2.2.1 46 4).toInt) ∧ v = none ∧ u = WW Z A t ++ ex ∧ ((x1).toInt = 6 → TK t) ∧ ((t.2.2.1 46 3).toInt = 1 → In (t.2.2.1 46 5) 0 25)) X := by
  intro post xp hP hX
  have ro_46_1 := inv_F hI 0 1000 rfl e_46_1
  have ct123 : ∀ (sc123 : GS) (y123_3 : Int32) (y123_4 : Int32) (w123_46_2 : Int32) (w123_46_4 : Int32), Inv sc123 → Fr fm_171_46 s sc123 → (In y123_3 0 65535) → (In y123_4 0 1) → (w123_46_2 = sc123.2.2.1 46 2) → (w123_46_4 = sc123.2.2.1 46 4) → ((w123_46_2).toInt + 1 ≤ (u_46_1).toInt) → ((w123_46_4).toInt = (w123_46_2).toInt) → ((u_46_2).toInt ≤ (w123_46_2).toInt) → GG Z (d - 1) 171 post (gx xp) (901) 123 (fun j => xlook j [(0, .ref (A 46)), (1, .int x1), (2, .int x2), (3, .int y123_3), (4, .int y123_4)]) [] (WW Z A sc123 ++ ex) 0 0 := by
    intro sc123 y123_3 y123_4 w123_46_2 w123_46_4 hIc123 hFc123 j123_3 j123_4 v123_46_2 v123_46_4 n123_0 n123_1 n123_2
    refine g_aload_n 124 (gd rfl) rfl rfl ?_
    refine g_dup 125 (gd rfl) rfl rfl ?_
    refine g_getI 128 (gd rfl) rfl rfl rfl (fun z125 e125 => ?_)
    have q125 : w123_46_2 = z125 := (v123_46_2).trans e125.symm
    subst q125
    refine g_iconst 1 129 (gd rfl) rfl rfl ?_
    refine g_iadd 130 (gd rfl) rfl (fun z129 e129 => ?_)
    have i129 := in_add 1 1001 e129 (inv_F hIc123 0 1000 rfl v123_46_2) (in_c 1 rfl) rfl rfl
    have i130 : In z129 0 1000 := by have a0 := h2; unfold In at a0; have a1 := h1; unfold In at a1; have a2 := ro_46_1; unfold In at a2; have a3 := (inv_F hIc123 0 1000 rfl v123_46_4); unfold In at a3; have a4 := (inv_F hIc123 0 1000 rfl v123_46_2); unfold In at a4; have a5 := j123_4; unfold In at a5; have a6 := j123_3; unfold In at a6; have a7 := i129; unfold In at a7; have a8 := t_add e129 (inv_F hIc123 0 1000 rfl v123_46_2) (in_c 1 rfl) rfl; have a9 := (in_c 1 rfl); unfold In at a9; exact ⟨by omega, by omega⟩
    refine g_putI 133 (gd rfl) rfl rfl rfl rfl ?_
    have hI130 := inv_sF (q := 46) (j := 2) hIc123 rfl (in_w 0 1000 i130 rfl)
    refine g_iload_n 134 (gd rfl) rfl rfl ?_
    refine g_bipush 97 136 (gd rfl) rfl rfl ?_
    refine g_cmp_lt 139 159 (gd rfl) rfl rfl (fun c136 => ?_) (fun c136 => ?_)
    · skip
      have i136 := r_lt1 0 96 c136 j123_3 (in_c 97 rfl) rfl
      refine g_aload_n 160 (gd rfl) rfl rfl ?_
      refine g_iload_n 161 (gd rfl) rfl rfl ?_
      refine g_iload_n 162 (gd rfl) rfl rfl ?_
      refine g_calls (As := [.int y123_3, .int x2]) (r := [.ref (A 46)]) 165 (gd rfl) rfl rfl rfl rfl rfl (Nat.le_of_ble_eq_true rfl) (mc := 0) (ms := 0) (Nat.zero_le _) (Nat.zero_le _) (P := fun v u => _) ?_ (fun v u h => h)
      intro po162 xx162 hp162 hx162
      refine g_enter2 (k := 174) (N := 300) (by omega) rfl (Nat.le_of_ble_eq_true rfl) ?_
      refine g_iload_n 1 (gd rfl) rfl rfl ?_
      refine g_bipush 59 3 (gd rfl) rfl rfl ?_
      refine g_cmp_eq 6 19 (gd rfl) rfl rfl (fun c162x3 => ?_) (fun c162x3 => ?_)
      · skip
        have i162x3 := r_eq1 59 59 c162x3 i136 (in_c 59 rfl) rfl
        refine g_iconst 1 20 (gd rfl) rfl rfl ?_
        refine g_goto 24 (gd rfl) rfl ?_
        refine g_ireturn (gd rfl) rfl (nb01 (in_w 0 1 (in_c 1 rfl) rfl)) (hp162 _ _ ?_)
        show GG _ _ _ _ _ _ _ _ [.int (Int32.ofInt 1), .ref (A 46)] _ _ _
        refine g_if_eq 168 172 (gd rfl) rfl rfl (fun c165 => ?_) (fun c165 => ?_)
        · skip
          exact zn_eq c165 (in_c 1 rfl) rfl
        · skip
          refine g_iconst 3 169 (gd rfl) rfl rfl ?_
          refine g_goto 173 (gd rfl) rfl ?_
          refine g_putI 176 (gd rfl) rfl rfl rfl rfl ?_
          have hI173 := inv_sF (q := 46) (j := 3) hI130 rfl (in_w 0 5 (in_c 3 rfl) rfl)
          refine g_aload_n 177 (gd rfl) rfl rfl ?_
          refine g_iload_n 178 (gd rfl) rfl rfl ?_
          refine g_putI 181 (gd rfl) rfl rfl rfl rfl ?_
          have hI178 := inv_sF (q := 46) (j := 5) hI173 rfl (in_w (-2147483648) 2147483647 i162x3 rfl)
          have n181 : (x1).toInt = 6 → TK (sF (sF (sF sc123 46 2 z129) 46 3 (Int32.ofInt 3)) 46 5 y123_3) := by intro h6; exact ⟨(Or.inr (by rw [← (show w123_46_4 = (sF (sF (sF sc123 46 2 z129) 46 3 (Int32.ofInt 3)) 46 5 y123_3).2.2.1 46 4 from sF_ne rfl (sF_ne rfl (sF_ne rfl (v123_46_4)))), ← (show z129 = (sF (sF (sF sc123 46 2 z129) 46 3 (Int32.ofInt 3)) 46 5 y123_3).2.2.1 46 2 from sF_ne rfl (sF_ne rfl (sF_get)))]; have a0 := h2; unfold In at a0; have a1 := h1; unfold In at a1; have a2 := ro_46_1; unfold In at a2; have a3 := (inv_F hIc123 0 1000 rfl v123_46_4); unfold In at a3; have a4 := (inv_F hIc123 0 1000 rfl v123_46_2); unfold In at a4; have a5 := j123_4; unfold In at a5; have a6 := i162x3; unfold In at a6; have a7 := (in_c 3 rfl); unfold In at a7; have a8 := i130; unfold In at a8; have a9 := t_add e129 (inv_F hIc123 0 1000 rfl v123_46_2) (in_c 1 rfl) rfl; have a10 := (in_c 1 rfl); unfold In at a10; omega)), (fun h2 => absurd h2 (by rw [← (show (Int32.ofInt 3) = (sF (sF (sF sc123 46 2 z129) 46 3 (Int32.ofInt 3)) 46 5 y123_3).2.2.1 46 3 from sF_ne rfl (sF_get))]; decide))⟩
          have n181a : ((sF (sF (sF sc123 46 2 z129) 46 3 (Int32.ofInt 3)) 46 5 y123_3).2.2.1 46 3).toInt = 1 → In ((sF (sF (sF sc123 46 2 z129) 46 3 (Int32.ofInt 3)) 46 5 y123_3).2.2.1 46 5) 0 25 := by intro h1; rw [← (show (Int32.ofInt 3) = (sF (sF (sF sc123 46 2 z129) 46 3 (Int32.ofInt 3)) 46 5 y123_3).2.2.1 46 3 from sF_ne rfl (sF_get))] at h1; exact absurd h1 (by decide)
          have n181b : (z129).toInt ≤ (u_46_1).toInt := by have a0 := h2; unfold In at a0; have a1 := h1; unfold In at a1; have a2 := ro_46_1; unfold In at a2; have a3 := (inv_F hIc123 0 1000 rfl v123_46_4); unfold In at a3; have a4 := (inv_F hIc123 0 1000 rfl v123_46_2); unfold In at a4; have a5 := j123_4; unfold In at a5; have a6 := i162x3; unfold In at a6; have a7 := (in_c 3 rfl); unfold In at a7; have a8 := i130; unfold In at a8; have a9 := t_add e129 (inv_F hIc123 0 1000 rfl v123_46_2) (in_c 1 rfl) rfl; have a10 := (in_c 1 rfl); unfold In at a10; omega
          have n181c : ((sF (sF (sF sc123 46 2 z129) 46 3 (Int32.ofInt 3)) 46 5 y123_3).2.2.1 46 2).toInt ≤ ((sF (sF (sF sc123 46 2 z129) 46 3 (Int32.ofInt 3)) 46 5 y123_3).2.2.1 46 1).toInt := by have b0 : z129 = (sF (sF (sF sc123 46 2 z129) 46 3 (Int32.ofInt 3)) 46 5 y123_3).2.2.1 46 2 := sF_ne rfl (sF_ne rfl (sF_get)); have b1 : u_46_1 = (sF (sF (sF sc123 46 2 z129) 46 3 (Int32.ofInt 3)) 46 5 y123_3).2.2.1 46 1 := sF_ne rfl (sF_ne rfl (sF_ne rfl (fr_F e_46_1 hFc123 rfl))); rw [← b0, ← b1]; exact n181b
          have n181d : (w123_46_4).toInt ≤ (z129).toInt := by have a0 := h2; unfold In at a0; have a1 := h1; unfold In at a1; have a2 := ro_46_1; unfold In at a2; have a3 := (inv_F hIc123 0 1000 rfl v123_46_4); unfold In at a3; have a4 := (inv_F hIc123 0 1000 rfl v123_46_2); unfold In at a4; have a5 := j123_4; unfold In at a5; have a6 := i162x3; unfold In at a6; have a7 := (in_c 3 rfl); unfold In at a7; have a8 := i130; unfold In at a8; have a9 := t_add e129 (inv_F hIc123 0 1000 rfl v123_46_2) (in_c 1 rfl) rfl; have a10 := (in_c 1 rfl); unfold In at a10; omega
          have n181e : ((sF (sF (sF sc123 46 2 z129) 46 3 (Int32.ofInt 3)) 46 5 y123_3).2.2.1 46 4).toInt ≤ ((sF (sF (sF sc123 46 2 z129) 46 3 (Int32.ofInt 3)) 46 5 y123_3).2.2.1 46 2).toInt := by have b0 : w123_46_4 = (sF (sF (sF sc123 46 2 z129) 46 3 (Int32.ofInt 3)) 46 5 y123_3).2.2.1 46 4 := sF_ne rfl (sF_ne rfl (sF_ne rfl (v123_46_4))); have b1 : z129 = (sF (sF (sF sc123 46 2 z129) 46 3 (Int32.ofInt 3)) 46 5 y123_3).2.2.1 46 2 := sF_ne rfl (sF_ne rfl (sF_get)); rw [← b0, ← b1]; exact n181d
          have n181f : (u_46_2).toInt ≤ (w123_46_4).toInt := by have a0 := h2; unfold In at a0; have a1 := h1; unfold In at a1; have a2 := ro_46_1; unfold In at a2; have a3 := (inv_F hIc123 0 1000 rfl v123_46_4); unfold In at a3; have a4 := (inv_F hIc123 0 1000 rfl v123_46_2); unfold In at a4; have a5 := j123_4; unfold In at a5; have a6 := i162x3; unfold In at a6; have a7 := (in_c 3 rfl); unfold In at a7; have a8 := i130; unfold In at a8; have a9 := t_add e129 (inv_F hIc123 0 1000 rfl v123_46_2) (in_c 1 rfl) rfl; have a10 := (in_c 1 rfl); unfold In at a10; omega
          have n181g : (s.2.2.1 46 2).toInt ≤ ((sF (sF (sF sc123 46 2 z129) 46 3 (Int32.ofInt 3)) 46 5 y123_3).2.2.1 46 4).toInt := by have b0 : w123_46_4 = (sF (sF (sF sc123 46 2 z129) 46 3 (Int32.ofInt 3)) 46 5 y123_3).2.2.1 46 4 := sF_ne rfl (sF_ne rfl (sF_ne rfl (v123_46_4))); rw [← b0, ← e_46_2]; exact n181f
          exact g_return (gd rfl) rfl (hP _ _ ⟨(sF (sF (sF sc123 46 2 z129) 46 3 (Int32.ofInt 3)) 46 5 y123_3), hI178, (fr_sF rfl (fr_sF rfl (fr_sF rfl hFc123))), n181c, n181e, n181g, rfl, rfl, n181, n181a⟩)
      · skip
        refine g_iload_n 7 (gd rfl) rfl rfl ?_
        refine g_if_ne 10 23 (gd rfl) rfl rfl (fun c162x7 => ?_) (fun c162x7 => ?_)
        · skip
          have i162x7 := z_ne 1 1 c162x7 h2 rfl
          refine g_iconst 0 24 (gd rfl) rfl rfl ?_
          refine g_ireturn (gd rfl) rfl (nb01 (in_w 0 1 (in_c 0 rfl) rfl)) (hp162 _ _ ?_)
          show GG _ _ _ _ _ _ _ _ [.int (Int32.ofInt 0), .ref (A 46)] _ _ _
          refine g_if_eq 168 172 (gd rfl) rfl rfl (fun c165 => ?_) (fun c165 => ?_)
          · skip
            refine g_iconst 4 173 (gd rfl) rfl rfl ?_
            refine g_putI 176 (gd rfl) rfl rfl rfl rfl ?_
            have hI173 := inv_sF (q := 46) (j := 3) hI130 rfl (in_w 0 5 (in_c 4 rfl) rfl)
            refine g_aload_n 177 (gd rfl) rfl rfl ?_
            refine g_iload_n 178 (gd rfl) rfl rfl ?_
            refine g_putI 181 (gd rfl) rfl rfl rfl rfl ?_
            have hI178 := inv_sF (q := 46) (j := 5) hI173 rfl (in_w (-2147483648) 2147483647 i136 rfl)
            have n181 : (x1).toInt = 6 → TK (sF (sF (sF sc123 46 2 z129) 46 3 (Int32.ofInt 4)) 46 5 y123_3) := by intro h6; exact ⟨(Or.inr (by rw [← (show w123_46_4 = (sF (sF (sF sc123 46 2 z129) 46 3 (Int32.ofInt 4)) 46 5 y123_3).2.2.1 46 4 from sF_ne rfl (sF_ne rfl (sF_ne rfl (v123_46_4)))), ← (show z129 = (sF (sF (sF sc123 46 2 z129) 46 3 (Int32.ofInt 4)) 46 5 y123_3).2.2.1 46 2 from sF_ne rfl (sF_ne rfl (sF_get)))]; have a0 := i162x7; unfold In at a0; have a1 := h1; unfold In at a1; have a2 := ro_46_1; unfold In at a2; have a3 := (inv_F hIc123 0 1000 rfl v123_46_4); unfold In at a3; have a4 := (inv_F hIc123 0 1000 rfl v123_46_2); unfold In at a4; have a5 := j123_4; unfold In at a5; have a6 := i136; unfold In at a6; have a7 := (in_c 4 rfl); unfold In at a7; have a8 := i130; unfold In at a8; have a9 := t_add e129 (inv_F hIc123 0 1000 rfl v123_46_2) (in_c 1 rfl) rfl; have a10 := (in_c 1 rfl); unfold In at a10; omega)), (fun h2 => absurd h2 (by rw [← (show (Int32.ofInt 4) = (sF (sF (sF sc123 46 2 z129) 46 3 (Int32.ofInt 4)) 46 5 y123_3).2.2.1 46 3 from sF_ne rfl (sF_get))]; decide))⟩
            have n181a : ((sF (sF (sF sc123 46 2 z129) 46 3 (Int32.ofInt 4)) 46 5 y123_3).2.2.1 46 3).toInt = 1 → In ((sF (sF (sF sc123 46 2 z129) 46 3 (Int32.ofInt 4)) 46 5 y123_3).2.2.1 46 5) 0 25 := by intro h1; rw [← (show (Int32.ofInt 4) = (sF (sF (sF sc123 46 2 z129) 46 3 (Int32.ofInt 4)) 46 5 y123_3).2.2.1 46 3 from sF_ne rfl (sF_get))] at h1; exact absurd h1 (by decide)
            have n181b : (z129).toInt ≤ (u_46_1).toInt := by have a0 := i162x7; unfold In at a0; have a1 := h1; unfold In at a1; have a2 := ro_46_1; unfold In at a2; have a3 := (inv_F hIc123 0 1000 rfl v123_46_4); unfold In at a3; have a4 := (inv_F hIc123 0 1000 rfl v123_46_2); unfold In at a4; have a5 := j123_4; unfold In at a5; have a6 := i136; unfold In at a6; have a7 := (in_c 4 rfl); unfold In at a7; have a8 := i130; unfold In at a8; have a9 := t_add e129 (inv_F hIc123 0 1000 rfl v123_46_2) (in_c 1 rfl) rfl; have a10 := (in_c 1 rfl); unfold In at a10; omega
            have n181c : ((sF (sF (sF sc123 46 2 z129) 46 3 (Int32.ofInt 4)) 46 5 y123_3).2.2.1 46 2).toInt ≤ ((sF (sF (sF sc123 46 2 z129) 46 3 (Int32.ofInt 4)) 46 5 y123_3).2.2.1 46 1).toInt := by have b0 : z129 = (sF (sF (sF sc123 46 2 z129) 46 3 (Int32.ofInt 4)) 46 5 y123_3).2.2.1 46 2 := sF_ne rfl (sF_ne rfl (sF_get)); have b1 : u_46_1 = (sF (sF (sF sc123 46 2 z129) 46 3 (Int32.ofInt 4)) 46 5 y123_3).2.2.1 46 1 := sF_ne rfl (sF_ne rfl (sF_ne rfl (fr_F e_46_1 hFc123 rfl))); rw [← b0, ← b1]; exact n181b
            have n181d : (w123_46_4).toInt ≤ (z129).toInt := by have a0 := i162x7; unfold In at a0; have a1 := h1; unfold In at a1; have a2 := ro_46_1; unfold In at a2; have a3 := (inv_F hIc123 0 1000 rfl v123_46_4); unfold In at a3; have a4 := (inv_F hIc123 0 1000 rfl v123_46_2); unfold In at a4; have a5 := j123_4; unfold In at a5; have a6 := i136; unfold In at a6; have a7 := (in_c 4 rfl); unfold In at a7; have a8 := i130; unfold In at a8; have a9 := t_add e129 (inv_F hIc123 0 1000 rfl v123_46_2) (in_c 1 rfl) rfl; have a10 := (in_c 1 rfl); unfold In at a10; omega
            have n181e : ((sF (sF (sF sc123 46 2 z129) 46 3 (Int32.ofInt 4)) 46 5 y123_3).2.2.1 46 4).toInt ≤ ((sF (sF (sF sc123 46 2 z129) 46 3 (Int32.ofInt 4)) 46 5 y123_3).2.2.1 46 2).toInt := by have b0 : w123_46_4 = (sF (sF (sF sc123 46 2 z129) 46 3 (Int32.ofInt 4)) 46 5 y123_3).2.2.1 46 4 := sF_ne rfl (sF_ne rfl (sF_ne rfl (v123_46_4))); have b1 : z129 = (sF (sF (sF sc123 46 2 z129) 46 3 (Int32.ofInt 4)) 46 5 y123_3).2.2.1 46 2 := sF_ne rfl (sF_ne rfl (sF_get)); rw [← b0, ← b1]; exact n181d
            have n181f : (u_46_2).toInt ≤ (w123_46_4).toInt := by have a0 := i162x7; unfold In at a0; have a1 := h1; unfold In at a1; have a2 := ro_46_1; unfold In at a2; have a3 := (inv_F hIc123 0 1000 rfl v123_46_4); unfold In at a3; have a4 := (inv_F hIc123 0 1000 rfl v123_46_2); unfold In at a4; have a5 := j123_4; unfold In at a5; have a6 := i136; unfold In at a6; have a7 := (in_c 4 rfl); unfold In at a7; have a8 := i130; unfold In at a8; have a9 := t_add e129 (inv_F hIc123 0 1000 rfl v123_46_2) (in_c 1 rfl) rfl; have a10 := (in_c 1 rfl); unfold In at a10; omega
            have n181g : (s.2.2.1 46 2).toInt ≤ ((sF (sF (sF sc123 46 2 z129) 46 3 (Int32.ofInt 4)) 46 5 y123_3).2.2.1 46 4).toInt := by have b0 : w123_46_4 = (sF (sF (sF sc123 46 2 z129) 46 3 (Int32.ofInt 4)) 46 5 y123_3).2.2.1 46 4 := sF_ne rfl (sF_ne rfl (sF_ne rfl (v123_46_4))); rw [← b0, ← e_46_2]; exact n181f
            exact g_return (gd rfl) rfl (hP _ _ ⟨(sF (sF (sF sc123 46 2 z129) 46 3 (Int32.ofInt 4)) 46 5 y123_3), hI178, (fr_sF rfl (fr_sF rfl (fr_sF rfl hFc123))), n181c, n181e, n181g, rfl, rfl, n181, n181a⟩)
          · skip
            exact zn_ne c165 (in_c 0 rfl) rfl
        · skip
          have i162x7 := z_eq 0 0 c162x7 h2 rfl
          refine g_ldcs 0 12 (gd rfl) rfl rfl ?_
          refine g_iload_n 13 (gd rfl) rfl rfl ?_
          have i162x13 : In (Int32.ofInt 0) 0 6 := in_w 0 6 (in_c 0 rfl) rfl
          refine g_callS (X := _) (As := [.int y123_3]) (r := []) (x := (Int32.ofInt 0)) 16 (gd rfl) rfl rfl rfl zm_430 rfl rfl rfl i162x13 (Nat.le_of_ble_eq_true rfl) (k_430 i162x13 (by omega)) (fun e u h => h) (fun v u h => ?_)
          obtain ⟨z162x13, rfl, rfl, p162x13⟩ := h
          have i162x13a : In z162x13 (-1) 8 := by have a := zn_9 i162x13; unfold In at p162x13; exact ⟨by omega, by omega⟩
          show GG _ _ _ _ _ _ _ _ [.int z162x13] _ _ _
          refine g_if_lt 19 23 (gd rfl) rfl rfl (fun c162x16 => ?_) (fun c162x16 => ?_)
          · skip
            have i162x16 := z_lt (-1) (-1) c162x16 i162x13a rfl
            refine g_iconst 0 24 (gd rfl) rfl rfl ?_
            refine g_ireturn (gd rfl) rfl (nb01 (in_w 0 1 (in_c 0 rfl) rfl)) (hp162 _ _ ?_)
            show GG _ _ _ _ _ _ _ _ [.int (Int32.ofInt 0), .ref (A 46)] _ _ _
            refine g_if_eq 168 172 (gd rfl) rfl rfl (fun c165 => ?_) (fun c165 => ?_)
            · skip
              refine g_iconst 4 173 (gd rfl) rfl rfl ?_
              refine g_putI 176 (gd rfl) rfl rfl rfl rfl ?_
              have hI173 := inv_sF (q := 46) (j := 3) hI130 rfl (in_w 0 5 (in_c 4 rfl) rfl)
              refine g_aload_n 177 (gd rfl) rfl rfl ?_
              refine g_iload_n 178 (gd rfl) rfl rfl ?_
              refine g_putI 181 (gd rfl) rfl rfl rfl rfl ?_
              have hI178 := inv_sF (q := 46) (j := 5) hI173 rfl (in_w (-2147483648) 2147483647 i136 rfl)
              have n181 : (x1).toInt = 6 → TK (sF (sF (sF sc123 46 2 z129) 46 3 (Int32.ofInt 4)) 46 5 y123_3) := by intro h6; exact ⟨(Or.inr (by rw [← (show w123_46_4 = (sF (sF (sF sc123 46 2 z129) 46 3 (Int32.ofInt 4)) 46 5 y123_3).2.2.1 46 4 from sF_ne rfl (sF_ne rfl (sF_ne rfl (v123_46_4)))), ← (show z129 = (sF (sF (sF sc123 46 2 z129) 46 3 (Int32.ofInt 4)) 46 5 y123_3).2.2.1 46 2 from sF_ne rfl (sF_ne rfl (sF_get)))]; have a0 := i162x7; unfold In at a0; have a1 := h1; unfold In at a1; have a2 := ro_46_1; unfold In at a2; have a3 := (inv_F hIc123 0 1000 rfl v123_46_4); unfold In at a3; have a4 := (inv_F hIc123 0 1000 rfl v123_46_2); unfold In at a4; have a5 := j123_4; unfold In at a5; have a6 := i136; unfold In at a6; have a7 := (in_c 4 rfl); unfold In at a7; have a8 := i130; unfold In at a8; have a9 := t_add e129 (inv_F hIc123 0 1000 rfl v123_46_2) (in_c 1 rfl) rfl; have a10 := (in_c 1 rfl); unfold In at a10; omega)), (fun h2 => absurd h2 (by rw [← (show (Int32.ofInt 4) = (sF (sF (sF sc123 46 2 z129) 46 3 (Int32.ofInt 4)) 46 5 y123_3).2.2.1 46 3 from sF_ne rfl (sF_get))]; decide))⟩
              have n181a : ((sF (sF (sF sc123 46 2 z129) 46 3 (Int32.ofInt 4)) 46 5 y123_3).2.2.1 46 3).toInt = 1 → In ((sF (sF (sF sc123 46 2 z129) 46 3 (Int32.ofInt 4)) 46 5 y123_3).2.2.1 46 5) 0 25 := by intro h1; rw [← (show (Int32.ofInt 4) = (sF (sF (sF sc123 46 2 z129) 46 3 (Int32.ofInt 4)) 46 5 y123_3).2.2.1 46 3 from sF_ne rfl (sF_get))] at h1; exact absurd h1 (by decide)
              have n181b : (z129).toInt ≤ (u_46_1).toInt := by have a0 := i162x7; unfold In at a0; have a1 := h1; unfold In at a1; have a2 := ro_46_1; unfold In at a2; have a3 := (inv_F hIc123 0 1000 rfl v123_46_4); unfold In at a3; have a4 := (inv_F hIc123 0 1000 rfl v123_46_2); unfold In at a4; have a5 := j123_4; unfold In at a5; have a6 := i136; unfold In at a6; have a7 := (in_c 4 rfl); unfold In at a7; have a8 := i130; unfold In at a8; have a9 := t_add e129 (inv_F hIc123 0 1000 rfl v123_46_2) (in_c 1 rfl) rfl; have a10 := (in_c 1 rfl); unfold In at a10; omega
              have n181c : ((sF (sF (sF sc123 46 2 z129) 46 3 (Int32.ofInt 4)) 46 5 y123_3).2.2.1 46 2).toInt ≤ ((sF (sF (sF sc123 46 2 z129) 46 3 (Int32.ofInt 4)) 46 5 y123_3).2.2.1 46 1).toInt := by have b0 : z129 = (sF (sF (sF sc123 46 2 z129) 46 3 (Int32.ofInt 4)) 46 5 y123_3).2.2.1 46 2 := sF_ne rfl (sF_ne rfl (sF_get)); have b1 : u_46_1 = (sF (sF (sF sc123 46 2 z129) 46 3 (Int32.ofInt 4)) 46 5 y123_3).2.2.1 46 1 := sF_ne rfl (sF_ne rfl (sF_ne rfl (fr_F e_46_1 hFc123 rfl))); rw [← b0, ← b1]; exact n181b
              have n181d : (w123_46_4).toInt ≤ (z129).toInt := by have a0 := i162x7; unfold In at a0; have a1 := h1; unfold In at a1; have a2 := ro_46_1; unfold In at a2; have a3 := (inv_F hIc123 0 1000 rfl v123_46_4); unfold In at a3; have a4 := (inv_F hIc123 0 1000 rfl v123_46_2); unfold In at a4; have a5 := j123_4; unfold In at a5; have a6 := i136; unfold In at a6; have a7 := (in_c 4 rfl); unfold In at a7; have a8 := i130; unfold In at a8; have a9 := t_add e129 (inv_F hIc123 0 1000 rfl v123_46_2) (in_c 1 rfl) rfl; have a10 := (in_c 1 rfl); unfold In at a10; omega
              have n181e : ((sF (sF (sF sc123 46 2 z129) 46 3 (Int32.ofInt 4)) 46 5 y123_3).2.2.1 46 4).toInt ≤ ((sF (sF (sF sc123 46 2 z129) 46 3 (Int32.ofInt 4)) 46 5 y123_3).2.2.1 46 2).toInt := by have b0 : w123_46_4 = (sF (sF (sF sc123 46 2 z129) 46 3 (Int32.ofInt 4)) 46 5 y123_3).2.2.1 46 4 := sF_ne rfl (sF_ne rfl (sF_ne rfl (v123_46_4))); have b1 : z129 = (sF (sF (sF sc123 46 2 z129) 46 3 (Int32.ofInt 4)) 46 5 y123_3).2.2.1 46 2 := sF_ne rfl (sF_ne rfl (sF_get)); rw [← b0, ← b1]; exact n181d
              have n181f : (u_46_2).toInt ≤ (w123_46_4).toInt := by have a0 := i162x7; unfold In at a0; have a1 := h1; unfold In at a1; have a2 := ro_46_1; unfold In at a2; have a3 := (inv_F hIc123 0 1000 rfl v123_46_4); unfold In at a3; have a4 := (inv_F hIc123 0 1000 rfl v123_46_2); unfold In at a4; have a5 := j123_4; unfold In at a5; have a6 := i136; unfold In at a6; have a7 := (in_c 4 rfl); unfold In at a7; have a8 := i130; unfold In at a8; have a9 := t_add e129 (inv_F hIc123 0 1000 rfl v123_46_2) (in_c 1 rfl) rfl; have a10 := (in_c 1 rfl); unfold In at a10; omega
              have n181g : (s.2.2.1 46 2).toInt ≤ ((sF (sF (sF sc123 46 2 z129) 46 3 (Int32.ofInt 4)) 46 5 y123_3).2.2.1 46 4).toInt := by have b0 : w123_46_4 = (sF (sF (sF sc123 46 2 z129) 46 3 (Int32.ofInt 4)) 46 5 y123_3).2.2.1 46 4 := sF_ne rfl (sF_ne rfl (sF_ne rfl (v123_46_4))); rw [← b0, ← e_46_2]; exact n181f
              exact g_return (gd rfl) rfl (hP _ _ ⟨(sF (sF (sF sc123 46 2 z129) 46 3 (Int32.ofInt 4)) 46 5 y123_3), hI178, (fr_sF rfl (fr_sF rfl (fr_sF rfl hFc123))), n181c, n181e, n181g, rfl, rfl, n181, n181a⟩)
            · skip
              exact zn_ne c165 (in_c 0 rfl) rfl
          · skip
            have i162x16 := z_ge 0 8 c162x16 i162x13a rfl
            refine g_iconst 1 20 (gd rfl) rfl rfl ?_
            refine g_goto 24 (gd rfl) rfl ?_
            refine g_ireturn (gd rfl) rfl (nb01 (in_w 0 1 (in_c 1 rfl) rfl)) (hp162 _ _ ?_)
            show GG _ _ _ _ _ _ _ _ [.int (Int32.ofInt 1), .ref (A 46)] _ _ _
            refine g_if_eq 168 172 (gd rfl) rfl rfl (fun c165 => ?_) (fun c165 => ?_)
            · skip
              exact zn_eq c165 (in_c 1 rfl) rfl
            · skip
              refine g_iconst 3 169 (gd rfl) rfl rfl ?_
              refine g_goto 173 (gd rfl) rfl ?_
              refine g_putI 176 (gd rfl) rfl rfl rfl rfl ?_
              have hI173 := inv_sF (q := 46) (j := 3) hI130 rfl (in_w 0 5 (in_c 3 rfl) rfl)
              refine g_aload_n 177 (gd rfl) rfl rfl ?_
              refine g_iload_n 178 (gd rfl) rfl rfl ?_
              refine g_putI 181 (gd rfl) rfl rfl rfl rfl ?_
              have hI178 := inv_sF (q := 46) (j := 5) hI173 rfl (in_w (-2147483648) 2147483647 i136 rfl)
              have n181 : (x1).toInt = 6 → TK (sF (sF (sF sc123 46 2 z129) 46 3 (Int32.ofInt 3)) 46 5 y123_3) := by intro h6; exact ⟨(Or.inr (by rw [← (show w123_46_4 = (sF (sF (sF sc123 46 2 z129) 46 3 (Int32.ofInt 3)) 46 5 y123_3).2.2.1 46 4 from sF_ne rfl (sF_ne rfl (sF_ne rfl (v123_46_4)))), ← (show z129 = (sF (sF (sF sc123 46 2 z129) 46 3 (Int32.ofInt 3)) 46 5 y123_3).2.2.1 46 2 from sF_ne rfl (sF_ne rfl (sF_get)))]; have a0 := i162x7; unfold In at a0; have a1 := h1; unfold In at a1; have a2 := ro_46_1; unfold In at a2; have a3 := (inv_F hIc123 0 1000 rfl v123_46_4); unfold In at a3; have a4 := (inv_F hIc123 0 1000 rfl v123_46_2); unfold In at a4; have a5 := j123_4; unfold In at a5; have a6 := i136; unfold In at a6; have a7 := (in_c 3 rfl); unfold In at a7; have a8 := i130; unfold In at a8; have a9 := t_add e129 (inv_F hIc123 0 1000 rfl v123_46_2) (in_c 1 rfl) rfl; have a10 := (in_c 1 rfl); unfold In at a10; omega)), (fun h2 => absurd h2 (by rw [← (show (Int32.ofInt 3) = (sF (sF (sF sc123 46 2 z129) 46 3 (Int32.ofInt 3)) 46 5 y123_3).2.2.1 46 3 from sF_ne rfl (sF_get))]; decide))⟩
              have n181a : ((sF (sF (sF sc123 46 2 z129) 46 3 (Int32.ofInt 3)) 46 5 y123_3).2.2.1 46 3).toInt = 1 → In ((sF (sF (sF sc123 46 2 z129) 46 3 (Int32.ofInt 3)) 46 5 y123_3).2.2.1 46 5) 0 25 := by intro h1; rw [← (show (Int32.ofInt 3) = (sF (sF (sF sc123 46 2 z129) 46 3 (Int32.ofInt 3)) 46 5 y123_3).2.2.1 46 3 from sF_ne rfl (sF_get))] at h1; exact absurd h1 (by decide)
              have n181b : (z129).toInt ≤ (u_46_1).toInt := by have a0 := i162x7; unfold In at a0; have a1 := h1; unfold In at a1; have a2 := ro_46_1; unfold In at a2; have a3 := (inv_F hIc123 0 1000 rfl v123_46_4); unfold In at a3; have a4 := (inv_F hIc123 0 1000 rfl v123_46_2); unfold In at a4; have a5 := j123_4; unfold In at a5; have a6 := i136; unfold In at a6; have a7 := (in_c 3 rfl); unfold In at a7; have a8 := i130; unfold In at a8; have a9 := t_add e129 (inv_F hIc123 0 1000 rfl v123_46_2) (in_c 1 rfl) rfl; have a10 := (in_c 1 rfl); unfold In at a10; omega
              have n181c : ((sF (sF (sF sc123 46 2 z129) 46 3 (Int32.ofInt 3)) 46 5 y123_3).2.2.1 46 2).toInt ≤ ((sF (sF (sF sc123 46 2 z129) 46 3 (Int32.ofInt 3)) 46 5 y123_3).2.2.1 46 1).toInt := by have b0 : z129 = (sF (sF (sF sc123 46 2 z129) 46 3 (Int32.ofInt 3)) 46 5 y123_3).2.2.1 46 2 := sF_ne rfl (sF_ne rfl (sF_get)); have b1 : u_46_1 = (sF (sF (sF sc123 46 2 z129) 46 3 (Int32.ofInt 3)) 46 5 y123_3).2.2.1 46 1 := sF_ne rfl (sF_ne rfl (sF_ne rfl (fr_F e_46_1 hFc123 rfl))); rw [← b0, ← b1]; exact n181b
              have n181d : (w123_46_4).toInt ≤ (z129).toInt := by have a0 := i162x7; unfold In at a0; have a1 := h1; unfold In at a1; have a2 := ro_46_1; unfold In at a2; have a3 := (inv_F hIc123 0 1000 rfl v123_46_4); unfold In at a3; have a4 := (inv_F hIc123 0 1000 rfl v123_46_2); unfold In at a4; have a5 := j123_4; unfold In at a5; have a6 := i136; unfold In at a6; have a7 := (in_c 3 rfl); unfold In at a7; have a8 := i130; unfold In at a8; have a9 := t_add e129 (inv_F hIc123 0 1000 rfl v123_46_2) (in_c 1 rfl) rfl; have a10 := (in_c 1 rfl); unfold In at a10; omega
              have n181e : ((sF (sF (sF sc123 46 2 z129) 46 3 (Int32.ofInt 3)) 46 5 y123_3).2.2.1 46 4).toInt ≤ ((sF (sF (sF sc123 46 2 z129) 46 3 (Int32.ofInt 3)) 46 5 y123_3).2.2.1 46 2).toInt := by have b0 : w123_46_4 = (sF (sF (sF sc123 46 2 z129) 46 3 (Int32.ofInt 3)) 46 5 y123_3).2.2.1 46 4 := sF_ne rfl (sF_ne rfl (sF_ne rfl (v123_46_4))); have b1 : z129 = (sF (sF (sF sc123 46 2 z129) 46 3 (Int32.ofInt 3)) 46 5 y123_3).2.2.1 46 2 := sF_ne rfl (sF_ne rfl (sF_get)); rw [← b0, ← b1]; exact n181d
              have n181f : (u_46_2).toInt ≤ (w123_46_4).toInt := by have a0 := i162x7; unfold In at a0; have a1 := h1; unfold In at a1; have a2 := ro_46_1; unfold In at a2; have a3 := (inv_F hIc123 0 1000 rfl v123_46_4); unfold In at a3; have a4 := (inv_F hIc123 0 1000 rfl v123_46_2); unfold In at a4; have a5 := j123_4; unfold In at a5; have a6 := i136; unfold In at a6; have a7 := (in_c 3 rfl); unfold In at a7; have a8 := i130; unfold In at a8; have a9 := t_add e129 (inv_F hIc123 0 1000 rfl v123_46_2) (in_c 1 rfl) rfl; have a10 := (in_c 1 rfl); unfold In at a10; omega
              have n181g : (s.2.2.1 46 2).toInt ≤ ((sF (sF (sF sc123 46 2 z129) 46 3 (Int32.ofInt 3)) 46 5 y123_3).2.2.1 46 4).toInt := by have b0 : w123_46_4 = (sF (sF (sF sc123 46 2 z129) 46 3 (Int32.ofInt 3)) 46 5 y123_3).2.2.1 46 4 := sF_ne rfl (sF_ne rfl (sF_ne rfl (v123_46_4))); rw [← b0, ← e_46_2]; exact n181f
              exact g_return (gd rfl) rfl (hP _ _ ⟨(sF (sF (sF sc123 46 2 z129) 46 3 (Int32.ofInt 3)) 46 5 y123_3), hI178, (fr_sF rfl (fr_sF rfl (fr_sF rfl hFc123))), n181c, n181e, n181g, rfl, rfl, n181, n181a⟩)
    · skip
      have i136 := r_le2 97 65535 c136 (in_c 97 rfl) j123_3 rfl
      refine g_iload_n 140 (gd rfl) rfl rfl ?_
      refine g_bipush 122 142 (gd rfl) rfl rfl ?_
      refine g_cmp_gt 145 159 (gd rfl) rfl rfl (fun c142 => ?_) (fun c142 => ?_)
      · skip
        have i142 := r_lt2 123 65535 c142 (in_c 122 rfl) i136 rfl
        refine g_aload_n 160 (gd rfl) rfl rfl ?_
        refine g_iload_n 161 (gd rfl) rfl rfl ?_
        refine g_iload_n 162 (gd rfl) rfl rfl ?_
        refine g_calls (As := [.int y123_3, .int x2]) (r := [.ref (A 46)]) 165 (gd rfl) rfl rfl rfl rfl rfl (Nat.le_of_ble_eq_true rfl) (mc := 0) (ms := 0) (Nat.zero_le _) (Nat.zero_le _) (P := fun v u => _) ?_ (fun v u h => h)
        intro po162 xx162 hp162 hx162
        refine g_enter2 (k := 174) (N := 300) (by omega) rfl (Nat.le_of_ble_eq_true rfl) ?_
        refine g_iload_n 1 (gd rfl) rfl rfl ?_
        refine g_bipush 59 3 (gd rfl) rfl rfl ?_
        refine g_cmp_eq 6 19 (gd rfl) rfl rfl (fun c162x3 => ?_) (fun c162x3 => ?_)
        · skip
          exact n_eq c162x3 i142 (in_c 59 rfl) rfl
        · skip
          refine g_iload_n 7 (gd rfl) rfl rfl ?_
          refine g_if_ne 10 23 (gd rfl) rfl rfl (fun c162x7 => ?_) (fun c162x7 => ?_)
          · skip
            have i162x7 := z_ne 1 1 c162x7 h2 rfl
            refine g_iconst 0 24 (gd rfl) rfl rfl ?_
            refine g_ireturn (gd rfl) rfl (nb01 (in_w 0 1 (in_c 0 rfl) rfl)) (hp162 _ _ ?_)
            show GG _ _ _ _ _ _ _ _ [.int (Int32.ofInt 0), .ref (A 46)] _ _ _
            refine g_if_eq 168 172 (gd rfl) rfl rfl (fun c165 => ?_) (fun c165 => ?_)
            · skip
              refine g_iconst 4 173 (gd rfl) rfl rfl ?_
              refine g_putI 176 (gd rfl) rfl rfl rfl rfl ?_
              have hI173 := inv_sF (q := 46) (j := 3) hI130 rfl (in_w 0 5 (in_c 4 rfl) rfl)
              refine g_aload_n 177 (gd rfl) rfl rfl ?_
              refine g_iload_n 178 (gd rfl) rfl rfl ?_
              refine g_putI 181 (gd rfl) rfl rfl rfl rfl ?_
              have hI178 := inv_sF (q := 46) (j := 5) hI173 rfl (in_w (-2147483648) 2147483647 i142 rfl)
              have n181 : (x1).toInt = 6 → TK (sF (sF (sF sc123 46 2 z129) 46 3 (Int32.ofInt 4)) 46 5 y123_3) := by intro h6; exact ⟨(Or.inr (by rw [← (show w123_46_4 = (sF (sF (sF sc123 46 2 z129) 46 3 (Int32.ofInt 4)) 46 5 y123_3).2.2.1 46 4 from sF_ne rfl (sF_ne rfl (sF_ne rfl (v123_46_4)))), ← (show z129 = (sF (sF (sF sc123 46 2 z129) 46 3 (Int32.ofInt 4)) 46 5 y123_3).2.2.1 46 2 from sF_ne rfl (sF_ne rfl (sF_get)))]; have a0 := i162x7; unfold In at a0; have a1 := h1; unfold In at a1; have a2 := ro_46_1; unfold In at a2; have a3 := (inv_F hIc123 0 1000 rfl v123_46_4); unfold In at a3; have a4 := (inv_F hIc123 0 1000 rfl v123_46_2); unfold In at a4; have a5 := j123_4; unfold In at a5; have a6 := i142; unfold In at a6; have a7 := (in_c 4 rfl); unfold In at a7; have a8 := i130; unfold In at a8; have a9 := t_add e129 (inv_F hIc123 0 1000 rfl v123_46_2) (in_c 1 rfl) rfl; have a10 := (in_c 1 rfl); unfold In at a10; omega)), (fun h2 => absurd h2 (by rw [← (show (Int32.ofInt 4) = (sF (sF (sF sc123 46 2 z129) 46 3 (Int32.ofInt 4)) 46 5 y123_3).2.2.1 46 3 from sF_ne rfl (sF_get))]; decide))⟩
              have n181a : ((sF (sF (sF sc123 46 2 z129) 46 3 (Int32.ofInt 4)) 46 5 y123_3).2.2.1 46 3).toInt = 1 → In ((sF (sF (sF sc123 46 2 z129) 46 3 (Int32.ofInt 4)) 46 5 y123_3).2.2.1 46 5) 0 25 := by intro h1; rw [← (show (Int32.ofInt 4) = (sF (sF (sF sc123 46 2 z129) 46 3 (Int32.ofInt 4)) 46 5 y123_3).2.2.1 46 3 from sF_ne rfl (sF_get))] at h1; exact absurd h1 (by decide)
              have n181b : (z129).toInt ≤ (u_46_1).toInt := by have a0 := i162x7; unfold In at a0; have a1 := h1; unfold In at a1; have a2 := ro_46_1; unfold In at a2; have a3 := (inv_F hIc123 0 1000 rfl v123_46_4); unfold In at a3; have a4 := (inv_F hIc123 0 1000 rfl v123_46_2); unfold In at a4; have a5 := j123_4; unfold In at a5; have a6 := i142; unfold In at a6; have a7 := (in_c 4 rfl); unfold In at a7; have a8 := i130; unfold In at a8; have a9 := t_add e129 (inv_F hIc123 0 1000 rfl v123_46_2) (in_c 1 rfl) rfl; have a10 := (in_c 1 rfl); unfold In at a10; omega
              have n181c : ((sF (sF (sF sc123 46 2 z129) 46 3 (Int32.ofInt 4)) 46 5 y123_3).2.2.1 46 2).toInt ≤ ((sF (sF (sF sc123 46 2 z129) 46 3 (Int32.ofInt 4)) 46 5 y123_3).2.2.1 46 1).toInt := by have b0 : z129 = (sF (sF (sF sc123 46 2 z129) 46 3 (Int32.ofInt 4)) 46 5 y123_3).2.2.1 46 2 := sF_ne rfl (sF_ne rfl (sF_get)); have b1 : u_46_1 = (sF (sF (sF sc123 46 2 z129) 46 3 (Int32.ofInt 4)) 46 5 y123_3).2.2.1 46 1 := sF_ne rfl (sF_ne rfl (sF_ne rfl (fr_F e_46_1 hFc123 rfl))); rw [← b0, ← b1]; exact n181b
              have n181d : (w123_46_4).toInt ≤ (z129).toInt := by have a0 := i162x7; unfold In at a0; have a1 := h1; unfold In at a1; have a2 := ro_46_1; unfold In at a2; have a3 := (inv_F hIc123 0 1000 rfl v123_46_4); unfold In at a3; have a4 := (inv_F hIc123 0 1000 rfl v123_46_2); unfold In at a4; have a5 := j123_4; unfold In at a5; have a6 := i142; unfold In at a6; have a7 := (in_c 4 rfl); unfold In at a7; have a8 := i130; unfold In at a8; have a9 := t_add e129 (inv_F hIc123 0 1000 rfl v123_46_2) (in_c 1 rfl) rfl; have a10 := (in_c 1 rfl); unfold In at a10; omega
              have n181e : ((sF (sF (sF sc123 46 2 z129) 46 3 (Int32.ofInt 4)) 46 5 y123_3).2.2.1 46 4).toInt ≤ ((sF (sF (sF sc123 46 2 z129) 46 3 (Int32.ofInt 4)) 46 5 y123_3).2.2.1 46 2).toInt := by have b0 : w123_46_4 = (sF (sF (sF sc123 46 2 z129) 46 3 (Int32.ofInt 4)) 46 5 y123_3).2.2.1 46 4 := sF_ne rfl (sF_ne rfl (sF_ne rfl (v123_46_4))); have b1 : z129 = (sF (sF (sF sc123 46 2 z129) 46 3 (Int32.ofInt 4)) 46 5 y123_3).2.2.1 46 2 := sF_ne rfl (sF_ne rfl (sF_get)); rw [← b0, ← b1]; exact n181d
              have n181f : (u_46_2).toInt ≤ (w123_46_4).toInt := by have a0 := i162x7; unfold In at a0; have a1 := h1; unfold In at a1; have a2 := ro_46_1; unfold In at a2; have a3 := (inv_F hIc123 0 1000 rfl v123_46_4); unfold In at a3; have a4 := (inv_F hIc123 0 1000 rfl v123_46_2); unfold In at a4; have a5 := j123_4; unfold In at a5; have a6 := i142; unfold In at a6; have a7 := (in_c 4 rfl); unfold In at a7; have a8 := i130; unfold In at a8; have a9 := t_add e129 (inv_F hIc123 0 1000 rfl v123_46_2) (in_c 1 rfl) rfl; have a10 := (in_c 1 rfl); unfold In at a10; omega
              have n181g : (s.2.2.1 46 2).toInt ≤ ((sF (sF (sF sc123 46 2 z129) 46 3 (Int32.ofInt 4)) 46 5 y123_3).2.2.1 46 4).toInt := by have b0 : w123_46_4 = (sF (sF (sF sc123 46 2 z129) 46 3 (Int32.ofInt 4)) 46 5 y123_3).2.2.1 46 4 := sF_ne rfl (sF_ne rfl (sF_ne rfl (v123_46_4))); rw [← b0, ← e_46_2]; exact n181f
              exact g_return (gd rfl) rfl (hP _ _ ⟨(sF (sF (sF sc123 46 2 z129) 46 3 (Int32.ofInt 4)) 46 5 y123_3), hI178, (fr_sF rfl (fr_sF rfl (fr_sF rfl hFc123))), n181c, n181e, n181g, rfl, rfl, n181, n181a⟩)
            · skip
              exact zn_ne c165 (in_c 0 rfl) rfl
          · skip
            have i162x7 := z_eq 0 0 c162x7 h2 rfl
            refine g_ldcs 0 12 (gd rfl) rfl rfl ?_
            refine g_iload_n 13 (gd rfl) rfl rfl ?_
            have i162x13 : In (Int32.ofInt 0) 0 6 := in_w 0 6 (in_c 0 rfl) rfl
            refine g_callS (X := _) (As := [.int y123_3]) (r := []) (x := (Int32.ofInt 0)) 16 (gd rfl) rfl rfl rfl zm_430 rfl rfl rfl i162x13 (Nat.le_of_ble_eq_true rfl) (k_430 i162x13 (by omega)) (fun e u h => h) (fun v u h => ?_)
            obtain ⟨z162x13, rfl, rfl, p162x13⟩ := h
            have i162x13a : In z162x13 (-1) 8 := by have a := zn_9 i162x13; unfold In at p162x13; exact ⟨by omega, by omega⟩
            show GG _ _ _ _ _ _ _ _ [.int z162x13] _ _ _
            refine g_if_lt 19 23 (gd rfl) rfl rfl (fun c162x16 => ?_) (fun c162x16 => ?_)
            · skip
              have i162x16 := z_lt (-1) (-1) c162x16 i162x13a rfl
              refine g_iconst 0 24 (gd rfl) rfl rfl ?_
              refine g_ireturn (gd rfl) rfl (nb01 (in_w 0 1 (in_c 0 rfl) rfl)) (hp162 _ _ ?_)
              show GG _ _ _ _ _ _ _ _ [.int (Int32.ofInt 0), .ref (A 46)] _ _ _
              refine g_if_eq 168 172 (gd rfl) rfl rfl (fun c165 => ?_) (fun c165 => ?_)
              · skip
                refine g_iconst 4 173 (gd rfl) rfl rfl ?_
                refine g_putI 176 (gd rfl) rfl rfl rfl rfl ?_
                have hI173 := inv_sF (q := 46) (j := 3) hI130 rfl (in_w 0 5 (in_c 4 rfl) rfl)
                refine g_aload_n 177 (gd rfl) rfl rfl ?_
                refine g_iload_n 178 (gd rfl) rfl rfl ?_
                refine g_putI 181 (gd rfl) rfl rfl rfl rfl ?_
                have hI178 := inv_sF (q := 46) (j := 5) hI173 rfl (in_w (-2147483648) 2147483647 i142 rfl)
                have n181 : (x1).toInt = 6 → TK (sF (sF (sF sc123 46 2 z129) 46 3 (Int32.ofInt 4)) 46 5 y123_3) := by intro h6; exact ⟨(Or.inr (by rw [← (show w123_46_4 = (sF (sF (sF sc123 46 2 z129) 46 3 (Int32.ofInt 4)) 46 5 y123_3).2.2.1 46 4 from sF_ne rfl (sF_ne rfl (sF_ne rfl (v123_46_4)))), ← (show z129 = (sF (sF (sF sc123 46 2 z129) 46 3 (Int32.ofInt 4)) 46 5 y123_3).2.2.1 46 2 from sF_ne rfl (sF_ne rfl (sF_get)))]; have a0 := i162x7; unfold In at a0; have a1 := h1; unfold In at a1; have a2 := ro_46_1; unfold In at a2; have a3 := (inv_F hIc123 0 1000 rfl v123_46_4); unfold In at a3; have a4 := (inv_F hIc123 0 1000 rfl v123_46_2); unfold In at a4; have a5 := j123_4; unfold In at a5; have a6 := i142; unfold In at a6; have a7 := (in_c 4 rfl); unfold In at a7; have a8 := i130; unfold In at a8; have a9 := t_add e129 (inv_F hIc123 0 1000 rfl v123_46_2) (in_c 1 rfl) rfl; have a10 := (in_c 1 rfl); unfold In at a10; omega)), (fun h2 => absurd h2 (by rw [← (show (Int32.ofInt 4) = (sF (sF (sF sc123 46 2 z129) 46 3 (Int32.ofInt 4)) 46 5 y123_3).2.2.1 46 3 from sF_ne rfl (sF_get))]; decide))⟩
                have n181a : ((sF (sF (sF sc123 46 2 z129) 46 3 (Int32.ofInt 4)) 46 5 y123_3).2.2.1 46 3).toInt = 1 → In ((sF (sF (sF sc123 46 2 z129) 46 3 (Int32.ofInt 4)) 46 5 y123_3).2.2.1 46 5) 0 25 := by intro h1; rw [← (show (Int32.ofInt 4) = (sF (sF (sF sc123 46 2 z129) 46 3 (Int32.ofInt 4)) 46 5 y123_3).2.2.1 46 3 from sF_ne rfl (sF_get))] at h1; exact absurd h1 (by decide)
                have n181b : (z129).toInt ≤ (u_46_1).toInt := by have a0 := i162x7; unfold In at a0; have a1 := h1; unfold In at a1; have a2 := ro_46_1; unfold In at a2; have a3 := (inv_F hIc123 0 1000 rfl v123_46_4); unfold In at a3; have a4 := (inv_F hIc123 0 1000 rfl v123_46_2); unfold In at a4; have a5 := j123_4; unfold In at a5; have a6 := i142; unfold In at a6; have a7 := (in_c 4 rfl); unfold In at a7; have a8 := i130; unfold In at a8; have a9 := t_add e129 (inv_F hIc123 0 1000 rfl v123_46_2) (in_c 1 rfl) rfl; have a10 := (in_c 1 rfl); unfold In at a10; omega
                have n181c : ((sF (sF (sF sc123 46 2 z129) 46 3 (Int32.ofInt 4)) 46 5 y123_3).2.2.1 46 2).toInt ≤ ((sF (sF (sF sc123 46 2 z129) 46 3 (Int32.ofInt 4)) 46 5 y123_3).2.2.1 46 1).toInt := by have b0 : z129 = (sF (sF (sF sc123 46 2 z129) 46 3 (Int32.ofInt 4)) 46 5 y123_3).2.2.1 46 2 := sF_ne rfl (sF_ne rfl (sF_get)); have b1 : u_46_1 = (sF (sF (sF sc123 46 2 z129) 46 3 (Int32.ofInt 4)) 46 5 y123_3).2.2.1 46 1 := sF_ne rfl (sF_ne rfl (sF_ne rfl (fr_F e_46_1 hFc123 rfl))); rw [← b0, ← b1]; exact n181b
                have n181d : (w123_46_4).toInt ≤ (z129).toInt := by have a0 := i162x7; unfold In at a0; have a1 := h1; unfold In at a1; have a2 := ro_46_1; unfold In at a2; have a3 := (inv_F hIc123 0 1000 rfl v123_46_4); unfold In at a3; have a4 := (inv_F hIc123 0 1000 rfl v123_46_2); unfold In at a4; have a5 := j123_4; unfold In at a5; have a6 := i142; unfold In at a6; have a7 := (in_c 4 rfl); unfold In at a7; have a8 := i130; unfold In at a8; have a9 := t_add e129 (inv_F hIc123 0 1000 rfl v123_46_2) (in_c 1 rfl) rfl; have a10 := (in_c 1 rfl); unfold In at a10; omega
                have n181e : ((sF (sF (sF sc123 46 2 z129) 46 3 (Int32.ofInt 4)) 46 5 y123_3).2.2.1 46 4).toInt ≤ ((sF (sF (sF sc123 46 2 z129) 46 3 (Int32.ofInt 4)) 46 5 y123_3).2.2.1 46 2).toInt := by have b0 : w123_46_4 = (sF (sF (sF sc123 46 2 z129) 46 3 (Int32.ofInt 4)) 46 5 y123_3).2.2.1 46 4 := sF_ne rfl (sF_ne rfl (sF_ne rfl (v123_46_4))); have b1 : z129 = (sF (sF (sF sc123 46 2 z129) 46 3 (Int32.ofInt 4)) 46 5 y123_3).2.2.1 46 2 := sF_ne rfl (sF_ne rfl (sF_get)); rw [← b0, ← b1]; exact n181d
                have n181f : (u_46_2).toInt ≤ (w123_46_4).toInt := by have a0 := i162x7; unfold In at a0; have a1 := h1; unfold In at a1; have a2 := ro_46_1; unfold In at a2; have a3 := (inv_F hIc123 0 1000 rfl v123_46_4); unfold In at a3; have a4 := (inv_F hIc123 0 1000 rfl v123_46_2); unfold In at a4; have a5 := j123_4; unfold In at a5; have a6 := i142; unfold In at a6; have a7 := (in_c 4 rfl); unfold In at a7; have a8 := i130; unfold In at a8; have a9 := t_add e129 (inv_F hIc123 0 1000 rfl v123_46_2) (in_c 1 rfl) rfl; have a10 := (in_c 1 rfl); unfold In at a10; omega
                have n181g : (s.2.2.1 46 2).toInt ≤ ((sF (sF (sF sc123 46 2 z129) 46 3 (Int32.ofInt 4)) 46 5 y123_3).2.2.1 46 4).toInt := by have b0 : w123_46_4 = (sF (sF (sF sc123 46 2 z129) 46 3 (Int32.ofInt 4)) 46 5 y123_3).2.2.1 46 4 := sF_ne rfl (sF_ne rfl (sF_ne rfl (v123_46_4))); rw [← b0, ← e_46_2]; exact n181f
                exact g_return (gd rfl) rfl (hP _ _ ⟨(sF (sF (sF sc123 46 2 z129) 46 3 (Int32.ofInt 4)) 46 5 y123_3), hI178, (fr_sF rfl (fr_sF rfl (fr_sF rfl hFc123))), n181c, n181e, n181g, rfl, rfl, n181, n181a⟩)
              · skip
                exact zn_ne c165 (in_c 0 rfl) rfl
            · skip
              have i162x16 := z_ge 0 8 c162x16 i162x13a rfl
              refine g_iconst 1 20 (gd rfl) rfl rfl ?_
              refine g_goto 24 (gd rfl) rfl ?_
              refine g_ireturn (gd rfl) rfl (nb01 (in_w 0 1 (in_c 1 rfl) rfl)) (hp162 _ _ ?_)
              show GG _ _ _ _ _ _ _ _ [.int (Int32.ofInt 1), .ref (A 46)] _ _ _
              refine g_if_eq 168 172 (gd rfl) rfl rfl (fun c165 => ?_) (fun c165 => ?_)
              · skip
                exact zn_eq c165 (in_c 1 rfl) rfl
              · skip
                refine g_iconst 3 169 (gd rfl) rfl rfl ?_
                refine g_goto 173 (gd rfl) rfl ?_
                refine g_putI 176 (gd rfl) rfl rfl rfl rfl ?_
                have hI173 := inv_sF (q := 46) (j := 3) hI130 rfl (in_w 0 5 (in_c 3 rfl) rfl)
                refine g_aload_n 177 (gd rfl) rfl rfl ?_
                refine g_iload_n 178 (gd rfl) rfl rfl ?_
                refine g_putI 181 (gd rfl) rfl rfl rfl rfl ?_
                have hI178 := inv_sF (q := 46) (j := 5) hI173 rfl (in_w (-2147483648) 2147483647 i142 rfl)
                have n181 : (x1).toInt = 6 → TK (sF (sF (sF sc123 46 2 z129) 46 3 (Int32.ofInt 3)) 46 5 y123_3) := by intro h6; exact ⟨(Or.inr (by rw [← (show w123_46_4 = (sF (sF (sF sc123 46 2 z129) 46 3 (Int32.ofInt 3)) 46 5 y123_3).2.2.1 46 4 from sF_ne rfl (sF_ne rfl (sF_ne rfl (v123_46_4)))), ← (show z129 = (sF (sF (sF sc123 46 2 z129) 46 3 (Int32.ofInt 3)) 46 5 y123_3).2.2.1 46 2 from sF_ne rfl (sF_ne rfl (sF_get)))]; have a0 := i162x7; unfold In at a0; have a1 := h1; unfold In at a1; have a2 := ro_46_1; unfold In at a2; have a3 := (inv_F hIc123 0 1000 rfl v123_46_4); unfold In at a3; have a4 := (inv_F hIc123 0 1000 rfl v123_46_2); unfold In at a4; have a5 := j123_4; unfold In at a5; have a6 := i142; unfold In at a6; have a7 := (in_c 3 rfl); unfold In at a7; have a8 := i130; unfold In at a8; have a9 := t_add e129 (inv_F hIc123 0 1000 rfl v123_46_2) (in_c 1 rfl) rfl; have a10 := (in_c 1 rfl); unfold In at a10; omega)), (fun h2 => absurd h2 (by rw [← (show (Int32.ofInt 3) = (sF (sF (sF sc123 46 2 z129) 46 3 (Int32.ofInt 3)) 46 5 y123_3).2.2.1 46 3 from sF_ne rfl (sF_get))]; decide))⟩
                have n181a : ((sF (sF (sF sc123 46 2 z129) 46 3 (Int32.ofInt 3)) 46 5 y123_3).2.2.1 46 3).toInt = 1 → In ((sF (sF (sF sc123 46 2 z129) 46 3 (Int32.ofInt 3)) 46 5 y123_3).2.2.1 46 5) 0 25 := by intro h1; rw [← (show (Int32.ofInt 3) = (sF (sF (sF sc123 46 2 z129) 46 3 (Int32.ofInt 3)) 46 5 y123_3).2.2.1 46 3 from sF_ne rfl (sF_get))] at h1; exact absurd h1 (by decide)
                have n181b : (z129).toInt ≤ (u_46_1).toInt := by have a0 := i162x7; unfold In at a0; have a1 := h1; unfold In at a1; have a2 := ro_46_1; unfold In at a2; have a3 := (inv_F hIc123 0 1000 rfl v123_46_4); unfold In at a3; have a4 := (inv_F hIc123 0 1000 rfl v123_46_2); unfold In at a4; have a5 := j123_4; unfold In at a5; have a6 := i142; unfold In at a6; have a7 := (in_c 3 rfl); unfold In at a7; have a8 := i130; unfold In at a8; have a9 := t_add e129 (inv_F hIc123 0 1000 rfl v123_46_2) (in_c 1 rfl) rfl; have a10 := (in_c 1 rfl); unfold In at a10; omega
                have n181c : ((sF (sF (sF sc123 46 2 z129) 46 3 (Int32.ofInt 3)) 46 5 y123_3).2.2.1 46 2).toInt ≤ ((sF (sF (sF sc123 46 2 z129) 46 3 (Int32.ofInt 3)) 46 5 y123_3).2.2.1 46 1).toInt := by have b0 : z129 = (sF (sF (sF sc123 46 2 z129) 46 3 (Int32.ofInt 3)) 46 5 y123_3).2.2.1 46 2 := sF_ne rfl (sF_ne rfl (sF_get)); have b1 : u_46_1 = (sF (sF (sF sc123 46 2 z129) 46 3 (Int32.ofInt 3)) 46 5 y123_3).2.2.1 46 1 := sF_ne rfl (sF_ne rfl (sF_ne rfl (fr_F e_46_1 hFc123 rfl))); rw [← b0, ← b1]; exact n181b
                have n181d : (w123_46_4).toInt ≤ (z129).toInt := by have a0 := i162x7; unfold In at a0; have a1 := h1; unfold In at a1; have a2 := ro_46_1; unfold In at a2; have a3 := (inv_F hIc123 0 1000 rfl v123_46_4); unfold In at a3; have a4 := (inv_F hIc123 0 1000 rfl v123_46_2); unfold In at a4; have a5 := j123_4; unfold In at a5; have a6 := i142; unfold In at a6; have a7 := (in_c 3 rfl); unfold In at a7; have a8 := i130; unfold In at a8; have a9 := t_add e129 (inv_F hIc123 0 1000 rfl v123_46_2) (in_c 1 rfl) rfl; have a10 := (in_c 1 rfl); unfold In at a10; omega
                have n181e : ((sF (sF (sF sc123 46 2 z129) 46 3 (Int32.ofInt 3)) 46 5 y123_3).2.2.1 46 4).toInt ≤ ((sF (sF (sF sc123 46 2 z129) 46 3 (Int32.ofInt 3)) 46 5 y123_3).2.2.1 46 2).toInt := by have b0 : w123_46_4 = (sF (sF (sF sc123 46 2 z129) 46 3 (Int32.ofInt 3)) 46 5 y123_3).2.2.1 46 4 := sF_ne rfl (sF_ne rfl (sF_ne rfl (v123_46_4))); have b1 : z129 = (sF (sF (sF sc123 46 2 z129) 46 3 (Int32.ofInt 3)) 46 5 y123_3).2.2.1 46 2 := sF_ne rfl (sF_ne rfl (sF_get)); rw [← b0, ← b1]; exact n181d
                have n181f : (u_46_2).toInt ≤ (w123_46_4).toInt := by have a0 := i162x7; unfold In at a0; have a1 := h1; unfold In at a1; have a2 := ro_46_1; unfold In at a2; have a3 := (inv_F hIc123 0 1000 rfl v123_46_4); unfold In at a3; have a4 := (inv_F hIc123 0 1000 rfl v123_46_2); unfold In at a4; have a5 := j123_4; unfold In at a5; have a6 := i142; unfold In at a6; have a7 := (in_c 3 rfl); unfold In at a7; have a8 := i130; unfold In at a8; have a9 := t_add e129 (inv_F hIc123 0 1000 rfl v123_46_2) (in_c 1 rfl) rfl; have a10 := (in_c 1 rfl); unfold In at a10; omega
                have n181g : (s.2.2.1 46 2).toInt ≤ ((sF (sF (sF sc123 46 2 z129) 46 3 (Int32.ofInt 3)) 46 5 y123_3).2.2.1 46 4).toInt := by have b0 : w123_46_4 = (sF (sF (sF sc123 46 2 z129) 46 3 (Int32.ofInt 3)) 46 5 y123_3).2.2.1 46 4 := sF_ne rfl (sF_ne rfl (sF_ne rfl (v123_46_4))); rw [← b0, ← e_46_2]; exact n181f
                exact g_return (gd rfl) rfl (hP _ _ ⟨(sF (sF (sF sc123 46 2 z129) 46 3 (Int32.ofInt 3)) 46 5 y123_3), hI178, (fr_sF rfl (fr_sF rfl (fr_sF rfl hFc123))), n181c, n181e, n181g, rfl, rfl, n181, n181a⟩)
      · skip
        have i142 := r_le1 97 122 c142 i136 (in_c 122 rfl) rfl
        refine g_aload_n 146 (gd rfl) rfl rfl ?_
        refine g_iconst 1 147 (gd rfl) rfl rfl ?_
        refine g_putI 150 (gd rfl) rfl rfl rfl rfl ?_
        have hI147 := inv_sF (q := 46) (j := 3) hI130 rfl (in_w 0 5 (in_c 1 rfl) rfl)
        refine g_aload_n 151 (gd rfl) rfl rfl ?_
        refine g_iload_n 152 (gd rfl) rfl rfl ?_
        refine g_bipush 97 154 (gd rfl) rfl rfl ?_
        refine g_isub 155 (gd rfl) rfl (fun z154 e154 => ?_)
        have i154 := in_sub 0 25 e154 i142 (in_c 97 rfl) rfl rfl
        refine g_putI 158 (gd rfl) rfl rfl rfl rfl ?_
        have hI155 := inv_sF (q := 46) (j := 5) hI147 rfl (in_w (-2147483648) 2147483647 i154 rfl)
        have n158 : (x1).toInt = 6 → TK (sF (sF (sF sc123 46 2 z129) 46 3 (Int32.ofInt 1)) 46 5 z154) := by intro h6; exact ⟨(Or.inr (by rw [← (show w123_46_4 = (sF (sF (sF sc123 46 2 z129) 46 3 (Int32.ofInt 1)) 46 5 z154).2.2.1 46 4 from sF_ne rfl (sF_ne rfl (sF_ne rfl (v123_46_4)))), ← (show z129 = (sF (sF (sF sc123 46 2 z129) 46 3 (Int32.ofInt 1)) 46 5 z154).2.2.1 46 2 from sF_ne rfl (sF_ne rfl (sF_get)))]; have a0 := h2; unfold In at a0; have a1 := h1; unfold In at a1; have a2 := ro_46_1; unfold In at a2; have a3 := (inv_F hIc123 0 1000 rfl v123_46_4); unfold In at a3; have a4 := (inv_F hIc123 0 1000 rfl v123_46_2); unfold In at a4; have a5 := j123_4; unfold In at a5; have a6 := i142; unfold In at a6; have a7 := i154; unfold In at a7; have a8 := t_sub e154 i142 (in_c 97 rfl) rfl; have a9 := (in_c 97 rfl); unfold In at a9; have a10 := (in_c 1 rfl); unfold In at a10; have a11 := i130; unfold In at a11; have a12 := t_add e129 (inv_F hIc123 0 1000 rfl v123_46_2) (in_c 1 rfl) rfl; omega)), (fun h2 => absurd h2 (by rw [← (show (Int32.ofInt 1) = (sF (sF (sF sc123 46 2 z129) 46 3 (Int32.ofInt 1)) 46 5 z154).2.2.1 46 3 from sF_ne rfl (sF_get))]; decide))⟩
        have n158a : ((sF (sF (sF sc123 46 2 z129) 46 3 (Int32.ofInt 1)) 46 5 z154).2.2.1 46 3).toInt = 1 → In ((sF (sF (sF sc123 46 2 z129) 46 3 (Int32.ofInt 1)) 46 5 z154).2.2.1 46 5) 0 25 := by intro _; rw [← (show z154 = (sF (sF (sF sc123 46 2 z129) 46 3 (Int32.ofInt 1)) 46 5 z154).2.2.1 46 5 from sF_get)]; exact ⟨by have a0 := h2; unfold In at a0; have a1 := h1; unfold In at a1; have a2 := ro_46_1; unfold In at a2; have a3 := (inv_F hIc123 0 1000 rfl v123_46_4); unfold In at a3; have a4 := (inv_F hIc123 0 1000 rfl v123_46_2); unfold In at a4; have a5 := j123_4; unfold In at a5; have a6 := i142; unfold In at a6; have a7 := i154; unfold In at a7; have a8 := t_sub e154 i142 (in_c 97 rfl) rfl; have a9 := (in_c 97 rfl); unfold In at a9; have a10 := (in_c 1 rfl); unfold In at a10; have a11 := i130; unfold In at a11; have a12 := t_add e129 (inv_F hIc123 0 1000 rfl v123_46_2) (in_c 1 rfl) rfl; omega, by have a0 := h2; unfold In at a0; have a1 := h1; unfold In at a1; have a2 := ro_46_1; unfold In at a2; have a3 := (inv_F hIc123 0 1000 rfl v123_46_4); unfold In at a3; have a4 := (inv_F hIc123 0 1000 rfl v123_46_2); unfold In at a4; have a5 := j123_4; unfold In at a5; have a6 := i142; unfold In at a6; have a7 := i154; unfold In at a7; have a8 := t_sub e154 i142 (in_c 97 rfl) rfl; have a9 := (in_c 97 rfl); unfold In at a9; have a10 := (in_c 1 rfl); unfold In at a10; have a11 := i130; unfold In at a11; have a12 := t_add e129 (inv_F hIc123 0 1000 rfl v123_46_2) (in_c 1 rfl) rfl; omega⟩
        have n158b : (z129).toInt ≤ (u_46_1).toInt := by have a0 := h2; unfold In at a0; have a1 := h1; unfold In at a1; have a2 := ro_46_1; unfold In at a2; have a3 := (inv_F hIc123 0 1000 rfl v123_46_4); unfold In at a3; have a4 := (inv_F hIc123 0 1000 rfl v123_46_2); unfold In at a4; have a5 := j123_4; unfold In at a5; have a6 := i142; unfold In at a6; have a7 := i154; unfold In at a7; have a8 := t_sub e154 i142 (in_c 97 rfl) rfl; have a9 := (in_c 97 rfl); unfold In at a9; have a10 := (in_c 1 rfl); unfold In at a10; have a11 := i130; unfold In at a11; have a12 := t_add e129 (inv_F hIc123 0 1000 rfl v123_46_2) (in_c 1 rfl) rfl; omega
        have n158c : ((sF (sF (sF sc123 46 2 z129) 46 3 (Int32.ofInt 1)) 46 5 z154).2.2.1 46 2).toInt ≤ ((sF (sF (sF sc123 46 2 z129) 46 3 (Int32.ofInt 1)) 46 5 z154).2.2.1 46 1).toInt := by have b0 : z129 = (sF (sF (sF sc123 46 2 z129) 46 3 (Int32.ofInt 1)) 46 5 z154).2.2.1 46 2 := sF_ne rfl (sF_ne rfl (sF_get)); have b1 : u_46_1 = (sF (sF (sF sc123 46 2 z129) 46 3 (Int32.ofInt 1)) 46 5 z154).2.2.1 46 1 := sF_ne rfl (sF_ne rfl (sF_ne rfl (fr_F e_46_1 hFc123 rfl))); rw [← b0, ← b1]; exact n158b
        have n158d : (w123_46_4).toInt ≤ (z129).toInt := by have a0 := h2; unfold In at a0; have a1 := h1; unfold In at a1; have a2 := ro_46_1; unfold In at a2; have a3 := (inv_F hIc123 0 1000 rfl v123_46_4); unfold In at a3; have a4 := (inv_F hIc123 0 1000 rfl v123_46_2); unfold In at a4; have a5 := j123_4; unfold In at a5; have a6 := i142; unfold In at a6; have a7 := i154; unfold In at a7; have a8 := t_sub e154 i142 (in_c 97 rfl) rfl; have a9 := (in_c 97 rfl); unfold In at a9; have a10 := (in_c 1 rfl); unfold In at a10; have a11 := i130; unfold In at a11; have a12 := t_add e129 (inv_F hIc123 0 1000 rfl v123_46_2) (in_c 1 rfl) rfl; omega
        have n158e : ((sF (sF (sF sc123 46 2 z129) 46 3 (Int32.ofInt 1)) 46 5 z154).2.2.1 46 4).toInt ≤ ((sF (sF (sF sc123 46 2 z129) 46 3 (Int32.ofInt 1)) 46 5 z154).2.2.1 46 2).toInt := by have b0 : w123_46_4 = (sF (sF (sF sc123 46 2 z129) 46 3 (Int32.ofInt 1)) 46 5 z154).2.2.1 46 4 := sF_ne rfl (sF_ne rfl (sF_ne rfl (v123_46_4))); have b1 : z129 = (sF (sF (sF sc123 46 2 z129) 46 3 (Int32.ofInt 1)) 46 5 z154).2.2.1 46 2 := sF_ne rfl (sF_ne rfl (sF_get)); rw [← b0, ← b1]; exact n158d
        have n158f : (u_46_2).toInt ≤ (w123_46_4).toInt := by have a0 := h2; unfold In at a0; have a1 := h1; unfold In at a1; have a2 := ro_46_1; unfold In at a2; have a3 := (inv_F hIc123 0 1000 rfl v123_46_4); unfold In at a3; have a4 := (inv_F hIc123 0 1000 rfl v123_46_2); unfold In at a4; have a5 := j123_4; unfold In at a5; have a6 := i142; unfold In at a6; have a7 := i154; unfold In at a7; have a8 := t_sub e154 i142 (in_c 97 rfl) rfl; have a9 := (in_c 97 rfl); unfold In at a9; have a10 := (in_c 1 rfl); unfold In at a10; have a11 := i130; unfold In at a11; have a12 := t_add e129 (inv_F hIc123 0 1000 rfl v123_46_2) (in_c 1 rfl) rfl; omega
        have n158g : (s.2.2.1 46 2).toInt ≤ ((sF (sF (sF sc123 46 2 z129) 46 3 (Int32.ofInt 1)) 46 5 z154).2.2.1 46 4).toInt := by have b0 : w123_46_4 = (sF (sF (sF sc123 46 2 z129) 46 3 (Int32.ofInt 1)) 46 5 z154).2.2.1 46 4 := sF_ne rfl (sF_ne rfl (sF_ne rfl (v123_46_4))); rw [← b0, ← e_46_2]; exact n158f
        exact g_return (gd rfl) rfl (hP _ _ ⟨(sF (sF (sF sc123 46 2 z129) 46 3 (Int32.ofInt 1)) 46 5 z154), hI155, (fr_sF rfl (fr_sF rfl (fr_sF rfl hFc123))), n158c, n158e, n158g, rfl, rfl, n158, n158a⟩)
  have ct90 : ∀ (sc90 : GS) (y90_3 : Int32) (y90_4 : Int32) (w90_46_2 : Int32) (w90_46_4 : Int32), Inv sc90 → Fr fm_171_46 s sc90 → (In y90_3 0 65535) → (In y90_4 0 1) → (w90_46_2 = sc90.2.2.1 46 2) → (w90_46_4 = sc90.2.2.1 46 4) → ((w90_46_2).toInt + 1 ≤ (u_46_1).toInt) → ((w90_46_4).toInt = (w90_46_2).toInt) → ((u_46_2).toInt ≤ (w90_46_2).toInt) → GG Z (d - 1) 171 post (gx xp) (1802) 90 (fun j => xlook j [(0, .ref (A 46)), (1, .int x1), (2, .int x2), (3, .int y90_3), (4, .int y90_4)]) [] (WW Z A sc90 ++ ex) 0 0 := by
    intro sc90 y90_3 y90_4 w90_46_2 w90_46_4 hIc90 hFc90 j90_3 j90_4 v90_46_2 v90_46_4 n90_0 n90_1 n90_2
    refine g_aload_n 91 (gd rfl) rfl rfl ?_
    refine g_iload 93 (gd rfl) rfl rfl ?_
    refine g_if_eq 96 105 (gd rfl) rfl rfl (fun c93 => ?_) (fun c93 => ?_)
    · skip
      have i93 := z_eq 0 0 c93 j90_4 rfl
      refine g_aload_n 106 (gd rfl) rfl rfl ?_
      refine g_getI 109 (gd rfl) rfl rfl rfl (fun z106 e106 => ?_)
      have q106 : w90_46_2 = z106 := (v90_46_2).trans e106.symm
      subst q106
      refine g_callv (X := _) (As := [.int w90_46_2]) (r := []) (b := A 46) (q := 46) 112 (gd rfl) rfl rfl rfl rfl rfl (ww_o rfl) (Nat.le_of_ble_eq_true rfl) (mc := 0) (ms := 0) (Nat.zero_le _) (Nat.zero_le _) (P := fun v u => _) ?_ (fun e u h => h) (fun v u h => h)
      intro po109 xx109 hp109 hx109
      refine g_enter2 (k := 172) (N := 300) (by omega) rfl (Nat.le_of_ble_eq_true rfl) ?_
      refine g_iload_n 1 (gd rfl) rfl rfl ?_
      refine g_aload_n 2 (gd rfl) rfl rfl ?_
      refine g_getI 5 (gd rfl) rfl rfl rfl (fun z109x2 e109x2 => ?_)
      have q109x2 : u_46_1 = z109x2 := (fr_F e_46_1 hFc90 rfl).trans e109x2.symm
      subst q109x2
      refine g_cmp_ge 8 34 (gd rfl) rfl rfl (fun c109x5 => ?_) (fun c109x5 => ?_)
      · skip
        refine g_iconst 0 35 (gd rfl) rfl rfl ?_
        refine g_ireturn (gd rfl) rfl (nb01 (in_w 0 1 (in_c 0 rfl) rfl)) (hp109 _ _ ?_)
        show GG _ _ _ _ _ _ _ _ [.int (Int32.ofInt 0)] _ _ _
        refine g_if_eq 115 123 (gd rfl) rfl rfl (fun c112 => ?_) (fun c112 => ?_)
        · skip
          have n123 : (w90_46_2).toInt + 1 ≤ (u_46_1).toInt := by have a0 := h2; unfold In at a0; have a1 := h1; unfold In at a1; have a2 := ro_46_1; unfold In at a2; have a3 := (inv_F hIc90 0 1000 rfl v90_46_4); unfold In at a3; have a4 := (inv_F hIc90 0 1000 rfl v90_46_2); unfold In at a4; have a5 := i93; unfold In at a5; have a6 := j90_3; unfold In at a6; omega
          have n123a : (w90_46_4).toInt = (w90_46_2).toInt := by have a0 := h2; unfold In at a0; have a1 := h1; unfold In at a1; have a2 := ro_46_1; unfold In at a2; have a3 := (inv_F hIc90 0 1000 rfl v90_46_4); unfold In at a3; have a4 := (inv_F hIc90 0 1000 rfl v90_46_2); unfold In at a4; have a5 := i93; unfold In at a5; have a6 := j90_3; unfold In at a6; omega
          have n123b : (u_46_2).toInt ≤ (w90_46_2).toInt := by have a0 := h2; unfold In at a0; have a1 := h1; unfold In at a1; have a2 := ro_46_1; unfold In at a2; have a3 := (inv_F hIc90 0 1000 rfl v90_46_4); unfold In at a3; have a4 := (inv_F hIc90 0 1000 rfl v90_46_2); unfold In at a4; have a5 := i93; unfold In at a5; have a6 := j90_3; unfold In at a6; omega
          exact gg_w (by omega) (gg_f (gf_cons rfl (gf_cons rfl (gf_cons rfl (gf_cons rfl (gf_cons rfl gf_nil))))) (ct123 sc90 y90_3 y90_4 w90_46_2 w90_46_4 hIc90 hFc90 (in_w 0 65535 j90_3 rfl) (in_w 0 1 i93 rfl) v90_46_2 v90_46_4 n123 n123a n123b))
        · skip
          exact zn_ne c112 (in_c 0 rfl) rfl
      · skip
        have i109x5 := r_lt1 0 999 c109x5 (inv_F hIc90 0 1000 rfl v90_46_2) ro_46_1 rfl
        have i109x5a := r_lt2 1 1000 c109x5 (inv_F hIc90 0 1000 rfl v90_46_2) ro_46_1 rfl
        refine g_aload_n 9 (gd rfl) rfl rfl ?_
        refine g_getA (q2 := 47) 12 (gd rfl) rfl rfl rfl rfl ?_
        refine g_iload_n 13 (gd rfl) rfl rfl ?_
        refine g_caload 14 (gd rfl) rfl (n := 1000) rfl (in_ix i109x5 rfl) (fun z109x13 e109x13 => ?_)
        have i109x13 := inv_I hIc90 (n := 1000) (t := 2) 0 65535 rfl (in_ix i109x5 rfl) rfl e109x13
        refine g_bipush 48 16 (gd rfl) rfl rfl ?_
        refine g_cmp_lt 19 34 (gd rfl) rfl rfl (fun c109x16 => ?_) (fun c109x16 => ?_)
        · skip
          have i109x16 := r_lt1 0 47 c109x16 i109x13 (in_c 48 rfl) rfl
          refine g_iconst 0 35 (gd rfl) rfl rfl ?_
          refine g_ireturn (gd rfl) rfl (nb01 (in_w 0 1 (in_c 0 rfl) rfl)) (hp109 _ _ ?_)
          show GG _ _ _ _ _ _ _ _ [.int (Int32.ofInt 0)] _ _ _
          refine g_if_eq 115 123 (gd rfl) rfl rfl (fun c112 => ?_) (fun c112 => ?_)
          · skip
            have n123 : (w90_46_2).toInt + 1 ≤ (u_46_1).toInt := by have a0 := h2; unfold In at a0; have a1 := h1; unfold In at a1; have a2 := i109x5a; unfold In at a2; have a3 := (inv_F hIc90 0 1000 rfl v90_46_4); unfold In at a3; have a4 := i109x5; unfold In at a4; have a5 := i93; unfold In at a5; have a6 := j90_3; unfold In at a6; omega
            have n123a : (w90_46_4).toInt = (w90_46_2).toInt := by have a0 := h2; unfold In at a0; have a1 := h1; unfold In at a1; have a2 := i109x5a; unfold In at a2; have a3 := (inv_F hIc90 0 1000 rfl v90_46_4); unfold In at a3; have a4 := i109x5; unfold In at a4; have a5 := i93; unfold In at a5; have a6 := j90_3; unfold In at a6; omega
            have n123b : (u_46_2).toInt ≤ (w90_46_2).toInt := by have a0 := h2; unfold In at a0; have a1 := h1; unfold In at a1; have a2 := i109x5a; unfold In at a2; have a3 := (inv_F hIc90 0 1000 rfl v90_46_4); unfold In at a3; have a4 := i109x5; unfold In at a4; have a5 := i93; unfold In at a5; have a6 := j90_3; unfold In at a6; omega
            exact gg_w (by omega) (gg_f (gf_cons rfl (gf_cons rfl (gf_cons rfl (gf_cons rfl (gf_cons rfl gf_nil))))) (ct123 sc90 y90_3 y90_4 w90_46_2 w90_46_4 hIc90 hFc90 (in_w 0 65535 j90_3 rfl) (in_w 0 1 i93 rfl) v90_46_2 v90_46_4 n123 n123a n123b))
          · skip
            exact zn_ne c112 (in_c 0 rfl) rfl
        · skip
          have i109x16 := r_le2 48 65535 c109x16 (in_c 48 rfl) i109x13 rfl
          refine g_aload_n 20 (gd rfl) rfl rfl ?_
          refine g_getA (q2 := 47) 23 (gd rfl) rfl rfl rfl rfl ?_
          refine g_iload_n 24 (gd rfl) rfl rfl ?_
          refine g_caload 25 (gd rfl) rfl (n := 1000) rfl (in_ix i109x5 rfl) (fun z109x24 e109x24 => ?_)
          have q109x24 : z109x13 = z109x24 := (e109x13).trans e109x24.symm
          subst q109x24
          refine g_bipush 57 27 (gd rfl) rfl rfl ?_
          refine g_cmp_gt 30 34 (gd rfl) rfl rfl (fun c109x27 => ?_) (fun c109x27 => ?_)
          · skip
            have i109x27 := r_lt2 58 65535 c109x27 (in_c 57 rfl) i109x16 rfl
            refine g_iconst 0 35 (gd rfl) rfl rfl ?_
            refine g_ireturn (gd rfl) rfl (nb01 (in_w 0 1 (in_c 0 rfl) rfl)) (hp109 _ _ ?_)
            show GG _ _ _ _ _ _ _ _ [.int (Int32.ofInt 0)] _ _ _
            refine g_if_eq 115 123 (gd rfl) rfl rfl (fun c112 => ?_) (fun c112 => ?_)
            · skip
              have n123 : (w90_46_2).toInt + 1 ≤ (u_46_1).toInt := by have a0 := h2; unfold In at a0; have a1 := h1; unfold In at a1; have a2 := i109x5a; unfold In at a2; have a3 := (inv_F hIc90 0 1000 rfl v90_46_4); unfold In at a3; have a4 := i109x5; unfold In at a4; have a5 := i93; unfold In at a5; have a6 := j90_3; unfold In at a6; omega
              have n123a : (w90_46_4).toInt = (w90_46_2).toInt := by have a0 := h2; unfold In at a0; have a1 := h1; unfold In at a1; have a2 := i109x5a; unfold In at a2; have a3 := (inv_F hIc90 0 1000 rfl v90_46_4); unfold In at a3; have a4 := i109x5; unfold In at a4; have a5 := i93; unfold In at a5; have a6 := j90_3; unfold In at a6; omega
              have n123b : (u_46_2).toInt ≤ (w90_46_2).toInt := by have a0 := h2; unfold In at a0; have a1 := h1; unfold In at a1; have a2 := i109x5a; unfold In at a2; have a3 := (inv_F hIc90 0 1000 rfl v90_46_4); unfold In at a3; have a4 := i109x5; unfold In at a4; have a5 := i93; unfold In at a5; have a6 := j90_3; unfold In at a6; omega
              exact gg_w (by omega) (gg_f (gf_cons rfl (gf_cons rfl (gf_cons rfl (gf_cons rfl (gf_cons rfl gf_nil))))) (ct123 sc90 y90_3 y90_4 w90_46_2 w90_46_4 hIc90 hFc90 (in_w 0 65535 j90_3 rfl) (in_w 0 1 i93 rfl) v90_46_2 v90_46_4 n123 n123a n123b))
            · skip
              exact zn_ne c112 (in_c 0 rfl) rfl
          · skip
            have i109x27 := r_le1 48 57 c109x27 i109x16 (in_c 57 rfl) rfl
            refine g_iconst 1 31 (gd rfl) rfl rfl ?_
            refine g_goto 35 (gd rfl) rfl ?_
            refine g_ireturn (gd rfl) rfl (nb01 (in_w 0 1 (in_c 1 rfl) rfl)) (hp109 _ _ ?_)
            show GG _ _ _ _ _ _ _ _ [.int (Int32.ofInt 1)] _ _ _
            refine g_if_eq 115 123 (gd rfl) rfl rfl (fun c112 => ?_) (fun c112 => ?_)
            · skip
              exact zn_eq c112 (in_c 1 rfl) rfl
            · skip
              refine g_aload_n 116 (gd rfl) rfl rfl ?_
              refine g_iload 118 (gd rfl) rfl rfl ?_
              refine g_iload_n 119 (gd rfl) rfl rfl ?_
              have v119 : u_46_1 = sc90.2.2.1 46 1 := fr_F e_46_1 hFc90 rfl
              have n119 : (w90_46_2).toInt + (y90_4).toInt + 1 ≤ (u_46_1).toInt := by have a0 := h2; unfold In at a0; have a1 := h1; unfold In at a1; have a2 := i109x5a; unfold In at a2; have a3 := (inv_F hIc90 0 1000 rfl v90_46_4); unfold In at a3; have a4 := i109x5; unfold In at a4; have a5 := i93; unfold In at a5; have a6 := j90_3; unfold In at a6; omega
              have p119 : 48 ≤ (sc90.1 47 ((sc90.2.2.1 46 2).toInt + (y90_4).toInt).toNat).toInt ∧ (sc90.1 47 ((sc90.2.2.1 46 2).toInt + (y90_4).toInt).toNat).toInt ≤ 57 := by have ei : ((sc90.2.2.1 46 2).toInt + (y90_4).toInt).toNat = w90_46_2.toNatClampNeg := (by rw [← (show w90_46_2 = sc90.2.2.1 46 2 from v90_46_2)]; show _ = w90_46_2.toInt.toNat; have a0 := h2; unfold In at a0; have a1 := h1; unfold In at a1; have a2 := i109x5a; unfold In at a2; have a3 := (inv_F hIc90 0 1000 rfl v90_46_4); unfold In at a3; have a4 := i109x5; unfold In at a4; have a5 := i93; unfold In at a5; have a6 := j90_3; unfold In at a6; omega); rw [ei, ← e109x13]; exact i109x27
              refine g_callv (X := _) (As := [.int y90_4, .int x1]) (r := []) (b := A 46) (q := 46) 122 (gd rfl) rfl rfl rfl rfl rfl (ww_o rfl) (Nat.le_of_ble_eq_true rfl) (Nat.zero_le _) (Nat.zero_le _) (k_173_46 (by omega) hIc90 (in_w 0 1 i93 rfl) (in_w 6 7 h1 rfl) v90_46_2 v119 n119 p119) (fun e u h => h) (fun v u h => ?_)
              obtain ⟨s119, hI119, hF119, n119a, n119b, rfl, rfl, p119a, p119b⟩ := h
              obtain ⟨z119a, e119⟩ : ∃ w, w = s119.2.2.1 46 2 := ⟨_, rfl⟩
              have i119a := inv_F hI119 0 1000 rfl e119
              rw [← (show z119a = s119.2.2.1 46 2 from e119)] at n119a
              rw [← (show u_46_1 = s119.2.2.1 46 1 from fr_F (fr_F e_46_1 hFc90 rfl) hF119 rfl)] at n119a
              rw [← (show w90_46_2 = sc90.2.2.1 46 2 from v90_46_2)] at n119b
              rw [← (show z119a = s119.2.2.1 46 2 from e119)] at n119b
              show GG _ _ _ _ _ _ _ _ [] _ _ _
              have n122 : (x1).toInt = 6 → TK s119 := by intro h6; exact ⟨(Or.inr (by rw [← (show w90_46_4 = s119.2.2.1 46 4 from fr_F (v90_46_4) hF119 rfl), ← (show z119a = s119.2.2.1 46 2 from e119)]; have a0 := h2; unfold In at a0; have a1 := h1; unfold In at a1; have a2 := i109x5a; unfold In at a2; have a3 := (inv_F hIc90 0 1000 rfl v90_46_4); unfold In at a3; have a4 := i109x5; unfold In at a4; have a5 := i93; unfold In at a5; have a6 := j90_3; unfold In at a6; have a7 := i119a; unfold In at a7; omega)), p119b h6⟩
              have n122a : (s119.2.2.1 46 3).toInt = 1 → In (s119.2.2.1 46 5) 0 25 := by intro h1; exact absurd h1 p119a
              have n122b : (z119a).toInt ≤ (u_46_1).toInt := by have a0 := h2; unfold In at a0; have a1 := h1; unfold In at a1; have a2 := i109x5a; unfold In at a2; have a3 := (inv_F hIc90 0 1000 rfl v90_46_4); unfold In at a3; have a4 := i109x5; unfold In at a4; have a5 := i93; unfold In at a5; have a6 := j90_3; unfold In at a6; have a7 := i119a; unfold In at a7; omega
              have n122c : (s119.2.2.1 46 2).toInt ≤ (s119.2.2.1 46 1).toInt := by have b0 : z119a = s119.2.2.1 46 2 := e119; have b1 : u_46_1 = s119.2.2.1 46 1 := fr_F (fr_F e_46_1 hFc90 rfl) hF119 rfl; rw [← b0, ← b1]; exact n122b
              have n122d : (w90_46_4).toInt ≤ (z119a).toInt := by have a0 := h2; unfold In at a0; have a1 := h1; unfold In at a1; have a2 := i109x5a; unfold In at a2; have a3 := (inv_F hIc90 0 1000 rfl v90_46_4); unfold In at a3; have a4 := i109x5; unfold In at a4; have a5 := i93; unfold In at a5; have a6 := j90_3; unfold In at a6; have a7 := i119a; unfold In at a7; omega
              have n122e : (s119.2.2.1 46 4).toInt ≤ (s119.2.2.1 46 2).toInt := by have b0 : w90_46_4 = s119.2.2.1 46 4 := fr_F (v90_46_4) hF119 rfl; have b1 : z119a = s119.2.2.1 46 2 := e119; rw [← b0, ← b1]; exact n122d
              have n122f : (u_46_2).toInt ≤ (w90_46_4).toInt := by have a0 := h2; unfold In at a0; have a1 := h1; unfold In at a1; have a2 := i109x5a; unfold In at a2; have a3 := (inv_F hIc90 0 1000 rfl v90_46_4); unfold In at a3; have a4 := i109x5; unfold In at a4; have a5 := i93; unfold In at a5; have a6 := j90_3; unfold In at a6; have a7 := i119a; unfold In at a7; omega
              have n122g : (s.2.2.1 46 2).toInt ≤ (s119.2.2.1 46 4).toInt := by have b0 : w90_46_4 = s119.2.2.1 46 4 := fr_F (v90_46_4) hF119 rfl; rw [← b0, ← e_46_2]; exact n122f
              exact g_return (gd rfl) rfl (hP _ _ ⟨s119, hI119, (fr_tr rfl hFc90 hF119), n122c, n122e, n122g, rfl, rfl, n122, n122a⟩)
    · skip
      have i93 := z_ne 1 1 c93 j90_4 rfl
      refine g_aload_n 97 (gd rfl) rfl rfl ?_
      refine g_getI 100 (gd rfl) rfl rfl rfl (fun z97 e97 => ?_)
      have q97 : w90_46_2 = z97 := (v90_46_2).trans e97.symm
      subst q97
      refine g_iconst 1 101 (gd rfl) rfl rfl ?_
      refine g_iadd 102 (gd rfl) rfl (fun z101 e101 => ?_)
      have i101 := in_add 1 1001 e101 (inv_F hIc90 0 1000 rfl v90_46_2) (in_c 1 rfl) rfl rfl
      refine g_goto 109 (gd rfl) rfl ?_
      refine g_callv (X := _) (As := [.int z101]) (r := []) (b := A 46) (q := 46) 112 (gd rfl) rfl rfl rfl rfl rfl (ww_o rfl) (Nat.le_of_ble_eq_true rfl) (mc := 0) (ms := 0) (Nat.zero_le _) (Nat.zero_le _) (P := fun v u => _) ?_ (fun e u h => h) (fun v u h => h)
      intro po109 xx109 hp109 hx109
      refine g_enter2 (k := 172) (N := 300) (by omega) rfl (Nat.le_of_ble_eq_true rfl) ?_
      refine g_iload_n 1 (gd rfl) rfl rfl ?_
      refine g_aload_n 2 (gd rfl) rfl rfl ?_
      refine g_getI 5 (gd rfl) rfl rfl rfl (fun z109x2 e109x2 => ?_)
      have q109x2 : u_46_1 = z109x2 := (fr_F e_46_1 hFc90 rfl).trans e109x2.symm
      subst q109x2
      refine g_cmp_ge 8 34 (gd rfl) rfl rfl (fun c109x5 => ?_) (fun c109x5 => ?_)
      · skip
        refine g_iconst 0 35 (gd rfl) rfl rfl ?_
        refine g_ireturn (gd rfl) rfl (nb01 (in_w 0 1 (in_c 0 rfl) rfl)) (hp109 _ _ ?_)
        show GG _ _ _ _ _ _ _ _ [.int (Int32.ofInt 0)] _ _ _
        refine g_if_eq 115 123 (gd rfl) rfl rfl (fun c112 => ?_) (fun c112 => ?_)
        · skip
          have n123 : (w90_46_2).toInt + 1 ≤ (u_46_1).toInt := by have a0 := h2; unfold In at a0; have a1 := h1; unfold In at a1; have a2 := ro_46_1; unfold In at a2; have a3 := (inv_F hIc90 0 1000 rfl v90_46_4); unfold In at a3; have a4 := (inv_F hIc90 0 1000 rfl v90_46_2); unfold In at a4; have a5 := i93; unfold In at a5; have a6 := j90_3; unfold In at a6; have a7 := i101; unfold In at a7; have a8 := t_add e101 (inv_F hIc90 0 1000 rfl v90_46_2) (in_c 1 rfl) rfl; have a9 := (in_c 1 rfl); unfold In at a9; omega
          have n123a : (w90_46_4).toInt = (w90_46_2).toInt := by have a0 := h2; unfold In at a0; have a1 := h1; unfold In at a1; have a2 := ro_46_1; unfold In at a2; have a3 := (inv_F hIc90 0 1000 rfl v90_46_4); unfold In at a3; have a4 := (inv_F hIc90 0 1000 rfl v90_46_2); unfold In at a4; have a5 := i93; unfold In at a5; have a6 := j90_3; unfold In at a6; have a7 := i101; unfold In at a7; have a8 := t_add e101 (inv_F hIc90 0 1000 rfl v90_46_2) (in_c 1 rfl) rfl; have a9 := (in_c 1 rfl); unfold In at a9; omega
          have n123b : (u_46_2).toInt ≤ (w90_46_2).toInt := by have a0 := h2; unfold In at a0; have a1 := h1; unfold In at a1; have a2 := ro_46_1; unfold In at a2; have a3 := (inv_F hIc90 0 1000 rfl v90_46_4); unfold In at a3; have a4 := (inv_F hIc90 0 1000 rfl v90_46_2); unfold In at a4; have a5 := i93; unfold In at a5; have a6 := j90_3; unfold In at a6; have a7 := i101; unfold In at a7; have a8 := t_add e101 (inv_F hIc90 0 1000 rfl v90_46_2) (in_c 1 rfl) rfl; have a9 := (in_c 1 rfl); unfold In at a9; omega
          exact gg_w (by omega) (gg_f (gf_cons rfl (gf_cons rfl (gf_cons rfl (gf_cons rfl (gf_cons rfl gf_nil))))) (ct123 sc90 y90_3 y90_4 w90_46_2 w90_46_4 hIc90 hFc90 (in_w 0 65535 j90_3 rfl) (in_w 0 1 i93 rfl) v90_46_2 v90_46_4 n123 n123a n123b))
        · skip
          exact zn_ne c112 (in_c 0 rfl) rfl
      · skip
        have i109x5 := r_lt1 1 999 c109x5 i101 ro_46_1 rfl
        have i109x5a := r_lt2 2 1000 c109x5 i101 ro_46_1 rfl
        refine g_aload_n 9 (gd rfl) rfl rfl ?_
        refine g_getA (q2 := 47) 12 (gd rfl) rfl rfl rfl rfl ?_
        refine g_iload_n 13 (gd rfl) rfl rfl ?_
        refine g_caload 14 (gd rfl) rfl (n := 1000) rfl (in_ix i109x5 rfl) (fun z109x13 e109x13 => ?_)
        have i109x13 := inv_I hIc90 (n := 1000) (t := 2) 0 65535 rfl (in_ix i109x5 rfl) rfl e109x13
        refine g_bipush 48 16 (gd rfl) rfl rfl ?_
        refine g_cmp_lt 19 34 (gd rfl) rfl rfl (fun c109x16 => ?_) (fun c109x16 => ?_)
        · skip
          have i109x16 := r_lt1 0 47 c109x16 i109x13 (in_c 48 rfl) rfl
          refine g_iconst 0 35 (gd rfl) rfl rfl ?_
          refine g_ireturn (gd rfl) rfl (nb01 (in_w 0 1 (in_c 0 rfl) rfl)) (hp109 _ _ ?_)
          show GG _ _ _ _ _ _ _ _ [.int (Int32.ofInt 0)] _ _ _
          refine g_if_eq 115 123 (gd rfl) rfl rfl (fun c112 => ?_) (fun c112 => ?_)
          · skip
            have n123 : (w90_46_2).toInt + 1 ≤ (u_46_1).toInt := by have a0 := h2; unfold In at a0; have a1 := h1; unfold In at a1; have a2 := i109x5a; unfold In at a2; have a3 := (inv_F hIc90 0 1000 rfl v90_46_4); unfold In at a3; have a4 := (inv_F hIc90 0 1000 rfl v90_46_2); unfold In at a4; have a5 := i93; unfold In at a5; have a6 := j90_3; unfold In at a6; have a7 := i109x5; unfold In at a7; have a8 := t_add e101 (inv_F hIc90 0 1000 rfl v90_46_2) (in_c 1 rfl) rfl; have a9 := (in_c 1 rfl); unfold In at a9; omega
            have n123a : (w90_46_4).toInt = (w90_46_2).toInt := by have a0 := h2; unfold In at a0; have a1 := h1; unfold In at a1; have a2 := i109x5a; unfold In at a2; have a3 := (inv_F hIc90 0 1000 rfl v90_46_4); unfold In at a3; have a4 := (inv_F hIc90 0 1000 rfl v90_46_2); unfold In at a4; have a5 := i93; unfold In at a5; have a6 := j90_3; unfold In at a6; have a7 := i109x5; unfold In at a7; have a8 := t_add e101 (inv_F hIc90 0 1000 rfl v90_46_2) (in_c 1 rfl) rfl; have a9 := (in_c 1 rfl); unfold In at a9; omega
            have n123b : (u_46_2).toInt ≤ (w90_46_2).toInt := by have a0 := h2; unfold In at a0; have a1 := h1; unfold In at a1; have a2 := i109x5a; unfold In at a2; have a3 := (inv_F hIc90 0 1000 rfl v90_46_4); unfold In at a3; have a4 := (inv_F hIc90 0 1000 rfl v90_46_2); unfold In at a4; have a5 := i93; unfold In at a5; have a6 := j90_3; unfold In at a6; have a7 := i109x5; unfold In at a7; have a8 := t_add e101 (inv_F hIc90 0 1000 rfl v90_46_2) (in_c 1 rfl) rfl; have a9 := (in_c 1 rfl); unfold In at a9; omega
            exact gg_w (by omega) (gg_f (gf_cons rfl (gf_cons rfl (gf_cons rfl (gf_cons rfl (gf_cons rfl gf_nil))))) (ct123 sc90 y90_3 y90_4 w90_46_2 w90_46_4 hIc90 hFc90 (in_w 0 65535 j90_3 rfl) (in_w 0 1 i93 rfl) v90_46_2 v90_46_4 n123 n123a n123b))
          · skip
            exact zn_ne c112 (in_c 0 rfl) rfl
        · skip
          have i109x16 := r_le2 48 65535 c109x16 (in_c 48 rfl) i109x13 rfl
          refine g_aload_n 20 (gd rfl) rfl rfl ?_
          refine g_getA (q2 := 47) 23 (gd rfl) rfl rfl rfl rfl ?_
          refine g_iload_n 24 (gd rfl) rfl rfl ?_
          refine g_caload 25 (gd rfl) rfl (n := 1000) rfl (in_ix i109x5 rfl) (fun z109x24 e109x24 => ?_)
          have q109x24 : z109x13 = z109x24 := (e109x13).trans e109x24.symm
          subst q109x24
          refine g_bipush 57 27 (gd rfl) rfl rfl ?_
          refine g_cmp_gt 30 34 (gd rfl) rfl rfl (fun c109x27 => ?_) (fun c109x27 => ?_)
          · skip
            have i109x27 := r_lt2 58 65535 c109x27 (in_c 57 rfl) i109x16 rfl
            refine g_iconst 0 35 (gd rfl) rfl rfl ?_
            refine g_ireturn (gd rfl) rfl (nb01 (in_w 0 1 (in_c 0 rfl) rfl)) (hp109 _ _ ?_)
            show GG _ _ _ _ _ _ _ _ [.int (Int32.ofInt 0)] _ _ _
            refine g_if_eq 115 123 (gd rfl) rfl rfl (fun c112 => ?_) (fun c112 => ?_)
            · skip
              have n123 : (w90_46_2).toInt + 1 ≤ (u_46_1).toInt := by have a0 := h2; unfold In at a0; have a1 := h1; unfold In at a1; have a2 := i109x5a; unfold In at a2; have a3 := (inv_F hIc90 0 1000 rfl v90_46_4); unfold In at a3; have a4 := (inv_F hIc90 0 1000 rfl v90_46_2); unfold In at a4; have a5 := i93; unfold In at a5; have a6 := j90_3; unfold In at a6; have a7 := i109x5; unfold In at a7; have a8 := t_add e101 (inv_F hIc90 0 1000 rfl v90_46_2) (in_c 1 rfl) rfl; have a9 := (in_c 1 rfl); unfold In at a9; omega
              have n123a : (w90_46_4).toInt = (w90_46_2).toInt := by have a0 := h2; unfold In at a0; have a1 := h1; unfold In at a1; have a2 := i109x5a; unfold In at a2; have a3 := (inv_F hIc90 0 1000 rfl v90_46_4); unfold In at a3; have a4 := (inv_F hIc90 0 1000 rfl v90_46_2); unfold In at a4; have a5 := i93; unfold In at a5; have a6 := j90_3; unfold In at a6; have a7 := i109x5; unfold In at a7; have a8 := t_add e101 (inv_F hIc90 0 1000 rfl v90_46_2) (in_c 1 rfl) rfl; have a9 := (in_c 1 rfl); unfold In at a9; omega
              have n123b : (u_46_2).toInt ≤ (w90_46_2).toInt := by have a0 := h2; unfold In at a0; have a1 := h1; unfold In at a1; have a2 := i109x5a; unfold In at a2; have a3 := (inv_F hIc90 0 1000 rfl v90_46_4); unfold In at a3; have a4 := (inv_F hIc90 0 1000 rfl v90_46_2); unfold In at a4; have a5 := i93; unfold In at a5; have a6 := j90_3; unfold In at a6; have a7 := i109x5; unfold In at a7; have a8 := t_add e101 (inv_F hIc90 0 1000 rfl v90_46_2) (in_c 1 rfl) rfl; have a9 := (in_c 1 rfl); unfold In at a9; omega
              exact gg_w (by omega) (gg_f (gf_cons rfl (gf_cons rfl (gf_cons rfl (gf_cons rfl (gf_cons rfl gf_nil))))) (ct123 sc90 y90_3 y90_4 w90_46_2 w90_46_4 hIc90 hFc90 (in_w 0 65535 j90_3 rfl) (in_w 0 1 i93 rfl) v90_46_2 v90_46_4 n123 n123a n123b))
            · skip
              exact zn_ne c112 (in_c 0 rfl) rfl
          · skip
            have i109x27 := r_le1 48 57 c109x27 i109x16 (in_c 57 rfl) rfl
            refine g_iconst 1 31 (gd rfl) rfl rfl ?_
            refine g_goto 35 (gd rfl) rfl ?_
            refine g_ireturn (gd rfl) rfl (nb01 (in_w 0 1 (in_c 1 rfl) rfl)) (hp109 _ _ ?_)
            show GG _ _ _ _ _ _ _ _ [.int (Int32.ofInt 1)] _ _ _
            refine g_if_eq 115 123 (gd rfl) rfl rfl (fun c112 => ?_) (fun c112 => ?_)
            · skip
              exact zn_eq c112 (in_c 1 rfl) rfl
            · skip
              refine g_aload_n 116 (gd rfl) rfl rfl ?_
              refine g_iload 118 (gd rfl) rfl rfl ?_
              refine g_iload_n 119 (gd rfl) rfl rfl ?_
              have v119 : u_46_1 = sc90.2.2.1 46 1 := fr_F e_46_1 hFc90 rfl
              have n119 : (w90_46_2).toInt + (y90_4).toInt + 1 ≤ (u_46_1).toInt := by have a0 := h2; unfold In at a0; have a1 := h1; unfold In at a1; have a2 := i109x5a; unfold In at a2; have a3 := (inv_F hIc90 0 1000 rfl v90_46_4); unfold In at a3; have a4 := (inv_F hIc90 0 1000 rfl v90_46_2); unfold In at a4; have a5 := i93; unfold In at a5; have a6 := j90_3; unfold In at a6; have a7 := i109x5; unfold In at a7; have a8 := t_add e101 (inv_F hIc90 0 1000 rfl v90_46_2) (in_c 1 rfl) rfl; have a9 := (in_c 1 rfl); unfold In at a9; omega
              have p119 : 48 ≤ (sc90.1 47 ((sc90.2.2.1 46 2).toInt + (y90_4).toInt).toNat).toInt ∧ (sc90.1 47 ((sc90.2.2.1 46 2).toInt + (y90_4).toInt).toNat).toInt ≤ 57 := by have ei : ((sc90.2.2.1 46 2).toInt + (y90_4).toInt).toNat = z101.toNatClampNeg := (by rw [← (show w90_46_2 = sc90.2.2.1 46 2 from v90_46_2)]; show _ = z101.toInt.toNat; have a0 := h2; unfold In at a0; have a1 := h1; unfold In at a1; have a2 := i109x5a; unfold In at a2; have a3 := (inv_F hIc90 0 1000 rfl v90_46_4); unfold In at a3; have a4 := (inv_F hIc90 0 1000 rfl v90_46_2); unfold In at a4; have a5 := i93; unfold In at a5; have a6 := j90_3; unfold In at a6; have a7 := i109x5; unfold In at a7; have a8 := t_add e101 (inv_F hIc90 0 1000 rfl v90_46_2) (in_c 1 rfl) rfl; have a9 := (in_c 1 rfl); unfold In at a9; omega); rw [ei, ← e109x13]; exact i109x27
              refine g_callv (X := _) (As := [.int y90_4, .int x1]) (r := []) (b := A 46) (q := 46) 122 (gd rfl) rfl rfl rfl rfl rfl (ww_o rfl) (Nat.le_of_ble_eq_true rfl) (Nat.zero_le _) (Nat.zero_le _) (k_173_46 (by omega) hIc90 (in_w 0 1 i93 rfl) (in_w 6 7 h1 rfl) v90_46_2 v119 n119 p119) (fun e u h => h) (fun v u h => ?_)
              obtain ⟨s119, hI119, hF119, n119a, n119b, rfl, rfl, p119a, p119b⟩ := h
              obtain ⟨z119a, e119⟩ : ∃ w, w = s119.2.2.1 46 2 := ⟨_, rfl⟩
              have i119a := inv_F hI119 0 1000 rfl e119
              rw [← (show z119a = s119.2.2.1 46 2 from e119)] at n119a
              rw [← (show u_46_1 = s119.2.2.1 46 1 from fr_F (fr_F e_46_1 hFc90 rfl) hF119 rfl)] at n119a
              rw [← (show w90_46_2 = sc90.2.2.1 46 2 from v90_46_2)] at n119b
              rw [← (show z119a = s119.2.2.1 46 2 from e119)] at n119b
              show GG _ _ _ _ _ _ _ _ [] _ _ _
              have n122 : (x1).toInt = 6 → TK s119 := by intro h6; exact ⟨(Or.inr (by rw [← (show w90_46_4 = s119.2.2.1 46 4 from fr_F (v90_46_4) hF119 rfl), ← (show z119a = s119.2.2.1 46 2 from e119)]; have a0 := h2; unfold In at a0; have a1 := h1; unfold In at a1; have a2 := i109x5a; unfold In at a2; have a3 := (inv_F hIc90 0 1000 rfl v90_46_4); unfold In at a3; have a4 := (inv_F hIc90 0 1000 rfl v90_46_2); unfold In at a4; have a5 := i93; unfold In at a5; have a6 := j90_3; unfold In at a6; have a7 := i119a; unfold In at a7; have a8 := i109x5; unfold In at a8; have a9 := t_add e101 (inv_F hIc90 0 1000 rfl v90_46_2) (in_c 1 rfl) rfl; have a10 := (in_c 1 rfl); unfold In at a10; omega)), p119b h6⟩
              have n122a : (s119.2.2.1 46 3).toInt = 1 → In (s119.2.2.1 46 5) 0 25 := by intro h1; exact absurd h1 p119a
              have n122b : (z119a).toInt ≤ (u_46_1).toInt := by have a0 := h2; unfold In at a0; have a1 := h1; unfold In at a1; have a2 := i109x5a; unfold In at a2; have a3 := (inv_F hIc90 0 1000 rfl v90_46_4); unfold In at a3; have a4 := (inv_F hIc90 0 1000 rfl v90_46_2); unfold In at a4; have a5 := i93; unfold In at a5; have a6 := j90_3; unfold In at a6; have a7 := i119a; unfold In at a7; have a8 := i109x5; unfold In at a8; have a9 := t_add e101 (inv_F hIc90 0 1000 rfl v90_46_2) (in_c 1 rfl) rfl; have a10 := (in_c 1 rfl); unfold In at a10; omega
              have n122c : (s119.2.2.1 46 2).toInt ≤ (s119.2.2.1 46 1).toInt := by have b0 : z119a = s119.2.2.1 46 2 := e119; have b1 : u_46_1 = s119.2.2.1 46 1 := fr_F (fr_F e_46_1 hFc90 rfl) hF119 rfl; rw [← b0, ← b1]; exact n122b
              have n122d : (w90_46_4).toInt ≤ (z119a).toInt := by have a0 := h2; unfold In at a0; have a1 := h1; unfold In at a1; have a2 := i109x5a; unfold In at a2; have a3 := (inv_F hIc90 0 1000 rfl v90_46_4); unfold In at a3; have a4 := (inv_F hIc90 0 1000 rfl v90_46_2); unfold In at a4; have a5 := i93; unfold In at a5; have a6 := j90_3; unfold In at a6; have a7 := i119a; unfold In at a7; have a8 := i109x5; unfold In at a8; have a9 := t_add e101 (inv_F hIc90 0 1000 rfl v90_46_2) (in_c 1 rfl) rfl; have a10 := (in_c 1 rfl); unfold In at a10; omega
              have n122e : (s119.2.2.1 46 4).toInt ≤ (s119.2.2.1 46 2).toInt := by have b0 : w90_46_4 = s119.2.2.1 46 4 := fr_F (v90_46_4) hF119 rfl; have b1 : z119a = s119.2.2.1 46 2 := e119; rw [← b0, ← b1]; exact n122d
              have n122f : (u_46_2).toInt ≤ (w90_46_4).toInt := by have a0 := h2; unfold In at a0; have a1 := h1; unfold In at a1; have a2 := i109x5a; unfold In at a2; have a3 := (inv_F hIc90 0 1000 rfl v90_46_4); unfold In at a3; have a4 := (inv_F hIc90 0 1000 rfl v90_46_2); unfold In at a4; have a5 := i93; unfold In at a5; have a6 := j90_3; unfold In at a6; have a7 := i119a; unfold In at a7; have a8 := i109x5; unfold In at a8; have a9 := t_add e101 (inv_F hIc90 0 1000 rfl v90_46_2) (in_c 1 rfl) rfl; have a10 := (in_c 1 rfl); unfold In at a10; omega
              have n122g : (s.2.2.1 46 2).toInt ≤ (s119.2.2.1 46 4).toInt := by have b0 : w90_46_4 = s119.2.2.1 46 4 := fr_F (v90_46_4) hF119 rfl; rw [← b0, ← e_46_2]; exact n122f
              exact g_return (gd rfl) rfl (hP _ _ ⟨s119, hI119, (fr_tr rfl hFc90 hF119), n122c, n122e, n122g, rfl, rfl, n122, n122a⟩)
  have ct38 : ∀ (sc38 : GS) (w38_46_2 : Int32), Inv sc38 → Fr fm_171_46 s sc38 → (w38_46_2 = sc38.2.2.1 46 2) → ((w38_46_2).toInt ≤ (u_46_1).toInt) → ((u_46_2).toInt ≤ (w38_46_2).toInt) → GG Z (d - 1) 171 post (gx xp) (2703) 38 (fun j => xlook j [(0, .ref (A 46)), (1, .int x1), (2, .int x2)]) [] (WW Z A sc38 ++ ex) 0 0 := by
    intro sc38 w38_46_2 hIc38 hFc38 v38_46_2 n38_0 n38_1
    refine g_aload_n 39 (gd rfl) rfl rfl ?_
    refine g_aload_n 40 (gd rfl) rfl rfl ?_
    refine g_getI 43 (gd rfl) rfl rfl rfl (fun z40 e40 => ?_)
    have q40 : w38_46_2 = z40 := (v38_46_2).trans e40.symm
    subst q40
    refine g_putI 46 (gd rfl) rfl rfl rfl rfl ?_
    have hI43 := inv_sF (q := 46) (j := 4) hIc38 rfl (in_w 0 1000 (inv_F hIc38 0 1000 rfl v38_46_2) rfl)
    refine g_aload_n 47 (gd rfl) rfl rfl ?_
    refine g_iconst 0 48 (gd rfl) rfl rfl ?_
    refine g_putI 51 (gd rfl) rfl rfl rfl rfl ?_
    have hI48 := inv_sF (q := 46) (j := 3) hI43 rfl (in_w 0 5 (in_c 0 rfl) rfl)
    refine g_aload_n 52 (gd rfl) rfl rfl ?_
    refine g_getI 55 (gd rfl) rfl rfl rfl (fun z52 e52 => ?_)
    have q52 : w38_46_2 = z52 := (sF_ne rfl (sF_ne rfl (v38_46_2))).trans e52.symm
    subst q52
    refine g_aload_n 56 (gd rfl) rfl rfl ?_
    refine g_getI 59 (gd rfl) rfl rfl rfl (fun z56 e56 => ?_)
    have q56 : u_46_1 = z56 := (sF_ne rfl (sF_ne rfl (fr_F e_46_1 hFc38 rfl))).trans e56.symm
    subst q56
    refine g_cmp_lt 62 63 (gd rfl) rfl rfl (fun c59 => ?_) (fun c59 => ?_)
    · skip
      have i59 := r_lt1 0 999 c59 (inv_F hIc38 0 1000 rfl v38_46_2) ro_46_1 rfl
      have i59a := r_lt2 1 1000 c59 (inv_F hIc38 0 1000 rfl v38_46_2) ro_46_1 rfl
      refine g_aload_n 64 (gd rfl) rfl rfl ?_
      refine g_getA (q2 := 47) 67 (gd rfl) rfl rfl rfl rfl ?_
      refine g_aload_n 68 (gd rfl) rfl rfl ?_
      refine g_getI 71 (gd rfl) rfl rfl rfl (fun z68 e68 => ?_)
      have q68 : w38_46_2 = z68 := (sF_ne rfl (sF_ne rfl (v38_46_2))).trans e68.symm
      subst q68
      refine g_caload 72 (gd rfl) rfl (n := 1000) rfl (in_ix i59 rfl) (fun z71 e71 => ?_)
      have i71 := inv_I hI48 (n := 1000) (t := 2) 0 65535 rfl (in_ix i59 rfl) rfl e71
      refine g_istore_n 73 (gd rfl) rfl (Nat.le_of_ble_eq_true rfl) ?_
      refine g_iload_n 74 (gd rfl) rfl rfl ?_
      refine g_if_eq 77 87 (gd rfl) rfl rfl (fun c74 => ?_) (fun c74 => ?_)
      · skip
        have i74 := z_eq 0 0 c74 h2 rfl
        refine g_iconst 0 88 (gd rfl) rfl rfl ?_
        refine g_istore 90 (gd rfl) rfl (Nat.le_of_ble_eq_true rfl) ?_
        have v90 : w38_46_2 = (sF (sF sc38 46 4 w38_46_2) 46 3 (Int32.ofInt 0)).2.2.1 46 2 := sF_ne rfl (sF_ne rfl (v38_46_2))
        have v90a : w38_46_2 = (sF (sF sc38 46 4 w38_46_2) 46 3 (Int32.ofInt 0)).2.2.1 46 4 := sF_ne rfl (sF_get)
        have n90 : (w38_46_2).toInt + 1 ≤ (u_46_1).toInt := by have a0 := i74; unfold In at a0; have a1 := h1; unfold In at a1; have a2 := i59a; unfold In at a2; have a3 := i59; unfold In at a3; have a4 := (in_c 0 rfl); unfold In at a4; have a5 := i71; unfold In at a5; omega
        have n90a : (w38_46_2).toInt = (w38_46_2).toInt := by have a0 := i74; unfold In at a0; have a1 := h1; unfold In at a1; have a2 := i59a; unfold In at a2; have a3 := i59; unfold In at a3; have a4 := (in_c 0 rfl); unfold In at a4; have a5 := i71; unfold In at a5; omega
        have n90b : (u_46_2).toInt ≤ (w38_46_2).toInt := by have a0 := i74; unfold In at a0; have a1 := h1; unfold In at a1; have a2 := i59a; unfold In at a2; have a3 := i59; unfold In at a3; have a4 := (in_c 0 rfl); unfold In at a4; have a5 := i71; unfold In at a5; omega
        exact gg_w (by omega) (gg_f (gf_cons rfl (gf_cons rfl (gf_cons rfl (gf_cons rfl (gf_cons rfl gf_nil))))) (ct90 (sF (sF sc38 46 4 w38_46_2) 46 3 (Int32.ofInt 0)) z71 (Int32.ofInt 0) w38_46_2 w38_46_2 hI48 (fr_sF rfl (fr_sF rfl hFc38)) (in_w 0 65535 i71 rfl) (in_w 0 1 (in_c 0 rfl) rfl) v90 v90a n90 n90a n90b))
      · skip
        have i74 := z_ne 1 1 c74 h2 rfl
        refine g_iload_n 78 (gd rfl) rfl rfl ?_
        refine g_bipush 45 80 (gd rfl) rfl rfl ?_
        refine g_cmp_ne 83 87 (gd rfl) rfl rfl (fun c80 => ?_) (fun c80 => ?_)
        · skip
          refine g_iconst 0 88 (gd rfl) rfl rfl ?_
          refine g_istore 90 (gd rfl) rfl (Nat.le_of_ble_eq_true rfl) ?_
          have v90 : w38_46_2 = (sF (sF sc38 46 4 w38_46_2) 46 3 (Int32.ofInt 0)).2.2.1 46 2 := sF_ne rfl (sF_ne rfl (v38_46_2))
          have v90a : w38_46_2 = (sF (sF sc38 46 4 w38_46_2) 46 3 (Int32.ofInt 0)).2.2.1 46 4 := sF_ne rfl (sF_get)
          have n90 : (w38_46_2).toInt + 1 ≤ (u_46_1).toInt := by have a0 := i74; unfold In at a0; have a1 := h1; unfold In at a1; have a2 := i59a; unfold In at a2; have a3 := i59; unfold In at a3; have a4 := (in_c 0 rfl); unfold In at a4; have a5 := i71; unfold In at a5; omega
          have n90a : (w38_46_2).toInt = (w38_46_2).toInt := by have a0 := i74; unfold In at a0; have a1 := h1; unfold In at a1; have a2 := i59a; unfold In at a2; have a3 := i59; unfold In at a3; have a4 := (in_c 0 rfl); unfold In at a4; have a5 := i71; unfold In at a5; omega
          have n90b : (u_46_2).toInt ≤ (w38_46_2).toInt := by have a0 := i74; unfold In at a0; have a1 := h1; unfold In at a1; have a2 := i59a; unfold In at a2; have a3 := i59; unfold In at a3; have a4 := (in_c 0 rfl); unfold In at a4; have a5 := i71; unfold In at a5; omega
          exact gg_w (by omega) (gg_f (gf_cons rfl (gf_cons rfl (gf_cons rfl (gf_cons rfl (gf_cons rfl gf_nil))))) (ct90 (sF (sF sc38 46 4 w38_46_2) 46 3 (Int32.ofInt 0)) z71 (Int32.ofInt 0) w38_46_2 w38_46_2 hI48 (fr_sF rfl (fr_sF rfl hFc38)) (in_w 0 65535 i71 rfl) (in_w 0 1 (in_c 0 rfl) rfl) v90 v90a n90 n90a n90b))
        · skip
          have i80 := r_eq1 45 45 c80 i71 (in_c 45 rfl) rfl
          refine g_iconst 1 84 (gd rfl) rfl rfl ?_
          refine g_goto 88 (gd rfl) rfl ?_
          refine g_istore 90 (gd rfl) rfl (Nat.le_of_ble_eq_true rfl) ?_
          have v90 : w38_46_2 = (sF (sF sc38 46 4 w38_46_2) 46 3 (Int32.ofInt 0)).2.2.1 46 2 := sF_ne rfl (sF_ne rfl (v38_46_2))
          have v90a : w38_46_2 = (sF (sF sc38 46 4 w38_46_2) 46 3 (Int32.ofInt 0)).2.2.1 46 4 := sF_ne rfl (sF_get)
          have n90 : (w38_46_2).toInt + 1 ≤ (u_46_1).toInt := by have a0 := i74; unfold In at a0; have a1 := h1; unfold In at a1; have a2 := i59a; unfold In at a2; have a3 := i59; unfold In at a3; have a4 := (in_c 1 rfl); unfold In at a4; have a5 := i80; unfold In at a5; have a6 := (in_c 0 rfl); unfold In at a6; omega
          have n90a : (w38_46_2).toInt = (w38_46_2).toInt := by have a0 := i74; unfold In at a0; have a1 := h1; unfold In at a1; have a2 := i59a; unfold In at a2; have a3 := i59; unfold In at a3; have a4 := (in_c 1 rfl); unfold In at a4; have a5 := i80; unfold In at a5; have a6 := (in_c 0 rfl); unfold In at a6; omega
          have n90b : (u_46_2).toInt ≤ (w38_46_2).toInt := by have a0 := i74; unfold In at a0; have a1 := h1; unfold In at a1; have a2 := i59a; unfold In at a2; have a3 := i59; unfold In at a3; have a4 := (in_c 1 rfl); unfold In at a4; have a5 := i80; unfold In at a5; have a6 := (in_c 0 rfl); unfold In at a6; omega
          exact gg_w (by omega) (gg_f (gf_cons rfl (gf_cons rfl (gf_cons rfl (gf_cons rfl (gf_cons rfl gf_nil))))) (ct90 (sF (sF sc38 46 4 w38_46_2) 46 3 (Int32.ofInt 0)) z71 (Int32.ofInt 1) w38_46_2 w38_46_2 hI48 (fr_sF rfl (fr_sF rfl hFc38)) (in_w 0 65535 i80 rfl) (in_w 0 1 (in_c 1 rfl) rfl) v90 v90a n90 n90a n90b))
    · skip
      have n62 : (x1).toInt = 6 → TK (sF (sF sc38 46 4 w38_46_2) 46 3 (Int32.ofInt 0)) := by intro h6; exact ⟨Or.inl (by rw [← (show (Int32.ofInt 0) = (sF (sF sc38 46 4 w38_46_2) 46 3 (Int32.ofInt 0)).2.2.1 46 3 from sF_get)]; decide), (fun h2 => absurd h2 (by rw [← (show (Int32.ofInt 0) = (sF (sF sc38 46 4 w38_46_2) 46 3 (Int32.ofInt 0)).2.2.1 46 3 from sF_get)]; decide))⟩
      have n62a : ((sF (sF sc38 46 4 w38_46_2) 46 3 (Int32.ofInt 0)).2.2.1 46 3).toInt = 1 → In ((sF (sF sc38 46 4 w38_46_2) 46 3 (Int32.ofInt 0)).2.2.1 46 5) 0 25 := by intro h1; rw [← (show (Int32.ofInt 0) = (sF (sF sc38 46 4 w38_46_2) 46 3 (Int32.ofInt 0)).2.2.1 46 3 from sF_get)] at h1; exact absurd h1 (by decide)
      have n62b : (w38_46_2).toInt ≤ (u_46_1).toInt := by have a0 := h2; unfold In at a0; have a1 := h1; unfold In at a1; have a2 := ro_46_1; unfold In at a2; have a3 := (inv_F hIc38 0 1000 rfl v38_46_2); unfold In at a3; have a4 := (in_c 0 rfl); unfold In at a4; omega
      have n62c : ((sF (sF sc38 46 4 w38_46_2) 46 3 (Int32.ofInt 0)).2.2.1 46 2).toInt ≤ ((sF (sF sc38 46 4 w38_46_2) 46 3 (Int32.ofInt 0)).2.2.1 46 1).toInt := by have b0 : w38_46_2 = (sF (sF sc38 46 4 w38_46_2) 46 3 (Int32.ofInt 0)).2.2.1 46 2 := sF_ne rfl (sF_ne rfl (v38_46_2)); have b1 : u_46_1 = (sF (sF sc38 46 4 w38_46_2) 46 3 (Int32.ofInt 0)).2.2.1 46 1 := sF_ne rfl (sF_ne rfl (fr_F e_46_1 hFc38 rfl)); rw [← b0, ← b1]; exact n62b
      have n62d : (w38_46_2).toInt ≤ (w38_46_2).toInt := by have a0 := h2; unfold In at a0; have a1 := h1; unfold In at a1; have a2 := ro_46_1; unfold In at a2; have a3 := (inv_F hIc38 0 1000 rfl v38_46_2); unfold In at a3; have a4 := (in_c 0 rfl); unfold In at a4; omega
      have n62e : ((sF (sF sc38 46 4 w38_46_2) 46 3 (Int32.ofInt 0)).2.2.1 46 4).toInt ≤ ((sF (sF sc38 46 4 w38_46_2) 46 3 (Int32.ofInt 0)).2.2.1 46 2).toInt := by have b0 : w38_46_2 = (sF (sF sc38 46 4 w38_46_2) 46 3 (Int32.ofInt 0)).2.2.1 46 4 := sF_ne rfl (sF_get); have b1 : w38_46_2 = (sF (sF sc38 46 4 w38_46_2) 46 3 (Int32.ofInt 0)).2.2.1 46 2 := sF_ne rfl (sF_ne rfl (v38_46_2)); rw [← b0, ← b1]; exact n62d
      have n62f : (u_46_2).toInt ≤ (w38_46_2).toInt := by have a0 := h2; unfold In at a0; have a1 := h1; unfold In at a1; have a2 := ro_46_1; unfold In at a2; have a3 := (inv_F hIc38 0 1000 rfl v38_46_2); unfold In at a3; have a4 := (in_c 0 rfl); unfold In at a4; omega
      have n62g : (s.2.2.1 46 2).toInt ≤ ((sF (sF sc38 46 4 w38_46_2) 46 3 (Int32.ofInt 0)).2.2.1 46 4).toInt := by have b0 : w38_46_2 = (sF (sF sc38 46 4 w38_46_2) 46 3 (Int32.ofInt 0)).2.2.1 46 4 := sF_ne rfl (sF_get); rw [← b0, ← e_46_2]; exact n62f
      exact g_return (gd rfl) rfl (hP _ _ ⟨(sF (sF sc38 46 4 w38_46_2) 46 3 (Int32.ofInt 0)), hI48, (fr_sF rfl (fr_sF rfl hFc38)), n62c, n62e, n62g, rfl, rfl, n62, n62a⟩)
  have ct0 : ∀ (k0 : Nat) (sc0 : GS) (w0_46_2 : Int32), Inv sc0 → Fr fm_171_46 s sc0 → (w0_46_2 = sc0.2.2.1 46 2) → ((w0_46_2).toInt ≤ (u_46_1).toInt) → ((u_46_2).toInt ≤ (w0_46_2).toInt) → (u_46_1).toInt - (w0_46_2).toInt < (k0 : Int) → GG Z (d - 1) 171 post (gx xp) (2704 + k0 * 900) 0 (fun j => xlook j [(0, .ref (A 46)), (1, .int x1), (2, .int x2)]) [] (WW Z A sc0 ++ ex) 0 0 := by
    intro k0
    induction k0 with
    | zero => intro sc0 w0_46_2 hIc0 hFc0 v0_46_2 n0_0 n0_1 mm0; exfalso; have a0 := h2; unfold In at a0; have a1 := h1; unfold In at a1; have a2 := ro_46_1; unfold In at a2; have a3 := (inv_F hIc0 0 1000 rfl v0_46_2); unfold In at a3; omega
    | succ k0 ih0 =>
      intro sc0 w0_46_2 hIc0 hFc0 v0_46_2 n0_0 n0_1 mm0
      refine gg_w (M := 2704 + k0 * 900 + 900) (by omega) ?_
      refine g_aload_n 1 (gd rfl) rfl rfl ?_
      refine g_getI 4 (gd rfl) rfl rfl rfl (fun z1 e1 => ?_)
      have q1 : w0_46_2 = z1 := (v0_46_2).trans e1.symm
      subst q1
      refine g_aload_n 5 (gd rfl) rfl rfl ?_
      refine g_getI 8 (gd rfl) rfl rfl rfl (fun z5 e5 => ?_)
      have q5 : u_46_1 = z5 := (fr_F e_46_1 hFc0 rfl).trans e5.symm
      subst q5
      refine g_cmp_ge 11 38 (gd rfl) rfl rfl (fun c8 => ?_) (fun c8 => ?_)
      · skip
        have n38 : (w0_46_2).toInt ≤ (u_46_1).toInt := by have a0 := h2; unfold In at a0; have a1 := h1; unfold In at a1; have a2 := ro_46_1; unfold In at a2; have a3 := (inv_F hIc0 0 1000 rfl v0_46_2); unfold In at a3; omega
        have n38a : (u_46_2).toInt ≤ (w0_46_2).toInt := by have a0 := h2; unfold In at a0; have a1 := h1; unfold In at a1; have a2 := ro_46_1; unfold In at a2; have a3 := (inv_F hIc0 0 1000 rfl v0_46_2); unfold In at a3; omega
        exact gg_w (by omega) (gg_f (gf_cons rfl (gf_cons rfl (gf_cons rfl gf_nil))) (ct38 sc0 w0_46_2 hIc0 hFc0 v0_46_2 n38 n38a))
      · skip
        have i8 := r_lt1 0 999 c8 (inv_F hIc0 0 1000 rfl v0_46_2) ro_46_1 rfl
        have i8a := r_lt2 1 1000 c8 (inv_F hIc0 0 1000 rfl v0_46_2) ro_46_1 rfl
        refine g_aload_n 12 (gd rfl) rfl rfl ?_
        refine g_getA (q2 := 47) 15 (gd rfl) rfl rfl rfl rfl ?_
        refine g_aload_n 16 (gd rfl) rfl rfl ?_
        refine g_getI 19 (gd rfl) rfl rfl rfl (fun z16 e16 => ?_)
        have q16 : w0_46_2 = z16 := (v0_46_2).trans e16.symm
        subst q16
        refine g_caload 20 (gd rfl) rfl (n := 1000) rfl (in_ix i8 rfl) (fun z19 e19 => ?_)
        have i19 := inv_I hIc0 (n := 1000) (t := 2) 0 65535 rfl (in_ix i8 rfl) rfl e19
        refine g_bipush 32 22 (gd rfl) rfl rfl ?_
        refine g_cmp_ne 25 38 (gd rfl) rfl rfl (fun c22 => ?_) (fun c22 => ?_)
        · skip
          have n38 : (w0_46_2).toInt ≤ (u_46_1).toInt := by have a0 := h2; unfold In at a0; have a1 := h1; unfold In at a1; have a2 := i8a; unfold In at a2; have a3 := i8; unfold In at a3; omega
          have n38a : (u_46_2).toInt ≤ (w0_46_2).toInt := by have a0 := h2; unfold In at a0; have a1 := h1; unfold In at a1; have a2 := i8a; unfold In at a2; have a3 := i8; unfold In at a3; omega
          exact gg_w (by omega) (gg_f (gf_cons rfl (gf_cons rfl (gf_cons rfl gf_nil))) (ct38 sc0 w0_46_2 hIc0 hFc0 v0_46_2 n38 n38a))
        · skip
          have i22 := r_eq1 32 32 c22 i19 (in_c 32 rfl) rfl
          refine g_aload_n 26 (gd rfl) rfl rfl ?_
          refine g_dup 27 (gd rfl) rfl rfl ?_
          refine g_getI 30 (gd rfl) rfl rfl rfl (fun z27 e27 => ?_)
          have q27 : w0_46_2 = z27 := (v0_46_2).trans e27.symm
          subst q27
          refine g_iconst 1 31 (gd rfl) rfl rfl ?_
          refine g_iadd 32 (gd rfl) rfl (fun z31 e31 => ?_)
          have i31 := in_add 1 1000 e31 i8 (in_c 1 rfl) rfl rfl
          refine g_putI 35 (gd rfl) rfl rfl rfl rfl ?_
          have hI32 := inv_sF (q := 46) (j := 2) hIc0 rfl (in_w 0 1000 i31 rfl)
          refine g_goto 0 (gd rfl) rfl ?_
          have v0 : z31 = (sF sc0 46 2 z31).2.2.1 46 2 := sF_get
          have n0 : (z31).toInt ≤ (u_46_1).toInt := by have a0 := h2; unfold In at a0; have a1 := h1; unfold In at a1; have a2 := i8a; unfold In at a2; have a3 := i8; unfold In at a3; have a4 := i31; unfold In at a4; have a5 := t_add e31 i8 (in_c 1 rfl) rfl; have a6 := (in_c 1 rfl); unfold In at a6; omega
          have n0a : (u_46_2).toInt ≤ (z31).toInt := by have a0 := h2; unfold In at a0; have a1 := h1; unfold In at a1; have a2 := i8a; unfold In at a2; have a3 := i8; unfold In at a3; have a4 := i31; unfold In at a4; have a5 := t_add e31 i8 (in_c 1 rfl) rfl; have a6 := (in_c 1 rfl); unfold In at a6; omega
          have m0 : (u_46_1).toInt - (z31).toInt < ((k0 : Nat) : Int) := by have a0 := h2; unfold In at a0; have a1 := h1; unfold In at a1; have a2 := i8a; unfold In at a2; have a3 := i8; unfold In at a3; have a4 := i31; unfold In at a4; have a5 := t_add e31 i8 (in_c 1 rfl) rfl; have a6 := (in_c 1 rfl); unfold In at a6; omega
          exact gg_w (by omega) (gg_f (gf_cons rfl (gf_cons rfl (gf_cons rfl gf_nil))) (ih0  (sF sc0 46 2 z31) z31 hI32 (fr_sF rfl hFc0) v0 n0 n0a m0))
  refine g_enter2 (k := 171) (N := 904504) (by omega) rfl (Nat.le_of_ble_eq_true rfl) ?_
  have n0 : (u_46_2).toInt ≤ (u_46_1).toInt := by have a0 := (inv_F hI 0 1000 rfl e_46_1); unfold In at a0; have a1 := (inv_F hI 0 1000 rfl e_46_2); unfold In at a1; have a2 := h2; unfold In at a2; have a3 := h1; unfold In at a3; omega
  have n0a : (u_46_2).toInt ≤ (u_46_2).toInt := by have a0 := (inv_F hI 0 1000 rfl e_46_1); unfold In at a0; have a1 := (inv_F hI 0 1000 rfl e_46_2); unfold In at a1; have a2 := h2; unfold In at a2; have a3 := h1; unfold In at a3; omega
  have m0 : (u_46_1).toInt - (u_46_2).toInt < ((1001 : Nat) : Int) := by have a0 := (inv_F hI 0 1000 rfl e_46_1); unfold In at a0; have a1 := (inv_F hI 0 1000 rfl e_46_2); unfold In at a1; have a2 := h2; unfold In at a2; have a3 := h1; unfold In at a3; omega
  exact gg_w (by omega) (gg_f (gf_cons rfl (gf_cons rfl (gf_cons rfl gf_nil))) (ct0 1001 s u_46_2 hI fr_rf e_46_2 n0 n0a m0))

def fm_180_76_2 : FM := ([77, 78, 81, 82, 83], [79, 80], [(76, 0)], [])
/-- GraphHouse$Trees.leastRooted -/
theorem k_180_76_2 {Z : AmZ} {A : Nat → Nat} {s : GS} {ex : va_W} {d : Nat} {X : AmX} {x2 : Int32} {u_2_1 : Int32} (hd : 4 ≤ d) (hI : Inv s) (h2 : In x2 0 31) (e_2_1 : u_2_1 = s.2.2.1 2 1) (p_0 : (x2).toInt < (u_2_1).toInt) (q_0 : KN (s.1 4) (s.1 5) (s.2.2.1 2 1)) : GC Z d 180 [.ref (A 76), .ref (A 2), .int x2] (WW Z A s ++ ex) 0 0 (fun v u => ∃ t : GS, Inv t ∧ Fr fm_180_76_2 s t ∧ ∃ z : Int64, v = some (.long z) ∧ u = WW Z A t ++ ex) X := by
  intro post xp hP hX
  have ro_2_1 := inv_F hI 0 32 rfl e_2_1
  have ct19 : ∀ (k19 : Nat) (sc19 : GS) (y19_3 : Int64) (y19_5 : Int32) (y19_6 : Int32) (y19_7 : Int32), Inv sc19 → Fr fm_180_76_2 s sc19 → (In y19_5 0 32) → (In y19_6 0 31) → (In y19_7 0 32) → ((y19_6).toInt < (y19_5).toInt) → (AE sc19 (y19_5).toInt) → 32 - (y19_7).toInt < (k19 : Int) → GG Z (d - 1) 180 post (gx xp) (1 + k19 * 32401) 19 (fun j => xlook j [(0, .ref (A 76)), (1, .ref (A 2)), (2, .int x2), (3, .long y19_3), (5, .int y19_5), (6, .int y19_6), (7, .int y19_7)]) [] (WW Z A sc19 ++ ex) 0 0 := by
    intro k19
    induction k19 with
    | zero => intro sc19 y19_3 y19_5 y19_6 y19_7 hIc19 hFc19 j19_5 j19_6 j19_7 n19_0 g19_0 mm19; exact m_no mm19 j19_7 rfl
    | succ k19 ih19 =>
      intro sc19 y19_3 y19_5 y19_6 y19_7 hIc19 hFc19 j19_5 j19_6 j19_7 n19_0 g19_0 mm19
      refine gg_w (M := 1 + k19 * 32401 + 32401) (by omega) ?_
      have ct44 : ∀ (k44 : Nat) (sc44 : GS) (y44_3 : Int64) (y44_8 : Int32), Inv sc44 → Fr fm_180_76_2 s sc44 → (In y19_7 0 31) → (In y44_8 0 32) → (AE sc44 (y19_5).toInt) → 32 - (y44_8).toInt < (k44 : Int) → GG Z (d - 1) 180 post (gx xp) (1 + k19 * 32401 + 1 + k44 * 900) 44 (fun j => xlook j [(0, .ref (A 76)), (1, .ref (A 2)), (2, .int x2), (3, .long y44_3), (5, .int y19_5), (6, .int y19_6), (7, .int y19_7), (8, .int y44_8)]) [] (WW Z A sc44 ++ ex) 0 0 := by
        intro k44
        induction k44 with
        | zero => intro sc44 y44_3 y44_8 hIc44 hFc44 j44_7 j44_8 g44_0 mm44; exact m_no mm44 j44_8 rfl
        | succ k44 ih44 =>
          intro sc44 y44_3 y44_8 hIc44 hFc44 j44_7 j44_8 g44_0 mm44
          refine gg_w (M := 1 + k19 * 32401 + 1 + k44 * 900 + 900) (by omega) ?_
          refine g_iload 46 (gd rfl) rfl rfl ?_
          refine g_iload 48 (gd rfl) rfl rfl ?_
          refine g_cmp_ge 51 67 (gd rfl) rfl rfl (fun c48 => ?_) (fun c48 => ?_)
          · skip
            refine g_aload_n 68 (gd rfl) rfl rfl ?_
            refine g_iload 70 (gd rfl) rfl rfl ?_
            refine g_iload 72 (gd rfl) rfl rfl ?_
            refine g_callv (X := _) (As := [.int y19_5, .int y19_6]) (r := []) (b := A 76) (q := 76) 75 (gd rfl) rfl rfl rfl rfl rfl (ww_o rfl) (Nat.le_of_ble_eq_true rfl) (Nat.zero_le _) (Nat.zero_le _) (k_183_76 (by omega) hIc44 (in_w 0 32 j19_5 rfl) (in_w 0 31 j19_6 rfl)) (fun e u h => h) (fun v u h => ?_)
            obtain ⟨s72, hI72, hF72, z72, rfl, rfl, i72, p72, p72a⟩ := h
            show GG _ _ _ _ _ _ _ _ [.int z72] _ _ _
            refine g_istore 77 (gd rfl) rfl (Nat.le_of_ble_eq_true rfl) ?_
            refine g_iload 79 (gd rfl) rfl rfl ?_
            refine g_if_ne 82 84 (gd rfl) rfl rfl (fun c79 => ?_) (fun c79 => ?_)
            · skip
              have i79 := z_ne 1 32 c79 i72 rfl
              refine g_aload_n 85 (gd rfl) rfl rfl ?_
              refine g_iload 87 (gd rfl) rfl rfl ?_
              refine g_iload 89 (gd rfl) rfl rfl ?_
              have p89 : (z72).toInt + (c1m (s72.1 83) 32 : Int) ≤ 32 := by exact p72
              have p89a : ∀ v : Nat, v < 32 → (s72.1 83 v).toInt < (z72).toInt := by exact p72a
              refine g_callv (X := _) (As := [.int y19_5, .int z72]) (r := []) (b := A 76) (q := 76) 92 (gd rfl) rfl rfl rfl rfl rfl (ww_o rfl) (Nat.le_of_ble_eq_true rfl) (Nat.zero_le _) (Nat.zero_le _) (k_184_76 (by omega) hI72 (in_w 0 32 j19_5 rfl) (in_w 0 32 i79 rfl) p89 p89a) (fun e u h => h) (fun v u h => ?_)
              obtain ⟨s89, hI89, hF89, z89, rfl, rfl, i89, p89b⟩ := h
              show GG _ _ _ _ _ _ _ _ [.int z89] _ _ _
              refine g_istore 94 (gd rfl) rfl (Nat.le_of_ble_eq_true rfl) ?_
              refine g_aload_n 95 (gd rfl) rfl rfl ?_
              have p95 : ∃ n m : Int, AE s89 n ∧ n ≤ 32 ∧ RN s89 n m := by exact ⟨(y19_5).toInt, (z89).toInt, ae_fr (ae_fr g44_0 hF72 rfl) hF89 rfl, by have a0 := j44_7; unfold In at a0; have a1 := j19_6; unfold In at a1; have a2 := j19_5; unfold In at a2; have a3 := h2; unfold In at a3; have a4 := ro_2_1; unfold In at a4; have a5 := j44_8; unfold In at a5; have a6 := i89; unfold In at a6; have a7 := i79; unfold In at a7; omega, p89b⟩
              refine g_callv (X := _) (As := []) (r := []) (b := A 76) (q := 76) 98 (gd rfl) rfl rfl rfl rfl rfl (ww_o rfl) (Nat.le_of_ble_eq_true rfl) (Nat.zero_le _) (Nat.zero_le _) (k_185_76 (by omega) hI89 p95) (fun e u h => h) (fun v u h => ?_)
              obtain ⟨s95, hI95, hF95, rfl, rfl, p95a⟩ := h
              show GG _ _ _ _ _ _ _ _ [] _ _ _
              refine g_aload_n 99 (gd rfl) rfl rfl ?_
              refine g_getA (q2 := 83) 102 (gd rfl) rfl rfl rfl rfl ?_
              refine g_iload 104 (gd rfl) rfl rfl ?_
              refine g_iaload 105 (gd rfl) rfl (n := 32) rfl (in_ix j19_6 rfl) (fun z104 e104 => ?_)
              have i104 := inv_I hI95 (n := 32) (t := 0) (-1) 31 rfl (in_ix j19_6 rfl) rfl e104
              have hr := p89b (y19_6).toNatClampNeg (by show (y19_6).toInt.toNat < 32; have a0 := j44_7; unfold In at a0; have a1 := j19_6; unfold In at a1; have a2 := j19_5; unfold In at a2; have a3 := h2; unfold In at a3; have a4 := ro_2_1; unfold In at a4; have a5 := j44_8; unfold In at a5; have a6 := i89; unfold In at a6; have a7 := i79; unfold In at a7; omega)
              rw [← hF95.1 83 rfl, ← e104] at hr
              have i105 : In z104 0 31 := by have h9 := hr.2 (by have e9 : (y19_6).toNatClampNeg = (y19_6).toInt.toNat := rfl; have a0 := j44_7; unfold In at a0; have a1 := j19_6; unfold In at a1; have a2 := j19_5; unfold In at a2; have a3 := h2; unfold In at a3; have a4 := ro_2_1; unfold In at a4; have a5 := j44_8; unfold In at a5; have a6 := i89; unfold In at a6; have a7 := i79; unfold In at a7; omega); exact ⟨h9, i104.2⟩
              have hr1 := hr.1
              refine g_istore 107 (gd rfl) rfl (Nat.le_of_ble_eq_true rfl) ?_
              refine g_iload 109 (gd rfl) rfl rfl ?_
              refine g_istore 111 (gd rfl) rfl (Nat.le_of_ble_eq_true rfl) ?_
              refine g_iinc 114 (gd rfl) rfl rfl (Nat.le_of_ble_eq_true rfl) (fun z111 e111 => ?_)
              have i111 := in_add 1 32 e111 j44_7 (in_c 1 rfl) rfl rfl
              refine g_goto 19 (gd rfl) rfl ?_
              have n19 : (z104).toInt < (z89).toInt := by have a0 := j44_7; unfold In at a0; have a1 := j19_6; unfold In at a1; have a2 := j19_5; unfold In at a2; have a3 := h2; unfold In at a3; have a4 := ro_2_1; unfold In at a4; have a5 := j44_8; unfold In at a5; have a6 := i89; unfold In at a6; have a7 := i79; unfold In at a7; have a8 := i111; unfold In at a8; have a9 := t_add e111 j44_7 (in_c 1 rfl) rfl; have a10 := (in_c 1 rfl); unfold In at a10; have a11 := i105; unfold In at a11; omega
              have n19a : AE s95 (z89).toInt := by exact p95a (y19_5).toInt (z89).toInt (ae_fr (ae_fr g44_0 hF72 rfl) hF89 rfl) (by have a0 := j44_7; unfold In at a0; have a1 := j19_6; unfold In at a1; have a2 := j19_5; unfold In at a2; have a3 := h2; unfold In at a3; have a4 := ro_2_1; unfold In at a4; have a5 := j44_8; unfold In at a5; have a6 := i89; unfold In at a6; have a7 := i79; unfold In at a7; have a8 := i111; unfold In at a8; have a9 := t_add e111 j44_7 (in_c 1 rfl) rfl; have a10 := (in_c 1 rfl); unfold In at a10; have a11 := i105; unfold In at a11; omega) p89b
              exact gg_w (by omega) (gg_f (gf_cons rfl (gf_cons rfl (gf_cons rfl (gf_cons rfl (gf_cons rfl (gf_cons rfl (gf_cons rfl gf_nil))))))) (ih19 s95 y44_3 z89 z104 z111 hI95 (fr_tr rfl (fr_tr rfl (fr_tr rfl hFc44 hF72) hF89) hF95) (in_w 0 32 i89 rfl) (in_w 0 31 i105 rfl) (in_w 0 32 i111 rfl) n19 n19a (m_up mm19 (t_add e111 j44_7 (in_c 1 rfl) rfl) (in_w 1 1 (in_c 1 rfl) rfl))))
            · skip
              have i79 := z_eq 0 0 c79 i72 rfl
              refine g_lload_n 83 (gd rfl) rfl rfl ?_
              exact g_lreturn (gd rfl) rfl (hP _ _ ⟨s72, hI72, (fr_tr rfl hFc44 hF72), y44_3, rfl, rfl⟩)
          · skip
            have i48 := r_lt1 0 31 c48 j44_8 j19_5 rfl
            have i48a := r_lt2 1 32 c48 j44_8 j19_5 rfl
            refine g_lload_n 52 (gd rfl) rfl rfl ?_
            refine g_aload_n 53 (gd rfl) rfl rfl ?_
            refine g_getA (q2 := 80) 56 (gd rfl) rfl rfl rfl rfl ?_
            refine g_iload 58 (gd rfl) rfl rfl ?_
            refine g_laload 59 (gd rfl) rfl (n := 32) rfl (in_ix i48 rfl) (fun z58 e58 => ?_)
            refine g_ladd 60 (gd rfl) rfl (fun z59 e59 => ?_)
            refine g_lstore_n 61 (gd rfl) rfl (Nat.le_of_ble_eq_true rfl) ?_
            refine g_iinc 64 (gd rfl) rfl rfl (Nat.le_of_ble_eq_true rfl) (fun z61 e61 => ?_)
            have i61 := in_add 1 32 e61 i48 (in_c 1 rfl) rfl rfl
            refine g_goto 44 (gd rfl) rfl ?_
            have n44 : AE sc44 (y19_5).toInt := by exact g44_0
            exact gg_w (by omega) (gg_f (gf_cons rfl (gf_cons rfl (gf_cons rfl (gf_cons rfl (gf_cons rfl (gf_cons rfl (gf_cons rfl (gf_cons rfl gf_nil)))))))) (ih44 sc44 z59 z61 hIc44 hFc44 (in_w 0 31 j44_7 rfl) (in_w 0 32 i61 rfl) n44 (m_up mm44 (t_add e61 i48 (in_c 1 rfl) rfl) (in_w 1 1 (in_c 1 rfl) rfl))))
      refine g_iload 21 (gd rfl) rfl rfl ?_
      refine g_bipush 32 23 (gd rfl) rfl rfl ?_
      refine g_cmp_ge 26 117 (gd rfl) rfl rfl (fun c23 => ?_) (fun c23 => ?_)
      · skip
        have i23 := r_le2 32 32 c23 (in_c 32 rfl) j19_7 rfl
        refine g_lload_n 118 (gd rfl) rfl rfl ?_
        exact g_lreturn (gd rfl) rfl (hP _ _ ⟨sc19, hIc19, hFc19, y19_3, rfl, rfl⟩)
      · skip
        have i23 := r_lt1 0 31 c23 j19_7 (in_c 32 rfl) rfl
        refine g_aload_n 27 (gd rfl) rfl rfl ?_
        refine g_iload 29 (gd rfl) rfl rfl ?_
        refine g_iload 31 (gd rfl) rfl rfl ?_
        refine g_callv (X := _) (As := [.int y19_5, .int y19_6]) (r := []) (b := A 76) (q := 76) 34 (gd rfl) rfl rfl rfl rfl rfl (ww_o rfl) (Nat.le_of_ble_eq_true rfl) (Nat.zero_le _) (Nat.zero_le _) (k_182_76 (by omega) hIc19 (in_w 0 32 j19_5 rfl) (in_w 0 31 j19_6 rfl)) (fun e u h => h) (fun v u h => ?_)
        obtain ⟨s31, hI31, hF31, z31, rfl, rfl, i31⟩ := h
        show GG _ _ _ _ _ _ _ _ [.int z31] _ _ _
        refine g_if_ne 37 41 (gd rfl) rfl rfl (fun c34 => ?_) (fun c34 => ?_)
        · skip
          have i34 := z_ne 1 1 c34 i31 rfl
          refine g_iconst 0 42 (gd rfl) rfl rfl ?_
          refine g_istore 44 (gd rfl) rfl (Nat.le_of_ble_eq_true rfl) ?_
          have n44 : AE s31 (y19_5).toInt := by exact ae_fr g19_0 hF31 rfl
          exact gg_w (by omega) (gg_f (gf_cons rfl (gf_cons rfl (gf_cons rfl (gf_cons rfl (gf_cons rfl (gf_cons rfl (gf_cons rfl (gf_cons rfl gf_nil)))))))) (ct44 33 s31 y19_3 (Int32.ofInt 0) hI31 (fr_tr rfl hFc19 hF31) (in_w 0 31 i23 rfl) (in_w 0 32 (in_c 0 rfl) rfl) n44 (m_in 33 (in_w 0 32 (in_c 0 rfl) rfl) rfl)))
        · skip
          have i34 := z_eq 0 0 c34 i31 rfl
          refine g_ldc2_w 9000000000000000 40 (gd rfl) rfl rfl ?_
          exact g_lreturn (gd rfl) rfl (hP _ _ ⟨s31, hI31, (fr_tr rfl hFc19 hF31), (Int64.ofInt 9000000000000000), rfl, rfl⟩)
  refine g_enter2 (k := 180) (N := 1070134) (by omega) rfl (Nat.le_of_ble_eq_true rfl) ?_
  refine g_aload_n 1 (gd rfl) rfl rfl ?_
  refine g_aload_n 2 (gd rfl) rfl rfl ?_
  have p2 : KN (s.1 4) (s.1 5) (s.2.2.1 2 1) := by exact q_0
  refine g_callv (X := _) (As := [.ref (A 2)]) (r := []) (b := A 76) (q := 76) 5 (gd rfl) rfl rfl rfl rfl rfl (ww_o rfl) (Nat.le_of_ble_eq_true rfl) (Nat.zero_le _) (Nat.zero_le _) (k_181_76_2 (by omega) hI p2) (fun e u h => h) (fun v u h => ?_)
  obtain ⟨s2, hI2, hF2, rfl, rfl, p2a⟩ := h
  show GG _ _ _ _ _ _ _ _ [] _ _ _
  refine g_lconst 0 6 (gd rfl) rfl rfl ?_
  refine g_lstore_n 7 (gd rfl) rfl (Nat.le_of_ble_eq_true rfl) ?_
  refine g_aload_n 8 (gd rfl) rfl rfl ?_
  refine g_getI 11 (gd rfl) rfl rfl rfl (fun z8 e8 => ?_)
  have q8 : u_2_1 = z8 := (fr_F (e_2_1) hF2 rfl).trans e8.symm
  subst q8
  refine g_istore 13 (gd rfl) rfl (Nat.le_of_ble_eq_true rfl) ?_
  refine g_iload_n 14 (gd rfl) rfl rfl ?_
  refine g_istore 16 (gd rfl) rfl (Nat.le_of_ble_eq_true rfl) ?_
  refine g_iconst 0 17 (gd rfl) rfl rfl ?_
  refine g_istore 19 (gd rfl) rfl (Nat.le_of_ble_eq_true rfl) ?_
  have n19 : (x2).toInt < (u_2_1).toInt := by have a0 := (inv_F hI 0 32 rfl e_2_1); unfold In at a0; have a1 := h2; unfold In at a1; have a2 := (in_c 0 rfl); unfold In at a2; omega
  have n19a : AE s2 (u_2_1).toInt := by rw [e_2_1]; exact p2a
  exact gg_w (by omega) (gg_f (gf_cons rfl (gf_cons rfl (gf_cons rfl (gf_cons rfl (gf_cons rfl (gf_cons rfl (gf_cons rfl gf_nil))))))) (ct19 33 s2 (Int64.ofInt 0) u_2_1 x2 (Int32.ofInt 0) hI2 (fr_tr rfl fr_rf hF2) (in_w 0 32 (inv_F hI 0 32 rfl e_2_1) rfl) (in_w 0 31 h2 rfl) (in_w 0 32 (in_c 0 rfl) rfl) n19 n19a (m_in 33 (in_w 0 32 (in_c 0 rfl) rfl) rfl)))

def fm_180_76_32 : FM := ([77, 78, 81, 82, 83], [79, 80], [(76, 0)], [])
/-- GraphHouse$Trees.leastRooted -/
theorem k_180_76_32 {Z : AmZ} {A : Nat → Nat} {s : GS} {ex : va_W} {d : Nat} {X : AmX} {x2 : Int32} {u_32_1 : Int32} (hd : 4 ≤ d) (hI : Inv s) (h2 : In x2 0 31) (e_32_1 : u_32_1 = s.2.2.1 32 1) (p_0 : (x2).toInt < (u_32_1).toInt) (q_0 : KN (s.1 34) (s.1 35) (s.2.2.1 32 1)) : GC Z d 180 [.ref (A 76), .ref (A 32), .int x2] (WW Z A s ++ ex) 0 0 (fun v u => ∃ t : GS, Inv t ∧ Fr fm_180_76_32 s t ∧ ∃ z : Int64, v = some (.long z) ∧ u = WW Z A t ++ ex) X := by
  intro post xp hP hX
  have ro_32_1 := inv_F hI 0 32 rfl e_32_1
  have ct19 : ∀ (k19 : Nat) (sc19 : GS) (y19_3 : Int64) (y19_5 : Int32) (y19_6 : Int32) (y19_7 : Int32), Inv sc19 → Fr fm_180_76_32 s sc19 → (In y19_5 0 32) → (In y19_6 0 31) → (In y19_7 0 32) → ((y19_6).toInt < (y19_5).toInt) → (AE sc19 (y19_5).toInt) → 32 - (y19_7).toInt < (k19 : Int) → GG Z (d - 1) 180 post (gx xp) (1 + k19 * 32401) 19 (fun j => xlook j [(0, .ref (A 76)), (1, .ref (A 32)), (2, .int x2), (3, .long y19_3), (5, .int y19_5), (6, .int y19_6), (7, .int y19_7)]) [] (WW Z A sc19 ++ ex) 0 0 := by
    intro k19
    induction k19 with
    | zero => intro sc19 y19_3 y19_5 y19_6 y19_7 hIc19 hFc19 j19_5 j19_6 j19_7 n19_0 g19_0 mm19; exact m_no mm19 j19_7 rfl
    | succ k19 ih19 =>
      intro sc19 y19_3 y19_5 y19_6 y19_7 hIc19 hFc19 j19_5 j19_6 j19_7 n19_0 g19_0 mm19
      refine gg_w (M := 1 + k19 * 32401 + 32401) (by omega) ?_
      have ct44 : ∀ (k44 : Nat) (sc44 : GS) (y44_3 : Int64) (y44_8 : Int32), Inv sc44 → Fr fm_180_76_32 s sc44 → (In y19_7 0 31) → (In y44_8 0 32) → (AE sc44 (y19_5).toInt) → 32 - (y44_8).toInt < (k44 : Int) → GG Z (d - 1) 180 post (gx xp) (1 + k19 * 32401 + 1 + k44 * 900) 44 (fun j => xlook j [(0, .ref (A 76)), (1, .ref (A 32)), (2, .int x2), (3, .long y44_3), (5, .int y19_5), (6, .int y19_6), (7, .int y19_7), (8, .int y44_8)]) [] (WW Z A sc44 ++ ex) 0 0 := by
        intro k44
        induction k44 with
        | zero => intro sc44 y44_3 y44_8 hIc44 hFc44 j44_7 j44_8 g44_0 mm44; exact m_no mm44 j44_8 rfl
        | succ k44 ih44 =>
          intro sc44 y44_3 y44_8 hIc44 hFc44 j44_7 j44_8 g44_0 mm44
          refine gg_w (M := 1 + k19 * 32401 + 1 + k44 * 900 + 900) (by omega) ?_
          refine g_iload 46 (gd rfl) rfl rfl ?_
          refine g_iload 48 (gd rfl) rfl rfl ?_
          refine g_cmp_ge 51 67 (gd rfl) rfl rfl (fun c48 => ?_) (fun c48 => ?_)
          · skip
            refine g_aload_n 68 (gd rfl) rfl rfl ?_
            refine g_iload 70 (gd rfl) rfl rfl ?_
            refine g_iload 72 (gd rfl) rfl rfl ?_
            refine g_callv (X := _) (As := [.int y19_5, .int y19_6]) (r := []) (b := A 76) (q := 76) 75 (gd rfl) rfl rfl rfl rfl rfl (ww_o rfl) (Nat.le_of_ble_eq_true rfl) (Nat.zero_le _) (Nat.zero_le _) (k_183_76 (by omega) hIc44 (in_w 0 32 j19_5 rfl) (in_w 0 31 j19_6 rfl)) (fun e u h => h) (fun v u h => ?_)
            obtain ⟨s72, hI72, hF72, z72, rfl, rfl, i72, p72, p72a⟩ := h
            show GG _ _ _ _ _ _ _ _ [.int z72] _ _ _
            refine g_istore 77 (gd rfl) rfl (Nat.le_of_ble_eq_true rfl) ?_
            refine g_iload 79 (gd rfl) rfl rfl ?_
            refine g_if_ne 82 84 (gd rfl) rfl rfl (fun c79 => ?_) (fun c79 => ?_)
            · skip
              have i79 := z_ne 1 32 c79 i72 rfl
              refine g_aload_n 85 (gd rfl) rfl rfl ?_
              refine g_iload 87 (gd rfl) rfl rfl ?_
              refine g_iload 89 (gd rfl) rfl rfl ?_
              have p89 : (z72).toInt + (c1m (s72.1 83) 32 : Int) ≤ 32 := by exact p72
              have p89a : ∀ v : Nat, v < 32 → (s72.1 83 v).toInt < (z72).toInt := by exact p72a
              refine g_callv (X := _) (As := [.int y19_5, .int z72]) (r := []) (b := A 76) (q := 76) 92 (gd rfl) rfl rfl rfl rfl rfl (ww_o rfl) (Nat.le_of_ble_eq_true rfl) (Nat.zero_le _) (Nat.zero_le _) (k_184_76 (by omega) hI72 (in_w 0 32 j19_5 rfl) (in_w 0 32 i79 rfl) p89 p89a) (fun e u h => h) (fun v u h => ?_)
              obtain ⟨s89, hI89, hF89, z89, rfl, rfl, i89, p89b⟩ := h
              show GG _ _ _ _ _ _ _ _ [.int z89] _ _ _
              refine g_istore 94 (gd rfl) rfl (Nat.le_of_ble_eq_true rfl) ?_
              refine g_aload_n 95 (gd rfl) rfl rfl ?_
              have p95 : ∃ n m : Int, AE s89 n ∧ n ≤ 32 ∧ RN s89 n m := by exact ⟨(y19_5).toInt, (z89).toInt, ae_fr (ae_fr g44_0 hF72 rfl) hF89 rfl, by have a0 := j44_7; unfold In at a0; have a1 := j19_6; unfold In at a1; have a2 := j19_5; unfold In at a2; have a3 := h2; unfold In at a3; have a4 := ro_32_1; unfold In at a4; have a5 := j44_8; unfold In at a5; have a6 := i89; unfold In at a6; have a7 := i79; unfold In at a7; omega, p89b⟩
              refine g_callv (X := _) (As := []) (r := []) (b := A 76) (q := 76) 98 (gd rfl) rfl rfl rfl rfl rfl (ww_o rfl) (Nat.le_of_ble_eq_true rfl) (Nat.zero_le _) (Nat.zero_le _) (k_185_76 (by omega) hI89 p95) (fun e u h => h) (fun v u h => ?_)
              obtain ⟨s95, hI95, hF95, rfl, rfl, p95a⟩ := h
              show GG _ _ _ _ _ _ _ _ [] _ _ _
              refine g_aload_n 99 (gd rfl) rfl rfl ?_
              refine g_getA (q2 := 83) 102 (gd rfl) rfl rfl rfl rfl ?_
              refine g_iload 104 (gd rfl) rfl rfl ?_
              refine g_iaload 105 (gd rfl) rfl (n := 32) rfl (in_ix j19_6 rfl) (fun z104 e104 => ?_)
              have i104 := inv_I hI95 (n := 32) (t := 0) (-1) 31 rfl (in_ix j19_6 rfl) rfl e104
              have hr := p89b (y19_6).toNatClampNeg (by show (y19_6).toInt.toNat < 32; have a0 := j44_7; unfold In at a0; have a1 := j19_6; unfold In at a1; have a2 := j19_5; unfold In at a2; have a3 := h2; unfold In at a3; have a4 := ro_32_1; unfold In at a4; have a5 := j44_8; unfold In at a5; have a6 := i89; unfold In at a6; have a7 := i79; unfold In at a7; omega)
              rw [← hF95.1 83 rfl, ← e104] at hr
              have i105 : In z104 0 31 := by have h9 := hr.2 (by have e9 : (y19_6).toNatClampNeg = (y19_6).toInt.toNat := rfl; have a0 := j44_7; unfold In at a0; have a1 := j19_6; unfold In at a1; have a2 := j19_5; unfold In at a2; have a3 := h2; unfold In at a3; have a4 := ro_32_1; unfold In at a4; have a5 := j44_8; unfold In at a5; have a6 := i89; unfold In at a6; have a7 := i79; unfold In at a7; omega); exact ⟨h9, i104.2⟩
              have hr1 := hr.1
              refine g_istore 107 (gd rfl) rfl (Nat.le_of_ble_eq_true rfl) ?_
              refine g_iload 109 (gd rfl) rfl rfl ?_
              refine g_istore 111 (gd rfl) rfl (Nat.le_of_ble_eq_true rfl) ?_
              refine g_iinc 114 (gd rfl) rfl rfl (Nat.le_of_ble_eq_true rfl) (fun z111 e111 => ?_)
              have i111 := in_add 1 32 e111 j44_7 (in_c 1 rfl) rfl rfl
              refine g_goto 19 (gd rfl) rfl ?_
              have n19 : (z104).toInt < (z89).toInt := by have a0 := j44_7; unfold In at a0; have a1 := j19_6; unfold In at a1; have a2 := j19_5; unfold In at a2; have a3 := h2; unfold In at a3; have a4 := ro_32_1; unfold In at a4; have a5 := j44_8; unfold In at a5; have a6 := i89; unfold In at a6; have a7 := i79; unfold In at a7; have a8 := i111; unfold In at a8; have a9 := t_add e111 j44_7 (in_c 1 rfl) rfl; have a10 := (in_c 1 rfl); unfold In at a10; have a11 := i105; unfold In at a11; omega
              have n19a : AE s95 (z89).toInt := by exact p95a (y19_5).toInt (z89).toInt (ae_fr (ae_fr g44_0 hF72 rfl) hF89 rfl) (by have a0 := j44_7; unfold In at a0; have a1 := j19_6; unfold In at a1; have a2 := j19_5; unfold In at a2; have a3 := h2; unfold In at a3; have a4 := ro_32_1; unfold In at a4; have a5 := j44_8; unfold In at a5; have a6 := i89; unfold In at a6; have a7 := i79; unfold In at a7; have a8 := i111; unfold In at a8; have a9 := t_add e111 j44_7 (in_c 1 rfl) rfl; have a10 := (in_c 1 rfl); unfold In at a10; have a11 := i105; unfold In at a11; omega) p89b
              exact gg_w (by omega) (gg_f (gf_cons rfl (gf_cons rfl (gf_cons rfl (gf_cons rfl (gf_cons rfl (gf_cons rfl (gf_cons rfl gf_nil))))))) (ih19 s95 y44_3 z89 z104 z111 hI95 (fr_tr rfl (fr_tr rfl (fr_tr rfl hFc44 hF72) hF89) hF95) (in_w 0 32 i89 rfl) (in_w 0 31 i105 rfl) (in_w 0 32 i111 rfl) n19 n19a (m_up mm19 (t_add e111 j44_7 (in_c 1 rfl) rfl) (in_w 1 1 (in_c 1 rfl) rfl))))
            · skip
              have i79 := z_eq 0 0 c79 i72 rfl
              refine g_lload_n 83 (gd rfl) rfl rfl ?_
              exact g_lreturn (gd rfl) rfl (hP _ _ ⟨s72, hI72, (fr_tr rfl hFc44 hF72), y44_3, rfl, rfl⟩)
          · skip
            have i48 := r_lt1 0 31 c48 j44_8 j19_5 rfl
            have i48a := r_lt2 1 32 c48 j44_8 j19_5 rfl
            refine g_lload_n 52 (gd rfl) rfl rfl ?_
            refine g_aload_n 53 (gd rfl) rfl rfl ?_
            refine g_getA (q2 := 80) 56 (gd rfl) rfl rfl rfl rfl ?_
            refine g_iload 58 (gd rfl) rfl rfl ?_
            refine g_laload 59 (gd rfl) rfl (n := 32) rfl (in_ix i48 rfl) (fun z58 e58 => ?_)
            refine g_ladd 60 (gd rfl) rfl (fun z59 e59 => ?_)
            refine g_lstore_n 61 (gd rfl) rfl (Nat.le_of_ble_eq_true rfl) ?_
            refine g_iinc 64 (gd rfl) rfl rfl (Nat.le_of_ble_eq_true rfl) (fun z61 e61 => ?_)
            have i61 := in_add 1 32 e61 i48 (in_c 1 rfl) rfl rfl
            refine g_goto 44 (gd rfl) rfl ?_
            have n44 : AE sc44 (y19_5).toInt := by exact g44_0
            exact gg_w (by omega) (gg_f (gf_cons rfl (gf_cons rfl (gf_cons rfl (gf_cons rfl (gf_cons rfl (gf_cons rfl (gf_cons rfl (gf_cons rfl gf_nil)))))))) (ih44 sc44 z59 z61 hIc44 hFc44 (in_w 0 31 j44_7 rfl) (in_w 0 32 i61 rfl) n44 (m_up mm44 (t_add e61 i48 (in_c 1 rfl) rfl) (in_w 1 1 (in_c 1 rfl) rfl))))
      refine g_iload 21 (gd rfl) rfl rfl ?_
      refine g_bipush 32 23 (gd rfl) rfl rfl ?_
      refine g_cmp_ge 26 117 (gd rfl) rfl rfl (fun c23 => ?_) (fun c23 => ?_)
      · skip
        have i23 := r_le2 32 32 c23 (in_c 32 rfl) j19_7 rfl
        refine g_lload_n 118 (gd rfl) rfl rfl ?_
        exact g_lreturn (gd rfl) rfl (hP _ _ ⟨sc19, hIc19, hFc19, y19_3, rfl, rfl⟩)
      · skip
        have i23 := r_lt1 0 31 c23 j19_7 (in_c 32 rfl) rfl
        refine g_aload_n 27 (gd rfl) rfl rfl ?_
        refine g_iload 29 (gd rfl) rfl rfl ?_
        refine g_iload 31 (gd rfl) rfl rfl ?_
        refine g_callv (X := _) (As := [.int y19_5, .int y19_6]) (r := []) (b := A 76) (q := 76) 34 (gd rfl) rfl rfl rfl rfl rfl (ww_o rfl) (Nat.le_of_ble_eq_true rfl) (Nat.zero_le _) (Nat.zero_le _) (k_182_76 (by omega) hIc19 (in_w 0 32 j19_5 rfl) (in_w 0 31 j19_6 rfl)) (fun e u h => h) (fun v u h => ?_)
        obtain ⟨s31, hI31, hF31, z31, rfl, rfl, i31⟩ := h
        show GG _ _ _ _ _ _ _ _ [.int z31] _ _ _
        refine g_if_ne 37 41 (gd rfl) rfl rfl (fun c34 => ?_) (fun c34 => ?_)
        · skip
          have i34 := z_ne 1 1 c34 i31 rfl
          refine g_iconst 0 42 (gd rfl) rfl rfl ?_
          refine g_istore 44 (gd rfl) rfl (Nat.le_of_ble_eq_true rfl) ?_
          have n44 : AE s31 (y19_5).toInt := by exact ae_fr g19_0 hF31 rfl
          exact gg_w (by omega) (gg_f (gf_cons rfl (gf_cons rfl (gf_cons rfl (gf_cons rfl (gf_cons rfl (gf_cons rfl (gf_cons rfl (gf_cons rfl gf_nil)))))))) (ct44 33 s31 y19_3 (Int32.ofInt 0) hI31 (fr_tr rfl hFc19 hF31) (in_w 0 31 i23 rfl) (in_w 0 32 (in_c 0 rfl) rfl) n44 (m_in 33 (in_w 0 32 (in_c 0 rfl) rfl) rfl)))
        · skip
          have i34 := z_eq 0 0 c34 i31 rfl
          refine g_ldc2_w 9000000000000000 40 (gd rfl) rfl rfl ?_
          exact g_lreturn (gd rfl) rfl (hP _ _ ⟨s31, hI31, (fr_tr rfl hFc19 hF31), (Int64.ofInt 9000000000000000), rfl, rfl⟩)
  refine g_enter2 (k := 180) (N := 1070134) (by omega) rfl (Nat.le_of_ble_eq_true rfl) ?_
  refine g_aload_n 1 (gd rfl) rfl rfl ?_
  refine g_aload_n 2 (gd rfl) rfl rfl ?_
  have p2 : KN (s.1 34) (s.1 35) (s.2.2.1 32 1) := by exact q_0
  refine g_callv (X := _) (As := [.ref (A 32)]) (r := []) (b := A 76) (q := 76) 5 (gd rfl) rfl rfl rfl rfl rfl (ww_o rfl) (Nat.le_of_ble_eq_true rfl) (Nat.zero_le _) (Nat.zero_le _) (k_181_76_32 (by omega) hI p2) (fun e u h => h) (fun v u h => ?_)
  obtain ⟨s2, hI2, hF2, rfl, rfl, p2a⟩ := h
  show GG _ _ _ _ _ _ _ _ [] _ _ _
  refine g_lconst 0 6 (gd rfl) rfl rfl ?_
  refine g_lstore_n 7 (gd rfl) rfl (Nat.le_of_ble_eq_true rfl) ?_
  refine g_aload_n 8 (gd rfl) rfl rfl ?_
  refine g_getI 11 (gd rfl) rfl rfl rfl (fun z8 e8 => ?_)
  have q8 : u_32_1 = z8 := (fr_F (e_32_1) hF2 rfl).trans e8.symm
  subst q8
  refine g_istore 13 (gd rfl) rfl (Nat.le_of_ble_eq_true rfl) ?_
  refine g_iload_n 14 (gd rfl) rfl rfl ?_
  refine g_istore 16 (gd rfl) rfl (Nat.le_of_ble_eq_true rfl) ?_
  refine g_iconst 0 17 (gd rfl) rfl rfl ?_
  refine g_istore 19 (gd rfl) rfl (Nat.le_of_ble_eq_true rfl) ?_
  have n19 : (x2).toInt < (u_32_1).toInt := by have a0 := (inv_F hI 0 32 rfl e_32_1); unfold In at a0; have a1 := h2; unfold In at a1; have a2 := (in_c 0 rfl); unfold In at a2; omega
  have n19a : AE s2 (u_32_1).toInt := by rw [e_32_1]; exact p2a
  exact gg_w (by omega) (gg_f (gf_cons rfl (gf_cons rfl (gf_cons rfl (gf_cons rfl (gf_cons rfl (gf_cons rfl (gf_cons rfl gf_nil))))))) (ct19 33 s2 (Int64.ofInt 0) u_32_1 x2 (Int32.ofInt 0) hI2 (fr_tr rfl fr_rf hF2) (in_w 0 32 (inv_F hI 0 32 rfl e_32_1) rfl) (in_w 0 31 h2 rfl) (in_w 0 32 (in_c 0 rfl) rfl) n19 n19a (m_in 33 (in_w 0 32 (in_c 0 rfl) rfl) rfl)))

def fm_245_0 : FM := ([77, 78, 81, 82, 83], [79, 80], [(76, 0)], [])
/-- GraphHouse.tree -/
theorem k_245_0 {Z : AmZ} {A : Nat → Nat} {s : GS} {ex : va_W} {d : Nat} {x1 : Int32} {u_2_1 : Int32} {u_32_1 : Int32} (hd : 7 ≤ d) (hI : Inv s) (e_2_1 : u_2_1 = s.2.2.1 2 1) (e_32_1 : u_32_1 = s.2.2.1 32 1) (q_0 : KL s) : GC Z d 245 [.ref (A 0), .int x1] (WW Z A s ++ ex) 3 18 (fun v u => ∃ t : GS, Inv t ∧ Fr fm_245_0 s t ∧ ∃ z : Int64, v = some (.long z) ∧ u = WW Z A t ++ ex) (gE1 Z A ex ([], [], [], []) s) := by
  intro post xp hP hX
  obtain ⟨u_0_2, e_0_2⟩ : ∃ w, w = s.2.2.1 0 2 := ⟨_, rfl⟩
  have ro_0_2 := inv_F hI (-1) 4000 rfl e_0_2
  have ro_2_1 := inv_F hI 0 32 rfl e_2_1
  have ro_32_1 := inv_F hI 0 32 rfl e_32_1
  refine g_enter2 (k := 245) (N := 900) (by omega) rfl (Nat.le_of_ble_eq_true rfl) ?_
  refine g_aload_n 1 (gd rfl) rfl rfl ?_
  refine g_callv (X := _) (As := []) (r := []) (b := A 0) (q := 0) 4 (gd rfl) rfl rfl rfl rfl rfl (ww_o rfl) (Nat.le_of_ble_eq_true rfl) (mc := 0) (ms := 0) (Nat.zero_le _) (Nat.zero_le _) (P := fun v u => _) ?_ (fun e u h => h) (fun v u h => h)
  intro po1 xx1 hp1 hx1
  refine g_enter2 (k := 259) (N := 300) (by omega) rfl (Nat.le_of_ble_eq_true rfl) ?_
  refine g_aload_n 1 (gd rfl) rfl rfl ?_
  refine g_getI 4 (gd rfl) rfl rfl rfl (fun z1x1 e1x1 => ?_)
  have q1x1 : u_0_2 = z1x1 := (e_0_2).trans e1x1.symm
  subst q1x1
  refine g_iconst (-1) 5 (gd rfl) rfl rfl ?_
  refine g_cmp_ne 8 18 (gd rfl) rfl rfl (fun c1x5 => ?_) (fun c1x5 => ?_)
  · skip
    have i1x5 := r_ne1 0 4000 c1x5 ro_0_2 (in_c (-1) rfl) rfl
    refine g_aload_n 19 (gd rfl) rfl rfl ?_
    refine g_getA (q2 := 32) 22 (gd rfl) rfl rfl rfl rfl ?_
    refine g_areturn (gd rfl) rfl (hp1 _ _ ?_)
    show GG _ _ _ _ _ _ _ _ [.ref (A 32)] _ _ _
    refine g_astore_n 5 (gd rfl) rfl (Nat.le_of_ble_eq_true rfl) ?_
    refine g_aload_n 6 (gd rfl) rfl rfl ?_
    refine g_iload_n 7 (gd rfl) rfl rfl ?_
    refine g_callv (X := _) (As := [.int x1]) (r := []) (b := A 32) (q := 32) 10 (gd rfl) rfl rfl rfl rfl rfl (ww_o rfl) (Nat.le_of_ble_eq_true rfl) (mc := 0) (ms := 0) (Nat.zero_le _) (Nat.zero_le _) (P := fun v u => _) ?_ (fun e u h => h) (fun v u h => h)
    intro po7 xx7 hp7 hx7
    refine g_enter2 (k := 94) (N := 300) (by omega) rfl (Nat.le_of_ble_eq_true rfl) ?_
    refine g_iload_n 1 (gd rfl) rfl rfl ?_
    refine g_if_lt 4 16 (gd rfl) rfl rfl (fun c7x1 => ?_) (fun c7x1 => ?_)
    · skip
      have i7x1 := z_lt (-2147483648) (-1) c7x1 (i_rng x1) rfl
      refine g_iconst 0 17 (gd rfl) rfl rfl ?_
      refine g_ireturn (gd rfl) rfl (nb01 (in_w 0 1 (in_c 0 rfl) rfl)) (hp7 _ _ ?_)
      show GG _ _ _ _ _ _ _ _ [.int (Int32.ofInt 0)] _ _ _
      refine g_thr (E := am_IA) (y := yX11_allow) 13 (gd rfl) rfl rfl (Or.inl ⟨rfl, rfl, rfl⟩) (by omega) (Nat.le_of_ble_eq_true rfl) (Nat.le_of_ble_eq_true rfl) (Nat.le_of_ble_eq_true rfl) (fun c10 => ?_) (fun c10 => ?_)
      · skip
        exact zn_ne c10 (in_c 0 rfl) rfl
      · skip
        exact (hX _ _ ⟨rfl, s, hI, fr_rf, rfl⟩)
    · skip
      have i7x1 := z_ge 0 2147483647 c7x1 (i_rng x1) rfl
      refine g_iload_n 5 (gd rfl) rfl rfl ?_
      refine g_aload_n 6 (gd rfl) rfl rfl ?_
      refine g_getI 9 (gd rfl) rfl rfl rfl (fun z7x6 e7x6 => ?_)
      have q7x6 : u_32_1 = z7x6 := (e_32_1).trans e7x6.symm
      subst q7x6
      refine g_cmp_ge 12 16 (gd rfl) rfl rfl (fun c7x9 => ?_) (fun c7x9 => ?_)
      · skip
        refine g_iconst 0 17 (gd rfl) rfl rfl ?_
        refine g_ireturn (gd rfl) rfl (nb01 (in_w 0 1 (in_c 0 rfl) rfl)) (hp7 _ _ ?_)
        show GG _ _ _ _ _ _ _ _ [.int (Int32.ofInt 0)] _ _ _
        refine g_thr (E := am_IA) (y := yX11_allow) 13 (gd rfl) rfl rfl (Or.inl ⟨rfl, rfl, rfl⟩) (by omega) (Nat.le_of_ble_eq_true rfl) (Nat.le_of_ble_eq_true rfl) (Nat.le_of_ble_eq_true rfl) (fun c10 => ?_) (fun c10 => ?_)
        · skip
          exact zn_ne c10 (in_c 0 rfl) rfl
        · skip
          exact (hX _ _ ⟨rfl, s, hI, fr_rf, rfl⟩)
      · skip
        have i7x9 := r_lt1 0 31 c7x9 i7x1 (inv_F hI 0 32 rfl e_32_1) rfl
        have i7x9a := r_lt2 1 32 c7x9 i7x1 (inv_F hI 0 32 rfl e_32_1) rfl
        refine g_iconst 1 13 (gd rfl) rfl rfl ?_
        refine g_goto 17 (gd rfl) rfl ?_
        refine g_ireturn (gd rfl) rfl (nb01 (in_w 0 1 (in_c 1 rfl) rfl)) (hp7 _ _ ?_)
        show GG _ _ _ _ _ _ _ _ [.int (Int32.ofInt 1)] _ _ _
        refine g_thr (E := am_IA) (y := yX11_allow) 13 (gd rfl) rfl rfl (Or.inl ⟨rfl, rfl, rfl⟩) (by omega) (Nat.le_of_ble_eq_true rfl) (Nat.le_of_ble_eq_true rfl) (Nat.le_of_ble_eq_true rfl) (fun c10 => ?_) (fun c10 => ?_)
        · skip
          refine g_aload_n 14 (gd rfl) rfl rfl ?_
          refine g_getA (q2 := 76) 17 (gd rfl) rfl rfl rfl rfl ?_
          refine g_aload_n 18 (gd rfl) rfl rfl ?_
          refine g_iload_n 19 (gd rfl) rfl rfl ?_
          have n19 : (x1).toInt < (u_32_1).toInt := by have a0 := i7x9; unfold In at a0; have a1 := i1x5; unfold In at a1; have a2 := i7x9a; unfold In at a2; have a3 := (inv_F hI 0 32 rfl e_2_1); unfold In at a3; omega
          have p19 : KN (s.1 34) (s.1 35) (s.2.2.1 32 1) := by first | exact q_0.2.2.2.1.2 | exact q_0.2.2.2.2.2
          refine g_callv (X := _) (As := [.ref (A 32), .int x1]) (r := []) (b := A 76) (q := 76) 22 (gd rfl) rfl rfl rfl rfl rfl (ww_o rfl) (Nat.le_of_ble_eq_true rfl) (Nat.zero_le _) (Nat.zero_le _) (k_180_76_32 (by omega) hI (in_w 0 31 i7x9 rfl) e_32_1 n19 p19) (fun e u h => h) (fun v u h => ?_)
          obtain ⟨s19, hI19, hF19, z19, rfl, rfl⟩ := h
          show GG _ _ _ _ _ _ _ _ [.long z19] _ _ _
          exact g_lreturn (gd rfl) rfl (hP _ _ ⟨s19, hI19, (fr_tr rfl fr_rf hF19), z19, rfl, rfl⟩)
        · skip
          exact zn_eq c10 (in_c 1 rfl) rfl
  · skip
    have i1x5 := r_eq1 (-1) (-1) c1x5 ro_0_2 (in_c (-1) rfl) rfl
    refine g_aload_n 9 (gd rfl) rfl rfl ?_
    refine g_getA (q2 := 1) 12 (gd rfl) rfl rfl rfl rfl ?_
    refine g_getA (q2 := 2) 15 (gd rfl) rfl rfl rfl rfl ?_
    refine g_goto 22 (gd rfl) rfl ?_
    refine g_areturn (gd rfl) rfl (hp1 _ _ ?_)
    show GG _ _ _ _ _ _ _ _ [.ref (A 2)] _ _ _
    refine g_astore_n 5 (gd rfl) rfl (Nat.le_of_ble_eq_true rfl) ?_
    refine g_aload_n 6 (gd rfl) rfl rfl ?_
    refine g_iload_n 7 (gd rfl) rfl rfl ?_
    refine g_callv (X := _) (As := [.int x1]) (r := []) (b := A 2) (q := 2) 10 (gd rfl) rfl rfl rfl rfl rfl (ww_o rfl) (Nat.le_of_ble_eq_true rfl) (mc := 0) (ms := 0) (Nat.zero_le _) (Nat.zero_le _) (P := fun v u => _) ?_ (fun e u h => h) (fun v u h => h)
    intro po7 xx7 hp7 hx7
    refine g_enter2 (k := 94) (N := 300) (by omega) rfl (Nat.le_of_ble_eq_true rfl) ?_
    refine g_iload_n 1 (gd rfl) rfl rfl ?_
    refine g_if_lt 4 16 (gd rfl) rfl rfl (fun c7x1 => ?_) (fun c7x1 => ?_)
    · skip
      have i7x1 := z_lt (-2147483648) (-1) c7x1 (i_rng x1) rfl
      refine g_iconst 0 17 (gd rfl) rfl rfl ?_
      refine g_ireturn (gd rfl) rfl (nb01 (in_w 0 1 (in_c 0 rfl) rfl)) (hp7 _ _ ?_)
      show GG _ _ _ _ _ _ _ _ [.int (Int32.ofInt 0)] _ _ _
      refine g_thr (E := am_IA) (y := yX11_allow) 13 (gd rfl) rfl rfl (Or.inl ⟨rfl, rfl, rfl⟩) (by omega) (Nat.le_of_ble_eq_true rfl) (Nat.le_of_ble_eq_true rfl) (Nat.le_of_ble_eq_true rfl) (fun c10 => ?_) (fun c10 => ?_)
      · skip
        exact zn_ne c10 (in_c 0 rfl) rfl
      · skip
        exact (hX _ _ ⟨rfl, s, hI, fr_rf, rfl⟩)
    · skip
      have i7x1 := z_ge 0 2147483647 c7x1 (i_rng x1) rfl
      refine g_iload_n 5 (gd rfl) rfl rfl ?_
      refine g_aload_n 6 (gd rfl) rfl rfl ?_
      refine g_getI 9 (gd rfl) rfl rfl rfl (fun z7x6 e7x6 => ?_)
      have q7x6 : u_2_1 = z7x6 := (e_2_1).trans e7x6.symm
      subst q7x6
      refine g_cmp_ge 12 16 (gd rfl) rfl rfl (fun c7x9 => ?_) (fun c7x9 => ?_)
      · skip
        refine g_iconst 0 17 (gd rfl) rfl rfl ?_
        refine g_ireturn (gd rfl) rfl (nb01 (in_w 0 1 (in_c 0 rfl) rfl)) (hp7 _ _ ?_)
        show GG _ _ _ _ _ _ _ _ [.int (Int32.ofInt 0)] _ _ _
        refine g_thr (E := am_IA) (y := yX11_allow) 13 (gd rfl) rfl rfl (Or.inl ⟨rfl, rfl, rfl⟩) (by omega) (Nat.le_of_ble_eq_true rfl) (Nat.le_of_ble_eq_true rfl) (Nat.le_of_ble_eq_true rfl) (fun c10 => ?_) (fun c10 => ?_)
        · skip
          exact zn_ne c10 (in_c 0 rfl) rfl
        · skip
          exact (hX _ _ ⟨rfl, s, hI, fr_rf, rfl⟩)
      · skip
        have i7x9 := r_lt1 0 31 c7x9 i7x1 (inv_F hI 0 32 rfl e_2_1) rfl
        have i7x9a := r_lt2 1 32 c7x9 i7x1 (inv_F hI 0 32 rfl e_2_1) rfl
        refine g_iconst 1 13 (gd rfl) rfl rfl ?_
        refine g_goto 17 (gd rfl) rfl ?_
        refine g_ireturn (gd rfl) rfl (nb01 (in_w 0 1 (in_c 1 rfl) rfl)) (hp7 _ _ ?_)
        show GG _ _ _ _ _ _ _ _ [.int (Int32.ofInt 1)] _ _ _
        refine g_thr (E := am_IA) (y := yX11_allow) 13 (gd rfl) rfl rfl (Or.inl ⟨rfl, rfl, rfl⟩) (by omega) (Nat.le_of_ble_eq_true rfl) (Nat.le_of_ble_eq_true rfl) (Nat.le_of_ble_eq_true rfl) (fun c10 => ?_) (fun c10 => ?_)
        · skip
          refine g_aload_n 14 (gd rfl) rfl rfl ?_
          refine g_getA (q2 := 76) 17 (gd rfl) rfl rfl rfl rfl ?_
          refine g_aload_n 18 (gd rfl) rfl rfl ?_
          refine g_iload_n 19 (gd rfl) rfl rfl ?_
          have n19 : (x1).toInt < (u_2_1).toInt := by have a0 := i7x9; unfold In at a0; have a1 := i1x5; unfold In at a1; have a2 := (inv_F hI 0 32 rfl e_32_1); unfold In at a2; have a3 := i7x9a; unfold In at a3; omega
          have p19 : KN (s.1 4) (s.1 5) (s.2.2.1 2 1) := by first | exact q_0.2.2.2.1.2 | exact q_0.2.2.2.2.2
          refine g_callv (X := _) (As := [.ref (A 2), .int x1]) (r := []) (b := A 76) (q := 76) 22 (gd rfl) rfl rfl rfl rfl rfl (ww_o rfl) (Nat.le_of_ble_eq_true rfl) (Nat.zero_le _) (Nat.zero_le _) (k_180_76_2 (by omega) hI (in_w 0 31 i7x9 rfl) e_2_1 n19 p19) (fun e u h => h) (fun v u h => ?_)
          obtain ⟨s19, hI19, hF19, z19, rfl, rfl⟩ := h
          show GG _ _ _ _ _ _ _ _ [.long z19] _ _ _
          exact g_lreturn (gd rfl) rfl (hP _ _ ⟨s19, hI19, (fr_tr rfl fr_rf hF19), z19, rfl, rfl⟩)
        · skip
          exact zn_eq c10 (in_c 1 rfl) rfl

def fm_248_0 : FM := ([9, 10, 11, 12, 13, 14, 15, 39, 40, 41, 42, 43, 44, 45], [87, 88], [(2, 4), (32, 4), (86, 0), (86, 1)], [])
/-- GraphHouse.rank -/
theorem k_248_0 {Z : AmZ} {A : Nat → Nat} {s : GS} {ex : va_W} {d : Nat} {x1 : Int32} {x2 : Int32} (hd : 7 ≤ d) (hI : Inv s)  : GC Z d 248 [.ref (A 0), .int x1, .int x2] (WW Z A s ++ ex) 3 18 (fun v u => ∃ xa ya : Nat, ∃ t : GS, Inv t ∧ Fr fm_248_0 s t ∧ ∃ z : Int64, v = some (.long z) ∧ u = WW Z (a2 A xa ya) t ++ ex) (gE1 Z A ex fm_248_0 s) := by
  intro post xp hP hX
  obtain ⟨u_0_2, e_0_2⟩ : ∃ w, w = s.2.2.1 0 2 := ⟨_, rfl⟩
  have ro_0_2 := inv_F hI (-1) 4000 rfl e_0_2
  obtain ⟨u_2_1, e_2_1⟩ : ∃ w, w = s.2.2.1 2 1 := ⟨_, rfl⟩
  have ro_2_1 := inv_F hI 0 32 rfl e_2_1
  obtain ⟨u_32_1, e_32_1⟩ : ∃ w, w = s.2.2.1 32 1 := ⟨_, rfl⟩
  have ro_32_1 := inv_F hI 0 32 rfl e_32_1
  refine g_enter2 (k := 248) (N := 900) (by omega) rfl (Nat.le_of_ble_eq_true rfl) ?_
  refine g_aload_n 1 (gd rfl) rfl rfl ?_
  refine g_callv (X := _) (As := []) (r := []) (b := A 0) (q := 0) 4 (gd rfl) rfl rfl rfl rfl rfl (ww_o rfl) (Nat.le_of_ble_eq_true rfl) (mc := 0) (ms := 0) (Nat.zero_le _) (Nat.zero_le _) (P := fun v u => _) ?_ (fun e u h => h) (fun v u h => h)
  intro po1 xx1 hp1 hx1
  refine g_enter2 (k := 259) (N := 300) (by omega) rfl (Nat.le_of_ble_eq_true rfl) ?_
  refine g_aload_n 1 (gd rfl) rfl rfl ?_
  refine g_getI 4 (gd rfl) rfl rfl rfl (fun z1x1 e1x1 => ?_)
  have q1x1 : u_0_2 = z1x1 := (e_0_2).trans e1x1.symm
  subst q1x1
  refine g_iconst (-1) 5 (gd rfl) rfl rfl ?_
  refine g_cmp_ne 8 18 (gd rfl) rfl rfl (fun c1x5 => ?_) (fun c1x5 => ?_)
  · skip
    have i1x5 := r_ne1 0 4000 c1x5 ro_0_2 (in_c (-1) rfl) rfl
    refine g_aload_n 19 (gd rfl) rfl rfl ?_
    refine g_getA (q2 := 32) 22 (gd rfl) rfl rfl rfl rfl ?_
    refine g_areturn (gd rfl) rfl (hp1 _ _ ?_)
    show GG _ _ _ _ _ _ _ _ [.ref (A 32)] _ _ _
    refine g_astore_n 5 (gd rfl) rfl (Nat.le_of_ble_eq_true rfl) ?_
    refine g_aload_n 6 (gd rfl) rfl rfl ?_
    refine g_iload_n 7 (gd rfl) rfl rfl ?_
    refine g_callv (X := _) (As := [.int x1]) (r := []) (b := A 32) (q := 32) 10 (gd rfl) rfl rfl rfl rfl rfl (ww_o rfl) (Nat.le_of_ble_eq_true rfl) (mc := 0) (ms := 0) (Nat.zero_le _) (Nat.zero_le _) (P := fun v u => _) ?_ (fun e u h => h) (fun v u h => h)
    intro po7 xx7 hp7 hx7
    refine g_enter2 (k := 94) (N := 300) (by omega) rfl (Nat.le_of_ble_eq_true rfl) ?_
    refine g_iload_n 1 (gd rfl) rfl rfl ?_
    refine g_if_lt 4 16 (gd rfl) rfl rfl (fun c7x1 => ?_) (fun c7x1 => ?_)
    · skip
      have i7x1 := z_lt (-2147483648) (-1) c7x1 (i_rng x1) rfl
      refine g_iconst 0 17 (gd rfl) rfl rfl ?_
      refine g_ireturn (gd rfl) rfl (nb01 (in_w 0 1 (in_c 0 rfl) rfl)) (hp7 _ _ ?_)
      show GG _ _ _ _ _ _ _ _ [.int (Int32.ofInt 0)] _ _ _
      refine g_if_eq 13 27 (gd rfl) rfl rfl (fun c10 => ?_) (fun c10 => ?_)
      · skip
        refine g_iconst 0 28 (gd rfl) rfl rfl ?_
        refine g_thr (E := am_IA) (y := yX11_allow) 31 (gd rfl) rfl rfl (Or.inl ⟨rfl, rfl, rfl⟩) (by omega) (Nat.le_of_ble_eq_true rfl) (Nat.le_of_ble_eq_true rfl) (Nat.le_of_ble_eq_true rfl) (fun c28 => ?_) (fun c28 => ?_)
        · skip
          exact zn_ne c28 (in_c 0 rfl) rfl
        · skip
          exact (hX _ _ ⟨rfl, s, hI, fr_rf, rfl⟩)
      · skip
        exact zn_ne c10 (in_c 0 rfl) rfl
    · skip
      have i7x1 := z_ge 0 2147483647 c7x1 (i_rng x1) rfl
      refine g_iload_n 5 (gd rfl) rfl rfl ?_
      refine g_aload_n 6 (gd rfl) rfl rfl ?_
      refine g_getI 9 (gd rfl) rfl rfl rfl (fun z7x6 e7x6 => ?_)
      have q7x6 : u_32_1 = z7x6 := (e_32_1).trans e7x6.symm
      subst q7x6
      refine g_cmp_ge 12 16 (gd rfl) rfl rfl (fun c7x9 => ?_) (fun c7x9 => ?_)
      · skip
        refine g_iconst 0 17 (gd rfl) rfl rfl ?_
        refine g_ireturn (gd rfl) rfl (nb01 (in_w 0 1 (in_c 0 rfl) rfl)) (hp7 _ _ ?_)
        show GG _ _ _ _ _ _ _ _ [.int (Int32.ofInt 0)] _ _ _
        refine g_if_eq 13 27 (gd rfl) rfl rfl (fun c10 => ?_) (fun c10 => ?_)
        · skip
          refine g_iconst 0 28 (gd rfl) rfl rfl ?_
          refine g_thr (E := am_IA) (y := yX11_allow) 31 (gd rfl) rfl rfl (Or.inl ⟨rfl, rfl, rfl⟩) (by omega) (Nat.le_of_ble_eq_true rfl) (Nat.le_of_ble_eq_true rfl) (Nat.le_of_ble_eq_true rfl) (fun c28 => ?_) (fun c28 => ?_)
          · skip
            exact zn_ne c28 (in_c 0 rfl) rfl
          · skip
            exact (hX _ _ ⟨rfl, s, hI, fr_rf, rfl⟩)
        · skip
          exact zn_ne c10 (in_c 0 rfl) rfl
      · skip
        have i7x9 := r_lt1 0 31 c7x9 i7x1 ro_32_1 rfl
        have i7x9a := r_lt2 1 32 c7x9 i7x1 ro_32_1 rfl
        refine g_iconst 1 13 (gd rfl) rfl rfl ?_
        refine g_goto 17 (gd rfl) rfl ?_
        refine g_ireturn (gd rfl) rfl (nb01 (in_w 0 1 (in_c 1 rfl) rfl)) (hp7 _ _ ?_)
        show GG _ _ _ _ _ _ _ _ [.int (Int32.ofInt 1)] _ _ _
        refine g_if_eq 13 27 (gd rfl) rfl rfl (fun c10 => ?_) (fun c10 => ?_)
        · skip
          exact zn_eq c10 (in_c 1 rfl) rfl
        · skip
          refine g_iload_n 14 (gd rfl) rfl rfl ?_
          refine g_if_lt 17 27 (gd rfl) rfl rfl (fun c14 => ?_) (fun c14 => ?_)
          · skip
            have i14 := z_lt (-2147483648) (-1) c14 (i_rng x2) rfl
            refine g_iconst 0 28 (gd rfl) rfl rfl ?_
            refine g_thr (E := am_IA) (y := yX11_allow) 31 (gd rfl) rfl rfl (Or.inl ⟨rfl, rfl, rfl⟩) (by omega) (Nat.le_of_ble_eq_true rfl) (Nat.le_of_ble_eq_true rfl) (Nat.le_of_ble_eq_true rfl) (fun c28 => ?_) (fun c28 => ?_)
            · skip
              exact zn_ne c28 (in_c 0 rfl) rfl
            · skip
              exact (hX _ _ ⟨rfl, s, hI, fr_rf, rfl⟩)
          · skip
            have i14 := z_ge 0 2147483647 c14 (i_rng x2) rfl
            refine g_iload_n 18 (gd rfl) rfl rfl ?_
            refine g_bipush 40 20 (gd rfl) rfl rfl ?_
            refine g_cmp_gt 23 27 (gd rfl) rfl rfl (fun c20 => ?_) (fun c20 => ?_)
            · skip
              have i20 := r_lt2 41 2147483647 c20 (in_c 40 rfl) i14 rfl
              refine g_iconst 0 28 (gd rfl) rfl rfl ?_
              refine g_thr (E := am_IA) (y := yX11_allow) 31 (gd rfl) rfl rfl (Or.inl ⟨rfl, rfl, rfl⟩) (by omega) (Nat.le_of_ble_eq_true rfl) (Nat.le_of_ble_eq_true rfl) (Nat.le_of_ble_eq_true rfl) (fun c28 => ?_) (fun c28 => ?_)
              · skip
                exact zn_ne c28 (in_c 0 rfl) rfl
              · skip
                exact (hX _ _ ⟨rfl, s, hI, fr_rf, rfl⟩)
            · skip
              have i20 := r_le1 0 40 c20 i14 (in_c 40 rfl) rfl
              refine g_iconst 1 24 (gd rfl) rfl rfl ?_
              refine g_goto 28 (gd rfl) rfl ?_
              refine g_thr (E := am_IA) (y := yX11_allow) 31 (gd rfl) rfl rfl (Or.inl ⟨rfl, rfl, rfl⟩) (by omega) (Nat.le_of_ble_eq_true rfl) (Nat.le_of_ble_eq_true rfl) (Nat.le_of_ble_eq_true rfl) (fun c28 => ?_) (fun c28 => ?_)
              · skip
                refine g_aload_n 32 (gd rfl) rfl rfl ?_
                refine g_getA (q2 := 86) 35 (gd rfl) rfl rfl rfl rfl ?_
                refine g_aload_n 36 (gd rfl) rfl rfl ?_
                refine g_iload_n 37 (gd rfl) rfl rfl ?_
                refine g_iload_n 38 (gd rfl) rfl rfl ?_
                refine g_callv (X := _) (As := [.ref (A 32), .int x1, .int x2]) (r := []) (b := A 86) (q := 86) 41 (gd rfl) rfl rfl rfl rfl rfl (ww_o rfl) (Nat.le_of_ble_eq_true rfl) (Nat.zero_le _) (Nat.zero_le _) (k_109_86_32 (by omega) hI (in_w 0 31 i7x9 rfl) (in_w 0 40 i20 rfl)) (fun e u h => h) (fun v u h => ?_)
                obtain ⟨xa38, ya38, s38, hI38, hF38, z38, rfl, rfl⟩ := h
                show GG _ _ _ _ _ _ _ _ [.long z38] _ _ _
                exact g_lreturn (gd rfl) rfl (hP _ _ ⟨xa38, ya38, s38, hI38, (fr_tr rfl fr_rf hF38), z38, rfl, rfl⟩)
              · skip
                exact zn_eq c28 (in_c 1 rfl) rfl
  · skip
    have i1x5 := r_eq1 (-1) (-1) c1x5 ro_0_2 (in_c (-1) rfl) rfl
    refine g_aload_n 9 (gd rfl) rfl rfl ?_
    refine g_getA (q2 := 1) 12 (gd rfl) rfl rfl rfl rfl ?_
    refine g_getA (q2 := 2) 15 (gd rfl) rfl rfl rfl rfl ?_
    refine g_goto 22 (gd rfl) rfl ?_
    refine g_areturn (gd rfl) rfl (hp1 _ _ ?_)
    show GG _ _ _ _ _ _ _ _ [.ref (A 2)] _ _ _
    refine g_astore_n 5 (gd rfl) rfl (Nat.le_of_ble_eq_true rfl) ?_
    refine g_aload_n 6 (gd rfl) rfl rfl ?_
    refine g_iload_n 7 (gd rfl) rfl rfl ?_
    refine g_callv (X := _) (As := [.int x1]) (r := []) (b := A 2) (q := 2) 10 (gd rfl) rfl rfl rfl rfl rfl (ww_o rfl) (Nat.le_of_ble_eq_true rfl) (mc := 0) (ms := 0) (Nat.zero_le _) (Nat.zero_le _) (P := fun v u => _) ?_ (fun e u h => h) (fun v u h => h)
    intro po7 xx7 hp7 hx7
    refine g_enter2 (k := 94) (N := 300) (by omega) rfl (Nat.le_of_ble_eq_true rfl) ?_
    refine g_iload_n 1 (gd rfl) rfl rfl ?_
    refine g_if_lt 4 16 (gd rfl) rfl rfl (fun c7x1 => ?_) (fun c7x1 => ?_)
    · skip
      have i7x1 := z_lt (-2147483648) (-1) c7x1 (i_rng x1) rfl
      refine g_iconst 0 17 (gd rfl) rfl rfl ?_
      refine g_ireturn (gd rfl) rfl (nb01 (in_w 0 1 (in_c 0 rfl) rfl)) (hp7 _ _ ?_)
      show GG _ _ _ _ _ _ _ _ [.int (Int32.ofInt 0)] _ _ _
      refine g_if_eq 13 27 (gd rfl) rfl rfl (fun c10 => ?_) (fun c10 => ?_)
      · skip
        refine g_iconst 0 28 (gd rfl) rfl rfl ?_
        refine g_thr (E := am_IA) (y := yX11_allow) 31 (gd rfl) rfl rfl (Or.inl ⟨rfl, rfl, rfl⟩) (by omega) (Nat.le_of_ble_eq_true rfl) (Nat.le_of_ble_eq_true rfl) (Nat.le_of_ble_eq_true rfl) (fun c28 => ?_) (fun c28 => ?_)
        · skip
          exact zn_ne c28 (in_c 0 rfl) rfl
        · skip
          exact (hX _ _ ⟨rfl, s, hI, fr_rf, rfl⟩)
      · skip
        exact zn_ne c10 (in_c 0 rfl) rfl
    · skip
      have i7x1 := z_ge 0 2147483647 c7x1 (i_rng x1) rfl
      refine g_iload_n 5 (gd rfl) rfl rfl ?_
      refine g_aload_n 6 (gd rfl) rfl rfl ?_
      refine g_getI 9 (gd rfl) rfl rfl rfl (fun z7x6 e7x6 => ?_)
      have q7x6 : u_2_1 = z7x6 := (e_2_1).trans e7x6.symm
      subst q7x6
      refine g_cmp_ge 12 16 (gd rfl) rfl rfl (fun c7x9 => ?_) (fun c7x9 => ?_)
      · skip
        refine g_iconst 0 17 (gd rfl) rfl rfl ?_
        refine g_ireturn (gd rfl) rfl (nb01 (in_w 0 1 (in_c 0 rfl) rfl)) (hp7 _ _ ?_)
        show GG _ _ _ _ _ _ _ _ [.int (Int32.ofInt 0)] _ _ _
        refine g_if_eq 13 27 (gd rfl) rfl rfl (fun c10 => ?_) (fun c10 => ?_)
        · skip
          refine g_iconst 0 28 (gd rfl) rfl rfl ?_
          refine g_thr (E := am_IA) (y := yX11_allow) 31 (gd rfl) rfl rfl (Or.inl ⟨rfl, rfl, rfl⟩) (by omega) (Nat.le_of_ble_eq_true rfl) (Nat.le_of_ble_eq_true rfl) (Nat.le_of_ble_eq_true rfl) (fun c28 => ?_) (fun c28 => ?_)
          · skip
            exact zn_ne c28 (in_c 0 rfl) rfl
          · skip
            exact (hX _ _ ⟨rfl, s, hI, fr_rf, rfl⟩)
        · skip
          exact zn_ne c10 (in_c 0 rfl) rfl
      · skip
        have i7x9 := r_lt1 0 31 c7x9 i7x1 ro_2_1 rfl
        have i7x9a := r_lt2 1 32 c7x9 i7x1 ro_2_1 rfl
        refine g_iconst 1 13 (gd rfl) rfl rfl ?_
        refine g_goto 17 (gd rfl) rfl ?_
        refine g_ireturn (gd rfl) rfl (nb01 (in_w 0 1 (in_c 1 rfl) rfl)) (hp7 _ _ ?_)
        show GG _ _ _ _ _ _ _ _ [.int (Int32.ofInt 1)] _ _ _
        refine g_if_eq 13 27 (gd rfl) rfl rfl (fun c10 => ?_) (fun c10 => ?_)
        · skip
          exact zn_eq c10 (in_c 1 rfl) rfl
        · skip
          refine g_iload_n 14 (gd rfl) rfl rfl ?_
          refine g_if_lt 17 27 (gd rfl) rfl rfl (fun c14 => ?_) (fun c14 => ?_)
          · skip
            have i14 := z_lt (-2147483648) (-1) c14 (i_rng x2) rfl
            refine g_iconst 0 28 (gd rfl) rfl rfl ?_
            refine g_thr (E := am_IA) (y := yX11_allow) 31 (gd rfl) rfl rfl (Or.inl ⟨rfl, rfl, rfl⟩) (by omega) (Nat.le_of_ble_eq_true rfl) (Nat.le_of_ble_eq_true rfl) (Nat.le_of_ble_eq_true rfl) (fun c28 => ?_) (fun c28 => ?_)
            · skip
              exact zn_ne c28 (in_c 0 rfl) rfl
            · skip
              exact (hX _ _ ⟨rfl, s, hI, fr_rf, rfl⟩)
          · skip
            have i14 := z_ge 0 2147483647 c14 (i_rng x2) rfl
            refine g_iload_n 18 (gd rfl) rfl rfl ?_
            refine g_bipush 40 20 (gd rfl) rfl rfl ?_
            refine g_cmp_gt 23 27 (gd rfl) rfl rfl (fun c20 => ?_) (fun c20 => ?_)
            · skip
              have i20 := r_lt2 41 2147483647 c20 (in_c 40 rfl) i14 rfl
              refine g_iconst 0 28 (gd rfl) rfl rfl ?_
              refine g_thr (E := am_IA) (y := yX11_allow) 31 (gd rfl) rfl rfl (Or.inl ⟨rfl, rfl, rfl⟩) (by omega) (Nat.le_of_ble_eq_true rfl) (Nat.le_of_ble_eq_true rfl) (Nat.le_of_ble_eq_true rfl) (fun c28 => ?_) (fun c28 => ?_)
              · skip
                exact zn_ne c28 (in_c 0 rfl) rfl
              · skip
                exact (hX _ _ ⟨rfl, s, hI, fr_rf, rfl⟩)
            · skip
              have i20 := r_le1 0 40 c20 i14 (in_c 40 rfl) rfl
              refine g_iconst 1 24 (gd rfl) rfl rfl ?_
              refine g_goto 28 (gd rfl) rfl ?_
              refine g_thr (E := am_IA) (y := yX11_allow) 31 (gd rfl) rfl rfl (Or.inl ⟨rfl, rfl, rfl⟩) (by omega) (Nat.le_of_ble_eq_true rfl) (Nat.le_of_ble_eq_true rfl) (Nat.le_of_ble_eq_true rfl) (fun c28 => ?_) (fun c28 => ?_)
              · skip
                refine g_aload_n 32 (gd rfl) rfl rfl ?_
                refine g_getA (q2 := 86) 35 (gd rfl) rfl rfl rfl rfl ?_
                refine g_aload_n 36 (gd rfl) rfl rfl ?_
                refine g_iload_n 37 (gd rfl) rfl rfl ?_
                refine g_iload_n 38 (gd rfl) rfl rfl ?_
                refine g_callv (X := _) (As := [.ref (A 2), .int x1, .int x2]) (r := []) (b := A 86) (q := 86) 41 (gd rfl) rfl rfl rfl rfl rfl (ww_o rfl) (Nat.le_of_ble_eq_true rfl) (Nat.zero_le _) (Nat.zero_le _) (k_109_86_2 (by omega) hI (in_w 0 31 i7x9 rfl) (in_w 0 40 i20 rfl)) (fun e u h => h) (fun v u h => ?_)
                obtain ⟨xa38, ya38, s38, hI38, hF38, z38, rfl, rfl⟩ := h
                show GG _ _ _ _ _ _ _ _ [.long z38] _ _ _
                exact g_lreturn (gd rfl) rfl (hP _ _ ⟨xa38, ya38, s38, hI38, (fr_tr rfl fr_rf hF38), z38, rfl, rfl⟩)
              · skip
                exact zn_eq c28 (in_c 1 rfl) rfl

def fm_62_102_46 : FM := ([104], [], [(46, 2), (46, 3), (46, 4), (46, 5), (46, 6), (46, 7), (102, 4)], [])
/-- GraphHouse$Engine.readAtom -/
theorem k_62_102_46 {Z : AmZ} {A : Nat → Nat} {s : GS} {ex : va_W} {d : Nat} {X : AmX} {u_46_2 : Int32} {u_46_1 : Int32} {u_46_4 : Int32} {u_46_3 : Int32} {u_46_5 : Int32} {u_102_4 : Int32} (hd : 8 ≤ d) (hI : Inv s) (e_46_2 : u_46_2 = s.2.2.1 46 2) (e_46_1 : u_46_1 = s.2.2.1 46 1) (e_46_4 : u_46_4 = s.2.2.1 46 4) (e_46_3 : u_46_3 = s.2.2.1 46 3) (e_46_5 : u_46_5 = s.2.2.1 46 5) (e_102_4 : u_102_4 = s.2.2.1 102 4) (r_46_1 : In u_46_1 0 120) (p_0 : (u_46_2).toInt ≤ (u_46_1).toInt) (p_1 : (u_46_4).toInt ≤ (u_46_2).toInt) (p_2 : (u_102_4).toInt ≤ (u_46_4).toInt) (p_3 : 1 ≤ (u_46_3).toInt) (p_4 : (u_46_3).toInt ≤ 2) (q_0 : TK s) : GC Z d 62 [.ref (A 102), .ref (A 46)] (WW Z A s ++ ex) 0 0 (fun v u => ∃ t : GS, Inv t ∧ Fr fm_62_102_46 s t ∧ ((t.2.2.1 46 2).toInt ≤ (t.2.2.1 46 1).toInt) ∧ ((t.2.2.1 46 4).toInt ≤ (t.2.2.1 46 2).toInt) ∧ ((t.2.2.1 102 4).toInt ≤ (t.2.2.1 46 4).toInt) ∧ ((s.2.2.1 46 4).toInt - (s.2.2.1 102 4).toInt ≤ (t.2.2.1 46 4).toInt - (t.2.2.1 102 4).toInt) ∧ ∃ z : Int32, v = some (.int z) ∧ u = WW Z A t ++ ex ∧ In z 0 1 ∧ (TK t) ∧ ((z).toInt ≠ 0 → PCV s t 1)) X := by
  intro post xp hP hX
  refine g_enter2 (k := 62) (N := 900) (by omega) rfl (Nat.le_of_ble_eq_true rfl) ?_
  refine g_aload_n 1 (gd rfl) rfl rfl ?_
  refine g_getI 4 (gd rfl) rfl rfl rfl (fun z1 e1 => ?_)
  have q1 : u_46_5 = z1 := (e_46_5).trans e1.symm
  subst q1
  refine g_istore_n 5 (gd rfl) rfl (Nat.le_of_ble_eq_true rfl) ?_
  have hk := tka_1 q_0 (show u_46_3 = s.2.2.1 46 3 from e_46_3) (show u_46_4 = s.2.2.1 46 4 from e_46_4) (show u_46_2 = s.2.2.1 46 2 from e_46_2) (by have a0 := (inv_F hI 0 120 rfl e_102_4); unfold In at a0; have a1 := (inv_F hI 0 5 rfl e_46_3); unfold In at a1; have a2 := (inv_F hI 0 1000 rfl e_46_4); unfold In at a2; have a3 := r_46_1; unfold In at a3; have a4 := (inv_F hI 0 1000 rfl e_46_2); unfold In at a4; omega)
  refine g_aload_n 6 (gd rfl) rfl rfl ?_
  refine g_getI 9 (gd rfl) rfl rfl rfl (fun z6 e6 => ?_)
  have q6 : u_46_3 = z6 := (e_46_3).trans e6.symm
  subst q6
  refine g_iconst 1 10 (gd rfl) rfl rfl ?_
  refine g_cmp_ne 13 46 (gd rfl) rfl rfl (fun c10 => ?_) (fun c10 => ?_)
  · skip
    refine g_aload_n 47 (gd rfl) rfl rfl ?_
    refine g_iload_n 48 (gd rfl) rfl rfl ?_
    have hDe : _ = s.2.2.1 102 4 := (show u_102_4 = s.2.2.1 102 4 from e_102_4)
    have n48 : (u_102_4).toInt ≤ 119 := by have a0 := (inv_F hI 0 120 rfl e_102_4); unfold In at a0; have a1 := (inv_F hI 0 5 rfl e_46_3); unfold In at a1; have a2 := (inv_F hI 0 1000 rfl e_46_4); unfold In at a2; have a3 := r_46_1; unfold In at a3; have a4 := (inv_F hI 0 1000 rfl e_46_2); unfold In at a4; omega
    refine g_callv (X := _) (As := [.int u_46_5]) (r := []) (b := A 102) (q := 102) 51 (gd rfl) rfl rfl rfl rfl rfl (ww_o rfl) (Nat.le_of_ble_eq_true rfl) (Nat.zero_le _) (Nat.zero_le _) (k_57_102 (by omega) hI e_102_4 n48) (fun e u h => h) (fun v u h => ?_)
    obtain ⟨s48, hI48, hF48, n48a, z48, rfl, rfl, i48, p48⟩ := h
    obtain ⟨z48a, e48⟩ : ∃ w, w = s48.2.2.1 102 4 := ⟨_, rfl⟩
    have i48a := inv_F hI48 0 120 rfl e48
    rw [← (show u_102_4 = s.2.2.1 102 4 from e_102_4)] at n48a
    rw [← (show z48a = s48.2.2.1 102 4 from e48)] at n48a
    show GG _ _ _ _ _ _ _ _ [.int z48] _ _ _
    refine g_pop 52 (gd rfl) rfl rfl ?_
    refine g_aload_n 53 (gd rfl) rfl rfl ?_
    refine g_bipush 6 55 (gd rfl) rfl rfl ?_
    refine g_iconst 0 56 (gd rfl) rfl rfl ?_
    have v56 : u_46_2 = s48.2.2.1 46 2 := fr_F (e_46_2) hF48 rfl
    have v56a : u_46_1 = s48.2.2.1 46 1 := fr_F (e_46_1) hF48 rfl
    have n56 : (u_46_2).toInt ≤ (u_46_1).toInt := by have a0 := (inv_F hI 0 120 rfl e_102_4); unfold In at a0; have a1 := (inv_F hI 0 5 rfl e_46_3); unfold In at a1; have a2 := (inv_F hI 0 1000 rfl e_46_4); unfold In at a2; have a3 := r_46_1; unfold In at a3; have a4 := (inv_F hI 0 1000 rfl e_46_2); unfold In at a4; have a5 := i48a; unfold In at a5; omega
    refine g_callv (X := _) (As := [.int (Int32.ofInt 6), .int (Int32.ofInt 0)]) (r := []) (b := A 46) (q := 46) 59 (gd rfl) rfl rfl rfl rfl rfl (ww_o rfl) (Nat.le_of_ble_eq_true rfl) (Nat.zero_le _) (Nat.zero_le _) (k_171_46 (by omega) hI48 (in_w 6 7 (in_c 6 rfl) rfl) (in_w 0 1 (in_c 0 rfl) rfl) v56 v56a n56) (fun e u h => h) (fun v u h => ?_)
    obtain ⟨s56, hI56, hF56, n56a, n56b, n56c, rfl, rfl, p56, p56a⟩ := h
    obtain ⟨z56a, e56⟩ : ∃ w, w = s56.2.2.1 46 2 := ⟨_, rfl⟩
    have i56a := inv_F hI56 0 1000 rfl e56
    obtain ⟨z56b, e56a⟩ : ∃ w, w = s56.2.2.1 46 4 := ⟨_, rfl⟩
    have i56b := inv_F hI56 0 1000 rfl e56a
    rw [← (show z56a = s56.2.2.1 46 2 from e56)] at n56a
    rw [← (show u_46_1 = s56.2.2.1 46 1 from fr_F (fr_F (e_46_1) hF48 rfl) hF56 rfl)] at n56a
    rw [← (show z56a = s56.2.2.1 46 2 from e56)] at n56b
    rw [← (show z56b = s56.2.2.1 46 4 from e56a)] at n56b
    rw [← (show u_46_2 = s48.2.2.1 46 2 from fr_F (e_46_2) hF48 rfl)] at n56c
    rw [← (show z56b = s56.2.2.1 46 4 from e56a)] at n56c
    show GG _ _ _ _ _ _ _ _ [] _ _ _
    refine g_iconst 1 60 (gd rfl) rfl rfl ?_
    have n60 : TK s56 := by exact p56 (by decide)
    have n60a : ((Int32.ofInt 1)).toInt ≠ 0 → PCV s s56 1 := by intro _; exact pv_tr (j := 1) (k := 0) (pv_st (j := 0) (k := 1) pv_rf (inv_F hI 0 120 rfl rfl).1 p48 (by rw [← e48, ← hDe]; have a0 := (inv_F hI 0 120 rfl e_102_4); unfold In at a0; have a1 := (inv_F hI 0 5 rfl e_46_3); unfold In at a1; have a2 := (inv_F hI 0 1000 rfl e_46_4); unfold In at a2; have a3 := r_46_1; unfold In at a3; have a4 := (inv_F hI 0 1000 rfl e_46_2); unfold In at a4; have a5 := i56b; unfold In at a5; have a6 := i56a; unfold In at a6; have a7 := i48a; unfold In at a7; omega) (fun e => hc_a (by first | (have a0 := (inv_F hI 0 120 rfl e_102_4); unfold In at a0; have a1 := (inv_F hI 0 5 rfl e_46_3); unfold In at a1; have a2 := (inv_F hI 0 1000 rfl e_46_4); unfold In at a2; have a3 := r_46_1; unfold In at a3; have a4 := (inv_F hI 0 1000 rfl e_46_2); unfold In at a4; have a5 := i56b; unfold In at a5; have a6 := i56a; unfold In at a6; have a7 := i48a; unfold In at a7; omega) | (have c1 : (Int32.ofInt 1).toInt = 1 := (by decide); have hv := tkv_1 q_0 e_46_3 e_46_5 (by have a0 := (inv_F hI 0 120 rfl e_102_4); unfold In at a0; have a1 := (inv_F hI 0 5 rfl e_46_3); unfold In at a1; have a2 := (inv_F hI 0 1000 rfl e_46_4); unfold In at a2; have a3 := r_46_1; unfold In at a3; have a4 := (inv_F hI 0 1000 rfl e_46_2); unfold In at a4; have a5 := i56b; unfold In at a5; have a6 := i56a; unfold In at a6; have a7 := i48a; unfold In at a7; omega); have a0 := (inv_F hI 0 120 rfl e_102_4); unfold In at a0; have a1 := (inv_F hI 0 5 rfl e_46_3); unfold In at a1; have a2 := (inv_F hI 0 1000 rfl e_46_4); unfold In at a2; have a3 := r_46_1; unfold In at a3; have a4 := (inv_F hI 0 1000 rfl e_46_2); unfold In at a4; have a5 := i56b; unfold In at a5; have a6 := i56a; unfold In at a6; have a7 := i48a; unfold In at a7; omega)) e)) (pv_sm (hF56.1 104 rfl) (hF56.2.2.1 102 4 rfl))
    have n60b : (z56a).toInt ≤ (u_46_1).toInt := by have a0 := (inv_F hI 0 120 rfl e_102_4); unfold In at a0; have a1 := (inv_F hI 0 5 rfl e_46_3); unfold In at a1; have a2 := (inv_F hI 0 1000 rfl e_46_4); unfold In at a2; have a3 := r_46_1; unfold In at a3; have a4 := (inv_F hI 0 1000 rfl e_46_2); unfold In at a4; have a5 := i56b; unfold In at a5; have a6 := i56a; unfold In at a6; have a7 := i48a; unfold In at a7; omega
    have n60c : (s56.2.2.1 46 2).toInt ≤ (s56.2.2.1 46 1).toInt := by have b0 : z56a = s56.2.2.1 46 2 := e56; have b1 : u_46_1 = s56.2.2.1 46 1 := fr_F (fr_F (e_46_1) hF48 rfl) hF56 rfl; rw [← b0, ← b1]; exact n60b
    have n60d : (z56b).toInt ≤ (z56a).toInt := by have a0 := (inv_F hI 0 120 rfl e_102_4); unfold In at a0; have a1 := (inv_F hI 0 5 rfl e_46_3); unfold In at a1; have a2 := (inv_F hI 0 1000 rfl e_46_4); unfold In at a2; have a3 := r_46_1; unfold In at a3; have a4 := (inv_F hI 0 1000 rfl e_46_2); unfold In at a4; have a5 := i56b; unfold In at a5; have a6 := i56a; unfold In at a6; have a7 := i48a; unfold In at a7; omega
    have n60e : (s56.2.2.1 46 4).toInt ≤ (s56.2.2.1 46 2).toInt := by have b0 : z56b = s56.2.2.1 46 4 := e56a; have b1 : z56a = s56.2.2.1 46 2 := e56; rw [← b0, ← b1]; exact n60d
    have n60f : (z48a).toInt ≤ (z56b).toInt := by have a0 := (inv_F hI 0 120 rfl e_102_4); unfold In at a0; have a1 := (inv_F hI 0 5 rfl e_46_3); unfold In at a1; have a2 := (inv_F hI 0 1000 rfl e_46_4); unfold In at a2; have a3 := r_46_1; unfold In at a3; have a4 := (inv_F hI 0 1000 rfl e_46_2); unfold In at a4; have a5 := i56b; unfold In at a5; have a6 := i56a; unfold In at a6; have a7 := i48a; unfold In at a7; omega
    have n60g : (s56.2.2.1 102 4).toInt ≤ (s56.2.2.1 46 4).toInt := by have b0 : z48a = s56.2.2.1 102 4 := fr_F (e48) hF56 rfl; have b1 : z56b = s56.2.2.1 46 4 := e56a; rw [← b0, ← b1]; exact n60f
    have n60h : (u_46_4).toInt - (u_102_4).toInt ≤ (z56b).toInt - (z48a).toInt := by have a0 := (inv_F hI 0 120 rfl e_102_4); unfold In at a0; have a1 := (inv_F hI 0 5 rfl e_46_3); unfold In at a1; have a2 := (inv_F hI 0 1000 rfl e_46_4); unfold In at a2; have a3 := r_46_1; unfold In at a3; have a4 := (inv_F hI 0 1000 rfl e_46_2); unfold In at a4; have a5 := i56b; unfold In at a5; have a6 := i56a; unfold In at a6; have a7 := i48a; unfold In at a7; omega
    have n60i : (s.2.2.1 46 4).toInt - (s.2.2.1 102 4).toInt ≤ (s56.2.2.1 46 4).toInt - (s56.2.2.1 102 4).toInt := by have b0 : z56b = s56.2.2.1 46 4 := e56a; have b1 : z48a = s56.2.2.1 102 4 := fr_F (e48) hF56 rfl; first | (rw [← b0, ← b1, ← e_46_4, ← e_102_4]; exact n60h) | (rw [← b0, ← b1]; exact n60h)
    exact g_ireturn (gd rfl) rfl (nb01 (in_w 0 1 (in_c 1 rfl) rfl)) (hP _ _ ⟨s56, hI56, (fr_tr rfl (fr_tr rfl fr_rf hF48) hF56), n60c, n60e, n60g, n60i, (Int32.ofInt 1), rfl, rfl, in_w 0 1 (in_c 1 rfl) rfl, n60, n60a⟩)
  · skip
    have i10 := r_eq1 1 1 c10 (inv_F hI 0 5 rfl e_46_3) (in_c 1 rfl) rfl
    refine g_ldcs 6 15 (gd rfl) rfl rfl ?_
    refine g_bipush 97 17 (gd rfl) rfl rfl ?_
    refine g_aload_n 18 (gd rfl) rfl rfl ?_
    refine g_getI 21 (gd rfl) rfl rfl rfl (fun z18 e18 => ?_)
    have q18 : u_46_5 = z18 := (e_46_5).trans e18.symm
    subst q18
    refine g_iadd 22 (gd rfl) rfl (fun z21 e21 => ?_)
    refine g_i2c 23 (gd rfl) rfl (fun z22 e22 => ?_)
    have i22 := in_i2c e22
    have i23 : In (Int32.ofInt 6) 0 6 := in_w 0 6 (in_c 6 rfl) rfl
    refine g_callS (X := _) (As := [.int z22]) (r := []) (x := (Int32.ofInt 6)) 26 (gd rfl) rfl rfl rfl zm_430 rfl rfl rfl i23 (Nat.le_of_ble_eq_true rfl) (k_430 i23 (by omega)) (fun e u h => h) (fun v u h => ?_)
    obtain ⟨z23, rfl, rfl, p23⟩ := h
    have i23a : In z23 (-1) 8 := by have a := zn_9 i23; unfold In at p23; exact ⟨by omega, by omega⟩
    show GG _ _ _ _ _ _ _ _ [.int z23] _ _ _
    refine g_istore_n 27 (gd rfl) rfl (Nat.le_of_ble_eq_true rfl) ?_
    refine g_iload_n 28 (gd rfl) rfl rfl ?_
    refine g_if_ge 31 41 (gd rfl) rfl rfl (fun c28 => ?_) (fun c28 => ?_)
    · skip
      have i28 := z_ge 0 8 c28 i23a rfl
      refine g_ldc 1000000 43 (gd rfl) rfl rfl ?_
      refine g_iload_n 44 (gd rfl) rfl rfl ?_
      refine g_iadd 45 (gd rfl) rfl (fun z44 e44 => ?_)
      have i44 := in_add 1000000 1000008 e44 (in_c 1000000 rfl) i28 rfl rfl
      refine g_istore_n 46 (gd rfl) rfl (Nat.le_of_ble_eq_true rfl) ?_
      refine g_aload_n 47 (gd rfl) rfl rfl ?_
      refine g_iload_n 48 (gd rfl) rfl rfl ?_
      have hDe : _ = s.2.2.1 102 4 := (show u_102_4 = s.2.2.1 102 4 from e_102_4)
      have n48 : (u_102_4).toInt ≤ 119 := by have a0 := (inv_F hI 0 120 rfl e_102_4); unfold In at a0; have a1 := i10; unfold In at a1; have a2 := (inv_F hI 0 1000 rfl e_46_4); unfold In at a2; have a3 := r_46_1; unfold In at a3; have a4 := (inv_F hI 0 1000 rfl e_46_2); unfold In at a4; have a5 := i28; unfold In at a5; have a6 := i44; unfold In at a6; have a7 := t_add e44 (in_c 1000000 rfl) i28 rfl; have a8 := (in_c 1000000 rfl); unfold In at a8; omega
      refine g_callv (X := _) (As := [.int z44]) (r := []) (b := A 102) (q := 102) 51 (gd rfl) rfl rfl rfl rfl rfl (ww_o rfl) (Nat.le_of_ble_eq_true rfl) (Nat.zero_le _) (Nat.zero_le _) (k_57_102 (by omega) hI e_102_4 n48) (fun e u h => h) (fun v u h => ?_)
      obtain ⟨s48, hI48, hF48, n48a, z48, rfl, rfl, i48, p48⟩ := h
      obtain ⟨z48a, e48⟩ : ∃ w, w = s48.2.2.1 102 4 := ⟨_, rfl⟩
      have i48a := inv_F hI48 0 120 rfl e48
      rw [← (show u_102_4 = s.2.2.1 102 4 from e_102_4)] at n48a
      rw [← (show z48a = s48.2.2.1 102 4 from e48)] at n48a
      show GG _ _ _ _ _ _ _ _ [.int z48] _ _ _
      refine g_pop 52 (gd rfl) rfl rfl ?_
      refine g_aload_n 53 (gd rfl) rfl rfl ?_
      refine g_bipush 6 55 (gd rfl) rfl rfl ?_
      refine g_iconst 0 56 (gd rfl) rfl rfl ?_
      have v56 : u_46_2 = s48.2.2.1 46 2 := fr_F (e_46_2) hF48 rfl
      have v56a : u_46_1 = s48.2.2.1 46 1 := fr_F (e_46_1) hF48 rfl
      have n56 : (u_46_2).toInt ≤ (u_46_1).toInt := by have a0 := (inv_F hI 0 120 rfl e_102_4); unfold In at a0; have a1 := i10; unfold In at a1; have a2 := (inv_F hI 0 1000 rfl e_46_4); unfold In at a2; have a3 := r_46_1; unfold In at a3; have a4 := (inv_F hI 0 1000 rfl e_46_2); unfold In at a4; have a5 := i28; unfold In at a5; have a6 := i44; unfold In at a6; have a7 := t_add e44 (in_c 1000000 rfl) i28 rfl; have a8 := (in_c 1000000 rfl); unfold In at a8; have a9 := i48a; unfold In at a9; omega
      refine g_callv (X := _) (As := [.int (Int32.ofInt 6), .int (Int32.ofInt 0)]) (r := []) (b := A 46) (q := 46) 59 (gd rfl) rfl rfl rfl rfl rfl (ww_o rfl) (Nat.le_of_ble_eq_true rfl) (Nat.zero_le _) (Nat.zero_le _) (k_171_46 (by omega) hI48 (in_w 6 7 (in_c 6 rfl) rfl) (in_w 0 1 (in_c 0 rfl) rfl) v56 v56a n56) (fun e u h => h) (fun v u h => ?_)
      obtain ⟨s56, hI56, hF56, n56a, n56b, n56c, rfl, rfl, p56, p56a⟩ := h
      obtain ⟨z56a, e56⟩ : ∃ w, w = s56.2.2.1 46 2 := ⟨_, rfl⟩
      have i56a := inv_F hI56 0 1000 rfl e56
      obtain ⟨z56b, e56a⟩ : ∃ w, w = s56.2.2.1 46 4 := ⟨_, rfl⟩
      have i56b := inv_F hI56 0 1000 rfl e56a
      rw [← (show z56a = s56.2.2.1 46 2 from e56)] at n56a
      rw [← (show u_46_1 = s56.2.2.1 46 1 from fr_F (fr_F (e_46_1) hF48 rfl) hF56 rfl)] at n56a
      rw [← (show z56a = s56.2.2.1 46 2 from e56)] at n56b
      rw [← (show z56b = s56.2.2.1 46 4 from e56a)] at n56b
      rw [← (show u_46_2 = s48.2.2.1 46 2 from fr_F (e_46_2) hF48 rfl)] at n56c
      rw [← (show z56b = s56.2.2.1 46 4 from e56a)] at n56c
      show GG _ _ _ _ _ _ _ _ [] _ _ _
      refine g_iconst 1 60 (gd rfl) rfl rfl ?_
      have n60 : TK s56 := by exact p56 (by decide)
      have n60a : ((Int32.ofInt 1)).toInt ≠ 0 → PCV s s56 1 := by intro _; exact pv_tr (j := 1) (k := 0) (pv_st (j := 0) (k := 1) pv_rf (inv_F hI 0 120 rfl rfl).1 p48 (by rw [← e48, ← hDe]; have a0 := (inv_F hI 0 120 rfl e_102_4); unfold In at a0; have a1 := i10; unfold In at a1; have a2 := (inv_F hI 0 1000 rfl e_46_4); unfold In at a2; have a3 := r_46_1; unfold In at a3; have a4 := (inv_F hI 0 1000 rfl e_46_2); unfold In at a4; have a5 := i28; unfold In at a5; have a6 := i44; unfold In at a6; have a7 := t_add e44 (in_c 1000000 rfl) i28 rfl; have a8 := (in_c 1000000 rfl); unfold In at a8; have a9 := i56b; unfold In at a9; have a10 := i56a; unfold In at a10; have a11 := i48a; unfold In at a11; omega) (fun e => hc_a (by first | (have a0 := (inv_F hI 0 120 rfl e_102_4); unfold In at a0; have a1 := i10; unfold In at a1; have a2 := (inv_F hI 0 1000 rfl e_46_4); unfold In at a2; have a3 := r_46_1; unfold In at a3; have a4 := (inv_F hI 0 1000 rfl e_46_2); unfold In at a4; have a5 := i28; unfold In at a5; have a6 := i44; unfold In at a6; have a7 := t_add e44 (in_c 1000000 rfl) i28 rfl; have a8 := (in_c 1000000 rfl); unfold In at a8; have a9 := i56b; unfold In at a9; have a10 := i56a; unfold In at a10; have a11 := i48a; unfold In at a11; omega) | (have c1 : (Int32.ofInt 1).toInt = 1 := (by decide); have hv := tkv_1 q_0 e_46_3 e_46_5 (by have a0 := (inv_F hI 0 120 rfl e_102_4); unfold In at a0; have a1 := i10; unfold In at a1; have a2 := (inv_F hI 0 1000 rfl e_46_4); unfold In at a2; have a3 := r_46_1; unfold In at a3; have a4 := (inv_F hI 0 1000 rfl e_46_2); unfold In at a4; have a5 := i28; unfold In at a5; have a6 := i44; unfold In at a6; have a7 := t_add e44 (in_c 1000000 rfl) i28 rfl; have a8 := (in_c 1000000 rfl); unfold In at a8; have a9 := i56b; unfold In at a9; have a10 := i56a; unfold In at a10; have a11 := i48a; unfold In at a11; omega); have a0 := (inv_F hI 0 120 rfl e_102_4); unfold In at a0; have a1 := i10; unfold In at a1; have a2 := (inv_F hI 0 1000 rfl e_46_4); unfold In at a2; have a3 := r_46_1; unfold In at a3; have a4 := (inv_F hI 0 1000 rfl e_46_2); unfold In at a4; have a5 := i28; unfold In at a5; have a6 := i44; unfold In at a6; have a7 := t_add e44 (in_c 1000000 rfl) i28 rfl; have a8 := (in_c 1000000 rfl); unfold In at a8; have a9 := i56b; unfold In at a9; have a10 := i56a; unfold In at a10; have a11 := i48a; unfold In at a11; omega)) e)) (pv_sm (hF56.1 104 rfl) (hF56.2.2.1 102 4 rfl))
      have n60b : (z56a).toInt ≤ (u_46_1).toInt := by have a0 := (inv_F hI 0 120 rfl e_102_4); unfold In at a0; have a1 := i10; unfold In at a1; have a2 := (inv_F hI 0 1000 rfl e_46_4); unfold In at a2; have a3 := r_46_1; unfold In at a3; have a4 := (inv_F hI 0 1000 rfl e_46_2); unfold In at a4; have a5 := i28; unfold In at a5; have a6 := i44; unfold In at a6; have a7 := t_add e44 (in_c 1000000 rfl) i28 rfl; have a8 := (in_c 1000000 rfl); unfold In at a8; have a9 := i56b; unfold In at a9; have a10 := i56a; unfold In at a10; have a11 := i48a; unfold In at a11; omega
      have n60c : (s56.2.2.1 46 2).toInt ≤ (s56.2.2.1 46 1).toInt := by have b0 : z56a = s56.2.2.1 46 2 := e56; have b1 : u_46_1 = s56.2.2.1 46 1 := fr_F (fr_F (e_46_1) hF48 rfl) hF56 rfl; rw [← b0, ← b1]; exact n60b
      have n60d : (z56b).toInt ≤ (z56a).toInt := by have a0 := (inv_F hI 0 120 rfl e_102_4); unfold In at a0; have a1 := i10; unfold In at a1; have a2 := (inv_F hI 0 1000 rfl e_46_4); unfold In at a2; have a3 := r_46_1; unfold In at a3; have a4 := (inv_F hI 0 1000 rfl e_46_2); unfold In at a4; have a5 := i28; unfold In at a5; have a6 := i44; unfold In at a6; have a7 := t_add e44 (in_c 1000000 rfl) i28 rfl; have a8 := (in_c 1000000 rfl); unfold In at a8; have a9 := i56b; unfold In at a9; have a10 := i56a; unfold In at a10; have a11 := i48a; unfold In at a11; omega
      have n60e : (s56.2.2.1 46 4).toInt ≤ (s56.2.2.1 46 2).toInt := by have b0 : z56b = s56.2.2.1 46 4 := e56a; have b1 : z56a = s56.2.2.1 46 2 := e56; rw [← b0, ← b1]; exact n60d
      have n60f : (z48a).toInt ≤ (z56b).toInt := by have a0 := (inv_F hI 0 120 rfl e_102_4); unfold In at a0; have a1 := i10; unfold In at a1; have a2 := (inv_F hI 0 1000 rfl e_46_4); unfold In at a2; have a3 := r_46_1; unfold In at a3; have a4 := (inv_F hI 0 1000 rfl e_46_2); unfold In at a4; have a5 := i28; unfold In at a5; have a6 := i44; unfold In at a6; have a7 := t_add e44 (in_c 1000000 rfl) i28 rfl; have a8 := (in_c 1000000 rfl); unfold In at a8; have a9 := i56b; unfold In at a9; have a10 := i56a; unfold In at a10; have a11 := i48a; unfold In at a11; omega
      have n60g : (s56.2.2.1 102 4).toInt ≤ (s56.2.2.1 46 4).toInt := by have b0 : z48a = s56.2.2.1 102 4 := fr_F (e48) hF56 rfl; have b1 : z56b = s56.2.2.1 46 4 := e56a; rw [← b0, ← b1]; exact n60f
      have n60h : (u_46_4).toInt - (u_102_4).toInt ≤ (z56b).toInt - (z48a).toInt := by have a0 := (inv_F hI 0 120 rfl e_102_4); unfold In at a0; have a1 := i10; unfold In at a1; have a2 := (inv_F hI 0 1000 rfl e_46_4); unfold In at a2; have a3 := r_46_1; unfold In at a3; have a4 := (inv_F hI 0 1000 rfl e_46_2); unfold In at a4; have a5 := i28; unfold In at a5; have a6 := i44; unfold In at a6; have a7 := t_add e44 (in_c 1000000 rfl) i28 rfl; have a8 := (in_c 1000000 rfl); unfold In at a8; have a9 := i56b; unfold In at a9; have a10 := i56a; unfold In at a10; have a11 := i48a; unfold In at a11; omega
      have n60i : (s.2.2.1 46 4).toInt - (s.2.2.1 102 4).toInt ≤ (s56.2.2.1 46 4).toInt - (s56.2.2.1 102 4).toInt := by have b0 : z56b = s56.2.2.1 46 4 := e56a; have b1 : z48a = s56.2.2.1 102 4 := fr_F (e48) hF56 rfl; first | (rw [← b0, ← b1, ← e_46_4, ← e_102_4]; exact n60h) | (rw [← b0, ← b1]; exact n60h)
      exact g_ireturn (gd rfl) rfl (nb01 (in_w 0 1 (in_c 1 rfl) rfl)) (hP _ _ ⟨s56, hI56, (fr_tr rfl (fr_tr rfl fr_rf hF48) hF56), n60c, n60e, n60g, n60i, (Int32.ofInt 1), rfl, rfl, in_w 0 1 (in_c 1 rfl) rfl, n60, n60a⟩)
    · skip
      have i28 := z_lt (-1) (-1) c28 i23a rfl
      refine g_aload_n 32 (gd rfl) rfl rfl ?_
      refine g_iconst 5 33 (gd rfl) rfl rfl ?_
      refine g_aload_n 34 (gd rfl) rfl rfl ?_
      refine g_getI 37 (gd rfl) rfl rfl rfl (fun z34 e34 => ?_)
      have q34 : u_46_4 = z34 := (e_46_4).trans e34.symm
      subst q34
      refine g_callv (X := _) (As := [.int (Int32.ofInt 5), .int u_46_4]) (r := []) (b := A 46) (q := 46) 40 (gd rfl) rfl rfl rfl rfl rfl (ww_o rfl) (Nat.le_of_ble_eq_true rfl) (Nat.zero_le _) (Nat.zero_le _) (k_168_46 (by omega) hI (in_w 1 5 (in_c 5 rfl) rfl) (in_w 0 1000 (inv_F hI 0 1000 rfl e_46_4) rfl)) (fun e u h => h) (fun v u h => ?_)
      obtain ⟨s37, hI37, hF37, z37, rfl, rfl, i37⟩ := h
      show GG _ _ _ _ _ _ _ _ [.int z37] _ _ _
      have n40 : TK s37 := by exact tk_fr hF37 rfl q_0
      have n40a : (z37).toInt ≠ 0 → PCV s s37 1 := by intro h; unfold In at i37; omega
      have n40b : (u_46_2).toInt ≤ (u_46_1).toInt := by have a0 := (inv_F hI 0 120 rfl e_102_4); unfold In at a0; have a1 := i10; unfold In at a1; have a2 := (inv_F hI 0 1000 rfl e_46_4); unfold In at a2; have a3 := r_46_1; unfold In at a3; have a4 := (inv_F hI 0 1000 rfl e_46_2); unfold In at a4; have a5 := i28; unfold In at a5; omega
      have n40c : (s37.2.2.1 46 2).toInt ≤ (s37.2.2.1 46 1).toInt := by have b0 : u_46_2 = s37.2.2.1 46 2 := fr_F (e_46_2) hF37 rfl; have b1 : u_46_1 = s37.2.2.1 46 1 := fr_F (e_46_1) hF37 rfl; rw [← b0, ← b1]; exact n40b
      have n40d : (u_46_4).toInt ≤ (u_46_2).toInt := by have a0 := (inv_F hI 0 120 rfl e_102_4); unfold In at a0; have a1 := i10; unfold In at a1; have a2 := (inv_F hI 0 1000 rfl e_46_4); unfold In at a2; have a3 := r_46_1; unfold In at a3; have a4 := (inv_F hI 0 1000 rfl e_46_2); unfold In at a4; have a5 := i28; unfold In at a5; omega
      have n40e : (s37.2.2.1 46 4).toInt ≤ (s37.2.2.1 46 2).toInt := by have b0 : u_46_4 = s37.2.2.1 46 4 := fr_F (e_46_4) hF37 rfl; have b1 : u_46_2 = s37.2.2.1 46 2 := fr_F (e_46_2) hF37 rfl; rw [← b0, ← b1]; exact n40d
      have n40f : (u_102_4).toInt ≤ (u_46_4).toInt := by have a0 := (inv_F hI 0 120 rfl e_102_4); unfold In at a0; have a1 := i10; unfold In at a1; have a2 := (inv_F hI 0 1000 rfl e_46_4); unfold In at a2; have a3 := r_46_1; unfold In at a3; have a4 := (inv_F hI 0 1000 rfl e_46_2); unfold In at a4; have a5 := i28; unfold In at a5; omega
      have n40g : (s37.2.2.1 102 4).toInt ≤ (s37.2.2.1 46 4).toInt := by have b0 : u_102_4 = s37.2.2.1 102 4 := fr_F (e_102_4) hF37 rfl; have b1 : u_46_4 = s37.2.2.1 46 4 := fr_F (e_46_4) hF37 rfl; rw [← b0, ← b1]; exact n40f
      have n40h : (u_46_4).toInt - (u_102_4).toInt ≤ (u_46_4).toInt - (u_102_4).toInt := by have a0 := (inv_F hI 0 120 rfl e_102_4); unfold In at a0; have a1 := i10; unfold In at a1; have a2 := (inv_F hI 0 1000 rfl e_46_4); unfold In at a2; have a3 := r_46_1; unfold In at a3; have a4 := (inv_F hI 0 1000 rfl e_46_2); unfold In at a4; have a5 := i28; unfold In at a5; omega
      have n40i : (s.2.2.1 46 4).toInt - (s.2.2.1 102 4).toInt ≤ (s37.2.2.1 46 4).toInt - (s37.2.2.1 102 4).toInt := by have b0 : u_46_4 = s37.2.2.1 46 4 := fr_F (e_46_4) hF37 rfl; have b1 : u_102_4 = s37.2.2.1 102 4 := fr_F (e_102_4) hF37 rfl; first | (rw [← b0, ← b1, ← e_46_4, ← e_102_4]; exact n40h) | (rw [← b0, ← b1]; exact n40h)
      exact g_ireturn (gd rfl) rfl (nb01 (in_w 0 1 i37 rfl)) (hP _ _ ⟨s37, hI37, (fr_tr rfl fr_rf hF37), n40c, n40e, n40g, n40i, z37, rfl, rfl, in_w 0 1 i37 rfl, n40, n40a⟩)
