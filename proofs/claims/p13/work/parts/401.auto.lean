/-! methods, by vc.py -/
def fm_131_1_32 : FM := ([33, 34, 35, 36, 37, 38], [], [(32, 0), (32, 1), (32, 2), (32, 3)], [])
/-- GraphHouse$Ledger.apply -/
theorem k_131_1_32 {Z : AmZ} {A : Nat → Nat} {s : GS} {ex : va_W} {d : Nat} {X : AmX} {u_32_0 : Int32} {u_32_1 : Int32} {u_30_0 : Int32} (hd : 4 ≤ d) (hI : Inv s) (e_32_0 : u_32_0 = s.2.2.1 32 0) (e_32_1 : u_32_1 = s.2.2.1 32 1) (e_30_0 : u_30_0 = s.2.2.1 30 0) (r_32_0 : In u_32_0 0 3999) (p_0 : 7 * (u_32_0).toInt + 7 ≤ (u_30_0).toInt) (q_0 : RW7 (s.1 30) (s.2.2.1 32 0).toInt.toNat) (q_1 : KV s 32) : GC Z d 131 [.ref (A 1), .ref (A 32)] (WW Z A s ++ ex) 0 0 (fun v u => ∃ t : GS, Inv t ∧ Fr fm_131_1_32 s t ∧ ((t.2.2.1 32 0).toInt = (s.2.2.1 32 0).toInt + 1) ∧ v = none ∧ u = WW Z A t ++ ex ∧ (KV t 32)) X := by
  intro post xp hP hX
  have ro_30_0 := inv_F hI 448 28000 rfl e_30_0
  refine g_enter2 (k := 131) (N := 900) (by omega) rfl (Nat.le_of_ble_eq_true rfl) ?_
  refine g_aload_n 1 (gd rfl) rfl rfl ?_
  refine g_getI 4 (gd rfl) rfl rfl rfl (fun z1 e1 => ?_)
  have q1 : u_32_0 = z1 := (e_32_0).trans e1.symm
  subst q1
  refine g_bipush 7 6 (gd rfl) rfl rfl ?_
  refine g_imul 7 (gd rfl) rfl (fun z6 e6 => ?_)
  have i6 := in_mulc 7 0 27993 (Or.inr e6) r_32_0 rfl rfl
  refine g_istore_n 8 (gd rfl) rfl (Nat.le_of_ble_eq_true rfl) ?_
  have hk : z6.toInt = 7 * (((s.2.2.1 32 0).toInt.toNat : Nat) : Int) := (by rw [← e_32_0]; have a0 := (rng_F hI.1 448 28000 rfl e_30_0); unfold In at a0; have a1 := (rng_F hI.1 0 32 rfl e_32_1); unfold In at a1; have a2 := r_32_0; unfold In at a2; have a3 := i6; unfold In at a3; have a4 := (t_mulc 7 (Or.inr e6) r_32_0 rfl).1; omega)
  refine g_aload_n 9 (gd rfl) rfl rfl ?_
  refine g_getA (q2 := 30) 12 (gd rfl) rfl rfl rfl rfl ?_
  refine g_iload_n 13 (gd rfl) rfl rfl ?_
  refine g_iconst 1 14 (gd rfl) rfl rfl ?_
  refine g_iadd 15 (gd rfl) rfl (fun z14 e14 => ?_)
  have i14 := in_add 1 27994 e14 i6 (in_c 1 rfl) rfl rfl
  have hx15 : vp_in z14 (s.2.2.1 30 0).toNatClampNeg := lg_in (by have a0 := (rng_F hI.1 448 28000 rfl e_30_0); unfold In at a0; have a1 := (rng_F hI.1 0 32 rfl e_32_1); unfold In at a1; have a2 := r_32_0; unfold In at a2; have a3 := i6; unfold In at a3; have a4 := (t_mulc 7 (Or.inr e6) r_32_0 rfl).1; have a5 := i14; unfold In at a5; have a6 := t_add e14 i6 (in_c 1 rfl) rfl; have a7 := (in_c 1 rfl); unfold In at a7; omega) (by rw [← (show u_30_0 = s.2.2.1 30 0 from e_30_0)]; have a0 := (rng_F hI.1 448 28000 rfl e_30_0); unfold In at a0; have a1 := (rng_F hI.1 0 32 rfl e_32_1); unfold In at a1; have a2 := r_32_0; unfold In at a2; have a3 := i6; unfold In at a3; have a4 := (t_mulc 7 (Or.inr e6) r_32_0 rfl).1; have a5 := i14; unfold In at a5; have a6 := t_add e14 i6 (in_c 1 rfl) rfl; have a7 := (in_c 1 rfl); unfold In at a7; omega)
  refine g_lgload 16 (gd rfl) rfl hx15 (fun z15 e15 => ?_)
  refine g_istore_n 17 (gd rfl) rfl (Nat.le_of_ble_eq_true rfl) ?_
  have hp : z15 = s.1 30 (7 * (s.2.2.1 32 0).toInt.toNat + 1) := rw7_v (c := 1) (by have a0 := (rng_F hI.1 448 28000 rfl e_30_0); unfold In at a0; have a1 := (rng_F hI.1 0 32 rfl e_32_1); unfold In at a1; have a2 := r_32_0; unfold In at a2; have a3 := i6; unfold In at a3; have a4 := (t_mulc 7 (Or.inr e6) r_32_0 rfl).1; have a5 := i14; unfold In at a5; have a6 := t_add e14 i6 (in_c 1 rfl) rfl; have a7 := (in_c 1 rfl); unfold In at a7; omega) e15
  refine g_aload_n 18 (gd rfl) rfl rfl ?_
  refine g_dup 19 (gd rfl) rfl rfl ?_
  refine g_getI 22 (gd rfl) rfl rfl rfl (fun z19 e19 => ?_)
  have q19 : u_32_0 = z19 := (e_32_0).trans e19.symm
  subst q19
  refine g_iconst 1 23 (gd rfl) rfl rfl ?_
  refine g_iadd 24 (gd rfl) rfl (fun z23 e23 => ?_)
  have i23 := in_add 1 4000 e23 r_32_0 (in_c 1 rfl) rfl rfl
  refine g_putI 27 (gd rfl) rfl rfl rfl rfl ?_
  have hI24 := rng_sF (q := 32) (j := 0) hI.1 rfl (in_w 0 4000 i23 rfl)
  refine g_aload_n 28 (gd rfl) rfl rfl ?_
  refine g_getA (q2 := 30) 31 (gd rfl) rfl rfl rfl rfl ?_
  refine g_iload_n 32 (gd rfl) rfl rfl ?_
  have hx32 : vp_in z6 ((sF s 32 0 z23).2.2.1 30 0).toNatClampNeg := lg_in (by have a0 := (rng_F hI.1 448 28000 rfl e_30_0); unfold In at a0; have a1 := (rng_F hI.1 0 32 rfl e_32_1); unfold In at a1; have a2 := r_32_0; unfold In at a2; have a3 := i6; unfold In at a3; have a4 := (t_mulc 7 (Or.inr e6) r_32_0 rfl).1; have a5 := i23; unfold In at a5; have a6 := t_add e23 r_32_0 (in_c 1 rfl) rfl; have a7 := (in_c 1 rfl); unfold In at a7; have a8 := i14; unfold In at a8; have a9 := t_add e14 i6 (in_c 1 rfl) rfl; omega) (by rw [← (show u_30_0 = (sF s 32 0 z23).2.2.1 30 0 from sF_ne rfl (e_30_0))]; have a0 := (rng_F hI.1 448 28000 rfl e_30_0); unfold In at a0; have a1 := (rng_F hI.1 0 32 rfl e_32_1); unfold In at a1; have a2 := r_32_0; unfold In at a2; have a3 := i6; unfold In at a3; have a4 := (t_mulc 7 (Or.inr e6) r_32_0 rfl).1; have a5 := i23; unfold In at a5; have a6 := t_add e23 r_32_0 (in_c 1 rfl) rfl; have a7 := (in_c 1 rfl); unfold In at a7; have a8 := i14; unfold In at a8; have a9 := t_add e14 i6 (in_c 1 rfl) rfl; omega)
  refine g_lgload 33 (gd rfl) rfl hx32 (fun z32 e32 => ?_)
  refine g_tsw [64, 91, 101, 109] 134 (gd rfl) rfl rfl rfl ⟨fun c33 => ?_, fun c33 => ?_, fun c33 => ?_, fun c33 => ?_, trivial⟩ (fun c33 => ?_)
  · skip
    have i33 := sw_eq c33
    have h32 : z32 = s.1 30 (7 * (s.2.2.1 32 0).toInt.toNat) := rw7_v (c := 0) (by have a0 := (rng_F hI.1 448 28000 rfl e_30_0); unfold In at a0; have a1 := (rng_F hI.1 0 32 rfl e_32_1); unfold In at a1; have a2 := r_32_0; unfold In at a2; have a3 := i6; unfold In at a3; have a4 := (t_mulc 7 (Or.inr e6) r_32_0 rfl).1; have a5 := i23; unfold In at a5; have a6 := t_add e23 r_32_0 (in_c 1 rfl) rfl; have a7 := (in_c 1 rfl); unfold In at a7; have a8 := i14; unfold In at a8; have a9 := t_add e14 i6 (in_c 1 rfl) rfl; omega) e32
    have hr := rw7_0 q_0 hk e32 c33
    have i64 : In z15 0 31 := by rw [hp]; have h1 := hr.1; have h2 := hr.2.1; exact ⟨by omega, by omega⟩
    have i64a : In u_32_1 0 31 := by have h1 := q_1.1; have h2 := hr.2.1; rw [e_32_1]; exact ⟨by omega, by omega⟩
    refine g_aload_n 65 (gd rfl) rfl rfl ?_
    refine g_getA (q2 := 33) 68 (gd rfl) rfl rfl rfl rfl ?_
    refine g_iload_n 69 (gd rfl) rfl rfl ?_
    refine g_aload_n 70 (gd rfl) rfl rfl ?_
    refine g_getA (q2 := 30) 73 (gd rfl) rfl rfl rfl rfl ?_
    refine g_iload_n 74 (gd rfl) rfl rfl ?_
    refine g_iconst 2 75 (gd rfl) rfl rfl ?_
    refine g_iadd 76 (gd rfl) rfl (fun z75 e75 => ?_)
    have i75 := in_add 2 27995 e75 i6 (in_c 2 rfl) rfl rfl
    have hx76 : vp_in z75 ((sF s 32 0 z23).2.2.1 30 0).toNatClampNeg := lg_in (by have a0 := (rng_F hI.1 448 28000 rfl e_30_0); unfold In at a0; have a1 := i64a; unfold In at a1; have a2 := r_32_0; unfold In at a2; have a3 := i64; unfold In at a3; have a4 := i6; unfold In at a4; have a5 := (t_mulc 7 (Or.inr e6) r_32_0 rfl).1; have a6 := i23; unfold In at a6; have a7 := t_add e23 r_32_0 (in_c 1 rfl) rfl; have a8 := (in_c 1 rfl); unfold In at a8; have a9 := i75; unfold In at a9; have a10 := t_add e75 i6 (in_c 2 rfl) rfl; have a11 := (in_c 2 rfl); unfold In at a11; have a12 := i14; unfold In at a12; have a13 := t_add e14 i6 (in_c 1 rfl) rfl; omega) (by rw [← (show u_30_0 = (sF s 32 0 z23).2.2.1 30 0 from sF_ne rfl (e_30_0))]; have a0 := (rng_F hI.1 448 28000 rfl e_30_0); unfold In at a0; have a1 := i64a; unfold In at a1; have a2 := r_32_0; unfold In at a2; have a3 := i64; unfold In at a3; have a4 := i6; unfold In at a4; have a5 := (t_mulc 7 (Or.inr e6) r_32_0 rfl).1; have a6 := i23; unfold In at a6; have a7 := t_add e23 r_32_0 (in_c 1 rfl) rfl; have a8 := (in_c 1 rfl); unfold In at a8; have a9 := i75; unfold In at a9; have a10 := t_add e75 i6 (in_c 2 rfl) rfl; have a11 := (in_c 2 rfl); unfold In at a11; have a12 := i14; unfold In at a12; have a13 := t_add e14 i6 (in_c 1 rfl) rfl; omega)
    refine g_lgload 77 (gd rfl) rfl hx76 (fun z76 e76 => ?_)
    have i77 : In z76 0 25 := by rw [rw7_v (c := 2) (by have a0 := (rng_F hI.1 448 28000 rfl e_30_0); unfold In at a0; have a1 := i64a; unfold In at a1; have a2 := r_32_0; unfold In at a2; have a3 := i64; unfold In at a3; have a4 := i6; unfold In at a4; have a5 := (t_mulc 7 (Or.inr e6) r_32_0 rfl).1; have a6 := i23; unfold In at a6; have a7 := t_add e23 r_32_0 (in_c 1 rfl) rfl; have a8 := (in_c 1 rfl); unfold In at a8; have a9 := i75; unfold In at a9; have a10 := t_add e75 i6 (in_c 2 rfl) rfl; have a11 := (in_c 2 rfl); unfold In at a11; have a12 := i14; unfold In at a12; have a13 := t_add e14 i6 (in_c 1 rfl) rfl; omega) e76]; exact hr.2.2
    refine g_iastore 78 (gd rfl) rfl (n := 32) rfl (in_ix i64 rfl) ?_
    have hI77 := rng_sI (q := 33) (j := z15.toNatClampNeg) hI24 rfl (in_w 0 25 i77 rfl)
    refine g_aload_n 79 (gd rfl) rfl rfl ?_
    refine g_dup 80 (gd rfl) rfl rfl ?_
    refine g_getI 83 (gd rfl) rfl rfl rfl (fun z80 e80 => ?_)
    have q80 : u_32_1 = z80 := (sI_F (sF_ne rfl (e_32_1))).trans e80.symm
    subst q80
    refine g_iconst 1 84 (gd rfl) rfl rfl ?_
    refine g_iadd 85 (gd rfl) rfl (fun z84 e84 => ?_)
    have i84 := in_add 1 32 e84 i64a (in_c 1 rfl) rfl rfl
    refine g_putI 88 (gd rfl) rfl rfl rfl rfl ?_
    have hI85 := rng_sF (q := 32) (j := 1) hI77 rfl (in_w 0 32 i84 rfl)
    refine g_goto 148 (gd rfl) rfl ?_
    have hI148 : Inv (sF (sI (sF s 32 0 z23) 33 z15.toNatClampNeg z76) 32 1 z84) := by have hFF : Fr fm_131_1_32 s (sF (sI (sF s 32 0 z23) 33 z15.toNatClampNeg z76) 32 1 z84) := (fr_sF rfl (fr_sI rfl (fr_sF rfl fr_rf))); exact ⟨hI85, kk_ap32 hI.2 hFF rfl (by rw [hFF.2.2.1 32 4 rfl, ← (show z23 = (sF (sI (sF s 32 0 z23) 33 z15.toNatClampNeg z76) 32 1 z84).2.2.1 32 0 from sF_ne rfl (sI_F (sF_get)))]; have hg := hI.2.2.1.1; rw [mF_at rfl, mF_at rfl, ← e_32_0] at hg; have a0 := (rng_F hI.1 448 28000 rfl e_30_0); unfold In at a0; have a1 := i64a; unfold In at a1; have a2 := r_32_0; unfold In at a2; have a3 := i64; unfold In at a3; have a4 := i6; unfold In at a4; have a5 := (t_mulc 7 (Or.inr e6) r_32_0 rfl).1; have a6 := i84; unfold In at a6; have a7 := t_add e84 i64a (in_c 1 rfl) rfl; have a8 := (in_c 1 rfl); unfold In at a8; have a9 := i23; unfold In at a9; have a10 := t_add e23 r_32_0 (in_c 1 rfl) rfl; have a11 := i75; unfold In at a11; have a12 := t_add e75 i6 (in_c 2 rfl) rfl; have a13 := (in_c 2 rfl); unfold In at a13; have a14 := i14; unfold In at a14; have a15 := t_add e14 i6 (in_c 1 rfl) rfl; omega)⟩
    have n148 : KV (sF (sI (sF s 32 0 z23) 33 z15.toNatClampNeg z76) 32 1 z84) 32 := by have hif : (if (s.1 30 (7 * (s.2.2.1 32 0).toInt.toNat)).toInt = 0 then (1 : Int) else 0) = 1 := if_pos (by rw [← h32]; exact c33); exact kv_st q_1 rfl (rng_F hI.1 0 4000 (q := 32) (j := 0) rfl rfl).1 (by rw [← (show z23 = (sF (sI (sF s 32 0 z23) 33 z15.toNatClampNeg z76) 32 1 z84).2.2.1 32 0 from sF_ne rfl (sI_F (sF_get))), ← e_32_0]; have a0 := (rng_F hI.1 448 28000 rfl e_30_0); unfold In at a0; have a1 := i64a; unfold In at a1; have a2 := r_32_0; unfold In at a2; have a3 := i64; unfold In at a3; have a4 := i6; unfold In at a4; have a5 := (t_mulc 7 (Or.inr e6) r_32_0 rfl).1; have a6 := i84; unfold In at a6; have a7 := t_add e84 i64a (in_c 1 rfl) rfl; have a8 := (in_c 1 rfl); unfold In at a8; have a9 := i23; unfold In at a9; have a10 := t_add e23 r_32_0 (in_c 1 rfl) rfl; have a11 := i75; unfold In at a11; have a12 := t_add e75 i6 (in_c 2 rfl) rfl; have a13 := (in_c 2 rfl); unfold In at a13; have a14 := i14; unfold In at a14; have a15 := t_add e14 i6 (in_c 1 rfl) rfl; omega) (by rw [hif, ← (show z84 = (sF (sI (sF s 32 0 z23) 33 z15.toNatClampNeg z76) 32 1 z84).2.2.1 32 1 from sF_get), ← e_32_1]; have a0 := (rng_F hI.1 448 28000 rfl e_30_0); unfold In at a0; have a1 := i64a; unfold In at a1; have a2 := r_32_0; unfold In at a2; have a3 := i64; unfold In at a3; have a4 := i6; unfold In at a4; have a5 := (t_mulc 7 (Or.inr e6) r_32_0 rfl).1; have a6 := i84; unfold In at a6; have a7 := t_add e84 i64a (in_c 1 rfl) rfl; have a8 := (in_c 1 rfl); unfold In at a8; have a9 := i23; unfold In at a9; have a10 := t_add e23 r_32_0 (in_c 1 rfl) rfl; have a11 := i75; unfold In at a11; have a12 := t_add e75 i6 (in_c 2 rfl) rfl; have a13 := (in_c 2 rfl); unfold In at a13; have a14 := i14; unfold In at a14; have a15 := t_add e14 i6 (in_c 1 rfl) rfl; omega) (kn_up q_1.2 (by rw [← (show z84 = (sF (sI (sF s 32 0 z23) 33 z15.toNatClampNeg z76) 32 1 z84).2.2.1 32 1 from sF_get), ← e_32_1]; have a0 := (rng_F hI.1 448 28000 rfl e_30_0); unfold In at a0; have a1 := i64a; unfold In at a1; have a2 := r_32_0; unfold In at a2; have a3 := i64; unfold In at a3; have a4 := i6; unfold In at a4; have a5 := (t_mulc 7 (Or.inr e6) r_32_0 rfl).1; have a6 := i84; unfold In at a6; have a7 := t_add e84 i64a (in_c 1 rfl) rfl; have a8 := (in_c 1 rfl); unfold In at a8; have a9 := i23; unfold In at a9; have a10 := t_add e23 r_32_0 (in_c 1 rfl) rfl; have a11 := i75; unfold In at a11; have a12 := t_add e75 i6 (in_c 2 rfl) rfl; have a13 := (in_c 2 rfl); unfold In at a13; have a14 := i14; unfold In at a14; have a15 := t_add e14 i6 (in_c 1 rfl) rfl; omega))
    have n148a : (z23).toInt = (u_32_0).toInt + 1 := by have a0 := (rng_F hI.1 448 28000 rfl e_30_0); unfold In at a0; have a1 := i64a; unfold In at a1; have a2 := r_32_0; unfold In at a2; have a3 := i64; unfold In at a3; have a4 := i6; unfold In at a4; have a5 := (t_mulc 7 (Or.inr e6) r_32_0 rfl).1; have a6 := i84; unfold In at a6; have a7 := t_add e84 i64a (in_c 1 rfl) rfl; have a8 := (in_c 1 rfl); unfold In at a8; have a9 := i23; unfold In at a9; have a10 := t_add e23 r_32_0 (in_c 1 rfl) rfl; have a11 := i75; unfold In at a11; have a12 := t_add e75 i6 (in_c 2 rfl) rfl; have a13 := (in_c 2 rfl); unfold In at a13; have a14 := i14; unfold In at a14; have a15 := t_add e14 i6 (in_c 1 rfl) rfl; omega
    have n148b : ((sF (sI (sF s 32 0 z23) 33 z15.toNatClampNeg z76) 32 1 z84).2.2.1 32 0).toInt = (s.2.2.1 32 0).toInt + 1 := by have b0 : z23 = (sF (sI (sF s 32 0 z23) 33 z15.toNatClampNeg z76) 32 1 z84).2.2.1 32 0 := sF_ne rfl (sI_F (sF_get)); rw [← b0, ← e_32_0]; exact n148a
    exact g_return (gd rfl) rfl (hP _ _ ⟨(sF (sI (sF s 32 0 z23) 33 z15.toNatClampNeg z76) 32 1 z84), hI148, (fr_sF rfl (fr_sI rfl (fr_sF rfl fr_rf))), n148b, rfl, rfl, n148⟩)
  · skip
    have i33 := sw_eq c33
    have h32 : z32 = s.1 30 (7 * (s.2.2.1 32 0).toInt.toNat) := rw7_v (c := 0) (by have a0 := (rng_F hI.1 448 28000 rfl e_30_0); unfold In at a0; have a1 := (rng_F hI.1 0 32 rfl e_32_1); unfold In at a1; have a2 := r_32_0; unfold In at a2; have a3 := i6; unfold In at a3; have a4 := (t_mulc 7 (Or.inr e6) r_32_0 rfl).1; have a5 := i23; unfold In at a5; have a6 := t_add e23 r_32_0 (in_c 1 rfl) rfl; have a7 := (in_c 1 rfl); unfold In at a7; have a8 := i14; unfold In at a8; have a9 := t_add e14 i6 (in_c 1 rfl) rfl; omega) e32
    have hr := rw7_1 q_0 hk e32 c33
    have i91 : In z15 0 159 := by rw [hp]; exact hr.1
    refine g_aload_n 92 (gd rfl) rfl rfl ?_
    refine g_aload_n 93 (gd rfl) rfl rfl ?_
    refine g_iload_n 94 (gd rfl) rfl rfl ?_
    refine g_iload_n 95 (gd rfl) rfl rfl ?_
    have v95 : u_30_0 = (sF s 32 0 z23).2.2.1 30 0 := sF_ne rfl (e_30_0)
    have n95 : (z6).toInt + 7 ≤ (u_30_0).toInt := by have a0 := (rng_F hI.1 448 28000 rfl e_30_0); unfold In at a0; have a1 := (rng_F hI.1 0 32 rfl e_32_1); unfold In at a1; have a2 := r_32_0; unfold In at a2; have a3 := i91; unfold In at a3; have a4 := i6; unfold In at a4; have a5 := (t_mulc 7 (Or.inr e6) r_32_0 rfl).1; have a6 := i23; unfold In at a6; have a7 := t_add e23 r_32_0 (in_c 1 rfl) rfl; have a8 := (in_c 1 rfl); unfold In at a8; have a9 := i14; unfold In at a9; have a10 := t_add e14 i6 (in_c 1 rfl) rfl; omega
    have p95 : In ((sF s 32 0 z23).1 30 ((z6).toInt + 2).toNat) (0) 31 := by show In (s.1 30 ((z6).toInt + 2).toNat) 0 31; rw [(show s.1 30 ((z6).toInt + 2).toNat = s.1 30 (7 * (s.2.2.1 32 0).toInt.toNat + 2) from congrArg (s.1 30) (by have a0 := (rng_F hI.1 448 28000 rfl e_30_0); unfold In at a0; have a1 := (rng_F hI.1 0 32 rfl e_32_1); unfold In at a1; have a2 := r_32_0; unfold In at a2; have a3 := i91; unfold In at a3; have a4 := i6; unfold In at a4; have a5 := (t_mulc 7 (Or.inr e6) r_32_0 rfl).1; have a6 := i23; unfold In at a6; have a7 := t_add e23 r_32_0 (in_c 1 rfl) rfl; have a8 := (in_c 1 rfl); unfold In at a8; have a9 := i14; unfold In at a9; have a10 := t_add e14 i6 (in_c 1 rfl) rfl; omega))]; have h1 := hr.2.1; have h2 := q_1.1; have h3 := rng_F hI.1 0 32 (q := 32) (j := 1) rfl rfl; unfold In at h3; exact ⟨by omega, by omega⟩
    have p95a : In ((sF s 32 0 z23).1 30 ((z6).toInt + 3).toNat) (0) 31 := by show In (s.1 30 ((z6).toInt + 3).toNat) 0 31; rw [(show s.1 30 ((z6).toInt + 3).toNat = s.1 30 (7 * (s.2.2.1 32 0).toInt.toNat + 3) from congrArg (s.1 30) (by have a0 := (rng_F hI.1 448 28000 rfl e_30_0); unfold In at a0; have a1 := (rng_F hI.1 0 32 rfl e_32_1); unfold In at a1; have a2 := r_32_0; unfold In at a2; have a3 := i91; unfold In at a3; have a4 := i6; unfold In at a4; have a5 := (t_mulc 7 (Or.inr e6) r_32_0 rfl).1; have a6 := i23; unfold In at a6; have a7 := t_add e23 r_32_0 (in_c 1 rfl) rfl; have a8 := (in_c 1 rfl); unfold In at a8; have a9 := i14; unfold In at a9; have a10 := t_add e14 i6 (in_c 1 rfl) rfl; omega))]; have h1 := hr.2.2.1; have h2 := q_1.1; have h3 := rng_F hI.1 0 32 (q := 32) (j := 1) rfl rfl; unfold In at h3; exact ⟨by omega, by omega⟩
    have p95b : In ((sF s 32 0 z23).1 30 ((z6).toInt + 4).toNat) (-1000000) 1000000 := by show In (s.1 30 ((z6).toInt + 4).toNat) _ _; rw [(show s.1 30 ((z6).toInt + 4).toNat = s.1 30 (7 * (s.2.2.1 32 0).toInt.toNat + 4) from congrArg (s.1 30) (by have a0 := (rng_F hI.1 448 28000 rfl e_30_0); unfold In at a0; have a1 := (rng_F hI.1 0 32 rfl e_32_1); unfold In at a1; have a2 := r_32_0; unfold In at a2; have a3 := i91; unfold In at a3; have a4 := i6; unfold In at a4; have a5 := (t_mulc 7 (Or.inr e6) r_32_0 rfl).1; have a6 := i23; unfold In at a6; have a7 := t_add e23 r_32_0 (in_c 1 rfl) rfl; have a8 := (in_c 1 rfl); unfold In at a8; have a9 := i14; unfold In at a9; have a10 := t_add e14 i6 (in_c 1 rfl) rfl; omega))]; exact hr.2.2.2.1
    have p95c : In ((sF s 32 0 z23).1 30 ((z6).toInt + 5).toNat) (0) 1000000 := by show In (s.1 30 ((z6).toInt + 5).toNat) _ _; rw [(show s.1 30 ((z6).toInt + 5).toNat = s.1 30 (7 * (s.2.2.1 32 0).toInt.toNat + 5) from congrArg (s.1 30) (by have a0 := (rng_F hI.1 448 28000 rfl e_30_0); unfold In at a0; have a1 := (rng_F hI.1 0 32 rfl e_32_1); unfold In at a1; have a2 := r_32_0; unfold In at a2; have a3 := i91; unfold In at a3; have a4 := i6; unfold In at a4; have a5 := (t_mulc 7 (Or.inr e6) r_32_0 rfl).1; have a6 := i23; unfold In at a6; have a7 := t_add e23 r_32_0 (in_c 1 rfl) rfl; have a8 := (in_c 1 rfl); unfold In at a8; have a9 := i14; unfold In at a9; have a10 := t_add e14 i6 (in_c 1 rfl) rfl; omega))]; exact hr.2.2.2.2.1
    have p95d : In ((sF s 32 0 z23).1 30 ((z6).toInt + 6).toNat) (0) 25 := by show In (s.1 30 ((z6).toInt + 6).toNat) _ _; rw [(show s.1 30 ((z6).toInt + 6).toNat = s.1 30 (7 * (s.2.2.1 32 0).toInt.toNat + 6) from congrArg (s.1 30) (by have a0 := (rng_F hI.1 448 28000 rfl e_30_0); unfold In at a0; have a1 := (rng_F hI.1 0 32 rfl e_32_1); unfold In at a1; have a2 := r_32_0; unfold In at a2; have a3 := i91; unfold In at a3; have a4 := i6; unfold In at a4; have a5 := (t_mulc 7 (Or.inr e6) r_32_0 rfl).1; have a6 := i23; unfold In at a6; have a7 := t_add e23 r_32_0 (in_c 1 rfl) rfl; have a8 := (in_c 1 rfl); unfold In at a8; have a9 := i14; unfold In at a9; have a10 := t_add e14 i6 (in_c 1 rfl) rfl; omega))]; exact hr.2.2.2.2.2
    refine g_callv (X := _) (As := [.ref (A 32), .int z6, .int z15]) (r := []) (b := A 1) (q := 1) 98 (gd rfl) rfl rfl rfl rfl rfl (ww_o rfl) (Nat.le_of_ble_eq_true rfl) (Nat.zero_le _) (Nat.zero_le _) (k_132_1_32 (by omega) hI24 (in_w 0 27993 i6 rfl) (in_w 0 159 i91 rfl) v95 n95 p95 p95a p95b p95c p95d) (fun e u h => h) (fun v u h => ?_)
    obtain ⟨s95, hI95, hF95, rfl, rfl, p95e, p95f⟩ := h
    show GG _ _ _ _ _ _ _ _ [] _ _ _
    refine g_goto 148 (gd rfl) rfl ?_
    have hI148 : Inv s95 := by have hFF : Fr fm_131_1_32 s s95 := (fr_tr rfl (fr_sF rfl fr_rf) hF95); exact ⟨hI95, kk_ap32 hI.2 hFF rfl (by rw [hFF.2.2.1 32 4 rfl, ← (show z23 = s95.2.2.1 32 0 from fr_F (s := (sF s 32 0 z23)) (sF_get) hF95 rfl)]; have hg := hI.2.2.1.1; rw [mF_at rfl, mF_at rfl, ← e_32_0] at hg; have a0 := (rng_F hI.1 448 28000 rfl e_30_0); unfold In at a0; have a1 := (rng_F hI.1 0 32 rfl e_32_1); unfold In at a1; have a2 := r_32_0; unfold In at a2; have a3 := i91; unfold In at a3; have a4 := i6; unfold In at a4; have a5 := (t_mulc 7 (Or.inr e6) r_32_0 rfl).1; have a6 := i23; unfold In at a6; have a7 := t_add e23 r_32_0 (in_c 1 rfl) rfl; have a8 := (in_c 1 rfl); unfold In at a8; have a9 := i14; unfold In at a9; have a10 := t_add e14 i6 (in_c 1 rfl) rfl; omega)⟩
    have n148 : KV s95 32 := by have hif : (if (s.1 30 (7 * (s.2.2.1 32 0).toInt.toNat)).toInt = 0 then (1 : Int) else 0) = 0 := if_neg (by rw [← h32]; have a0 := (rng_F hI.1 448 28000 rfl e_30_0); unfold In at a0; have a1 := (rng_F hI.1 0 32 rfl e_32_1); unfold In at a1; have a2 := r_32_0; unfold In at a2; have a3 := i91; unfold In at a3; have a4 := i6; unfold In at a4; have a5 := (t_mulc 7 (Or.inr e6) r_32_0 rfl).1; have a6 := i23; unfold In at a6; have a7 := t_add e23 r_32_0 (in_c 1 rfl) rfl; have a8 := (in_c 1 rfl); unfold In at a8; have a9 := i14; unfold In at a9; have a10 := t_add e14 i6 (in_c 1 rfl) rfl; omega); exact kv_st q_1 (hF95.1 30 rfl) (rng_F hI.1 0 4000 (q := 32) (j := 0) rfl rfl).1 (by rw [← (show z23 = s95.2.2.1 32 0 from fr_F (s := (sF s 32 0 z23)) (sF_get) hF95 rfl), ← e_32_0]; have a0 := (rng_F hI.1 448 28000 rfl e_30_0); unfold In at a0; have a1 := (rng_F hI.1 0 32 rfl e_32_1); unfold In at a1; have a2 := r_32_0; unfold In at a2; have a3 := i91; unfold In at a3; have a4 := i6; unfold In at a4; have a5 := (t_mulc 7 (Or.inr e6) r_32_0 rfl).1; have a6 := i23; unfold In at a6; have a7 := t_add e23 r_32_0 (in_c 1 rfl) rfl; have a8 := (in_c 1 rfl); unfold In at a8; have a9 := i14; unfold In at a9; have a10 := t_add e14 i6 (in_c 1 rfl) rfl; omega) (by rw [hif, ← (show u_32_1 = s95.2.2.1 32 1 from fr_F (s := (sF s 32 0 z23)) (sF_ne rfl (e_32_1)) hF95 rfl), ← e_32_1]; omega) (by rw [← (show u_32_1 = s95.2.2.1 32 1 from fr_F (s := (sF s 32 0 z23)) (sF_ne rfl (e_32_1)) hF95 rfl), e_32_1]; exact (by rw [p95e, p95f]; show KN (upd (s.1 34) _ (s.1 30 ((z6).toInt + 2).toNat)) (upd (s.1 35) _ (s.1 30 ((z6).toInt + 3).toNat)) _; rw [(show s.1 30 ((z6).toInt + 2).toNat = s.1 30 (7 * (s.2.2.1 32 0).toInt.toNat + 2) from congrArg (s.1 30) (by have a0 := (rng_F hI.1 448 28000 rfl e_30_0); unfold In at a0; have a1 := (rng_F hI.1 0 32 rfl e_32_1); unfold In at a1; have a2 := r_32_0; unfold In at a2; have a3 := i91; unfold In at a3; have a4 := i6; unfold In at a4; have a5 := (t_mulc 7 (Or.inr e6) r_32_0 rfl).1; have a6 := i23; unfold In at a6; have a7 := t_add e23 r_32_0 (in_c 1 rfl) rfl; have a8 := (in_c 1 rfl); unfold In at a8; have a9 := i14; unfold In at a9; have a10 := t_add e14 i6 (in_c 1 rfl) rfl; omega)), (show s.1 30 ((z6).toInt + 3).toNat = s.1 30 (7 * (s.2.2.1 32 0).toInt.toNat + 3) from congrArg (s.1 30) (by have a0 := (rng_F hI.1 448 28000 rfl e_30_0); unfold In at a0; have a1 := (rng_F hI.1 0 32 rfl e_32_1); unfold In at a1; have a2 := r_32_0; unfold In at a2; have a3 := i91; unfold In at a3; have a4 := i6; unfold In at a4; have a5 := (t_mulc 7 (Or.inr e6) r_32_0 rfl).1; have a6 := i23; unfold In at a6; have a7 := t_add e23 r_32_0 (in_c 1 rfl) rfl; have a8 := (in_c 1 rfl); unfold In at a8; have a9 := i14; unfold In at a9; have a10 := t_add e14 i6 (in_c 1 rfl) rfl; omega))]; exact kn_ar q_1.2 (by rw [q_1.1]; exact hr.2.1) (by rw [q_1.1]; exact hr.2.2.1)))
    have n148a : (z23).toInt = (u_32_0).toInt + 1 := by have a0 := (rng_F hI.1 448 28000 rfl e_30_0); unfold In at a0; have a1 := (rng_F hI.1 0 32 rfl e_32_1); unfold In at a1; have a2 := r_32_0; unfold In at a2; have a3 := i91; unfold In at a3; have a4 := i6; unfold In at a4; have a5 := (t_mulc 7 (Or.inr e6) r_32_0 rfl).1; have a6 := i23; unfold In at a6; have a7 := t_add e23 r_32_0 (in_c 1 rfl) rfl; have a8 := (in_c 1 rfl); unfold In at a8; have a9 := i14; unfold In at a9; have a10 := t_add e14 i6 (in_c 1 rfl) rfl; omega
    have n148b : (s95.2.2.1 32 0).toInt = (s.2.2.1 32 0).toInt + 1 := by have b0 : z23 = s95.2.2.1 32 0 := fr_F (s := (sF s 32 0 z23)) (sF_get) hF95 rfl; rw [← b0, ← e_32_0]; exact n148a
    exact g_return (gd rfl) rfl (hP _ _ ⟨s95, hI148, (fr_tr rfl (fr_sF rfl fr_rf) hF95), n148b, rfl, rfl, n148⟩)
  · skip
    have i33 := sw_eq c33
    have h32 : z32 = s.1 30 (7 * (s.2.2.1 32 0).toInt.toNat) := rw7_v (c := 0) (by have a0 := (rng_F hI.1 448 28000 rfl e_30_0); unfold In at a0; have a1 := (rng_F hI.1 0 32 rfl e_32_1); unfold In at a1; have a2 := r_32_0; unfold In at a2; have a3 := i6; unfold In at a3; have a4 := (t_mulc 7 (Or.inr e6) r_32_0 rfl).1; have a5 := i23; unfold In at a5; have a6 := t_add e23 r_32_0 (in_c 1 rfl) rfl; have a7 := (in_c 1 rfl); unfold In at a7; have a8 := i14; unfold In at a8; have a9 := t_add e14 i6 (in_c 1 rfl) rfl; omega) e32
    have hr := rw7_2 q_0 hk e32 c33
    have i101 : In z15 0 159 := by rw [hp]; exact hr
    refine g_aload_n 102 (gd rfl) rfl rfl ?_
    refine g_iload_n 103 (gd rfl) rfl rfl ?_
    refine g_callv (X := _) (As := [.int z15]) (r := []) (b := A 32) (q := 32) 106 (gd rfl) rfl rfl rfl rfl rfl (ww_o rfl) (Nat.le_of_ble_eq_true rfl) (Nat.zero_le _) (Nat.zero_le _) (k_105_32 (by omega) hI24 (in_w 0 159 i101 rfl)) (fun e u h => h) (fun v u h => ?_)
    obtain ⟨s103, hI103, hF103, rfl, rfl, p103⟩ := h
    show GG _ _ _ _ _ _ _ _ [] _ _ _
    refine g_goto 148 (gd rfl) rfl ?_
    have hI148 : Inv s103 := by have hFF : Fr fm_131_1_32 s s103 := (fr_tr rfl (fr_sF rfl fr_rf) hF103); exact ⟨hI103, kk_ap32 hI.2 hFF rfl (by rw [hFF.2.2.1 32 4 rfl, ← (show z23 = s103.2.2.1 32 0 from fr_F (s := (sF s 32 0 z23)) (sF_get) hF103 rfl)]; have hg := hI.2.2.1.1; rw [mF_at rfl, mF_at rfl, ← e_32_0] at hg; have a0 := (rng_F hI.1 448 28000 rfl e_30_0); unfold In at a0; have a1 := (rng_F hI.1 0 32 rfl e_32_1); unfold In at a1; have a2 := r_32_0; unfold In at a2; have a3 := i101; unfold In at a3; have a4 := i6; unfold In at a4; have a5 := (t_mulc 7 (Or.inr e6) r_32_0 rfl).1; have a6 := i23; unfold In at a6; have a7 := t_add e23 r_32_0 (in_c 1 rfl) rfl; have a8 := (in_c 1 rfl); unfold In at a8; have a9 := i14; unfold In at a9; have a10 := t_add e14 i6 (in_c 1 rfl) rfl; omega)⟩
    have n148 : KV s103 32 := by have hif : (if (s.1 30 (7 * (s.2.2.1 32 0).toInt.toNat)).toInt = 0 then (1 : Int) else 0) = 0 := if_neg (by rw [← h32]; have a0 := (rng_F hI.1 448 28000 rfl e_30_0); unfold In at a0; have a1 := (rng_F hI.1 0 32 rfl e_32_1); unfold In at a1; have a2 := r_32_0; unfold In at a2; have a3 := i101; unfold In at a3; have a4 := i6; unfold In at a4; have a5 := (t_mulc 7 (Or.inr e6) r_32_0 rfl).1; have a6 := i23; unfold In at a6; have a7 := t_add e23 r_32_0 (in_c 1 rfl) rfl; have a8 := (in_c 1 rfl); unfold In at a8; have a9 := i14; unfold In at a9; have a10 := t_add e14 i6 (in_c 1 rfl) rfl; omega); exact kv_st q_1 (hF103.1 30 rfl) (rng_F hI.1 0 4000 (q := 32) (j := 0) rfl rfl).1 (by rw [← (show z23 = s103.2.2.1 32 0 from fr_F (s := (sF s 32 0 z23)) (sF_get) hF103 rfl), ← e_32_0]; have a0 := (rng_F hI.1 448 28000 rfl e_30_0); unfold In at a0; have a1 := (rng_F hI.1 0 32 rfl e_32_1); unfold In at a1; have a2 := r_32_0; unfold In at a2; have a3 := i101; unfold In at a3; have a4 := i6; unfold In at a4; have a5 := (t_mulc 7 (Or.inr e6) r_32_0 rfl).1; have a6 := i23; unfold In at a6; have a7 := t_add e23 r_32_0 (in_c 1 rfl) rfl; have a8 := (in_c 1 rfl); unfold In at a8; have a9 := i14; unfold In at a9; have a10 := t_add e14 i6 (in_c 1 rfl) rfl; omega) (by rw [hif, ← (show u_32_1 = s103.2.2.1 32 1 from fr_F (s := (sF s 32 0 z23)) (sF_ne rfl (e_32_1)) hF103 rfl), ← e_32_1]; omega) (by rw [← (show u_32_1 = s103.2.2.1 32 1 from fr_F (s := (sF s 32 0 z23)) (sF_ne rfl (e_32_1)) hF103 rfl), e_32_1]; exact (by rw [p103, hF103.1 35 rfl]; exact kn_dr q_1.2 (by decide)))
    have n148a : (z23).toInt = (u_32_0).toInt + 1 := by have a0 := (rng_F hI.1 448 28000 rfl e_30_0); unfold In at a0; have a1 := (rng_F hI.1 0 32 rfl e_32_1); unfold In at a1; have a2 := r_32_0; unfold In at a2; have a3 := i101; unfold In at a3; have a4 := i6; unfold In at a4; have a5 := (t_mulc 7 (Or.inr e6) r_32_0 rfl).1; have a6 := i23; unfold In at a6; have a7 := t_add e23 r_32_0 (in_c 1 rfl) rfl; have a8 := (in_c 1 rfl); unfold In at a8; have a9 := i14; unfold In at a9; have a10 := t_add e14 i6 (in_c 1 rfl) rfl; omega
    have n148b : (s103.2.2.1 32 0).toInt = (s.2.2.1 32 0).toInt + 1 := by have b0 : z23 = s103.2.2.1 32 0 := fr_F (s := (sF s 32 0 z23)) (sF_get) hF103 rfl; rw [← b0, ← e_32_0]; exact n148a
    exact g_return (gd rfl) rfl (hP _ _ ⟨s103, hI148, (fr_tr rfl (fr_sF rfl fr_rf) hF103), n148b, rfl, rfl, n148⟩)
  · skip
    have i33 := sw_eq c33
    have h32 : z32 = s.1 30 (7 * (s.2.2.1 32 0).toInt.toNat) := rw7_v (c := 0) (by have a0 := (rng_F hI.1 448 28000 rfl e_30_0); unfold In at a0; have a1 := (rng_F hI.1 0 32 rfl e_32_1); unfold In at a1; have a2 := r_32_0; unfold In at a2; have a3 := i6; unfold In at a3; have a4 := (t_mulc 7 (Or.inr e6) r_32_0 rfl).1; have a5 := i23; unfold In at a5; have a6 := t_add e23 r_32_0 (in_c 1 rfl) rfl; have a7 := (in_c 1 rfl); unfold In at a7; have a8 := i14; unfold In at a8; have a9 := t_add e14 i6 (in_c 1 rfl) rfl; omega) e32
    have hr := rw7_3 q_0 hk e32 c33
    have i109 : In z15 0 159 := by rw [hp]; exact hr.1
    refine g_aload_n 110 (gd rfl) rfl rfl ?_
    refine g_aload_n 111 (gd rfl) rfl rfl ?_
    refine g_iload_n 112 (gd rfl) rfl rfl ?_
    refine g_aload_n 113 (gd rfl) rfl rfl ?_
    refine g_getA (q2 := 30) 116 (gd rfl) rfl rfl rfl rfl ?_
    refine g_iload_n 117 (gd rfl) rfl rfl ?_
    refine g_iconst 2 118 (gd rfl) rfl rfl ?_
    refine g_iadd 119 (gd rfl) rfl (fun z118 e118 => ?_)
    have i118 := in_add 2 27995 e118 i6 (in_c 2 rfl) rfl rfl
    have hx119 : vp_in z118 ((sF s 32 0 z23).2.2.1 30 0).toNatClampNeg := lg_in (by have a0 := (rng_F hI.1 448 28000 rfl e_30_0); unfold In at a0; have a1 := (rng_F hI.1 0 32 rfl e_32_1); unfold In at a1; have a2 := r_32_0; unfold In at a2; have a3 := i109; unfold In at a3; have a4 := i6; unfold In at a4; have a5 := (t_mulc 7 (Or.inr e6) r_32_0 rfl).1; have a6 := i23; unfold In at a6; have a7 := t_add e23 r_32_0 (in_c 1 rfl) rfl; have a8 := (in_c 1 rfl); unfold In at a8; have a9 := i118; unfold In at a9; have a10 := t_add e118 i6 (in_c 2 rfl) rfl; have a11 := (in_c 2 rfl); unfold In at a11; have a12 := i14; unfold In at a12; have a13 := t_add e14 i6 (in_c 1 rfl) rfl; omega) (by rw [← (show u_30_0 = (sF s 32 0 z23).2.2.1 30 0 from sF_ne rfl (e_30_0))]; have a0 := (rng_F hI.1 448 28000 rfl e_30_0); unfold In at a0; have a1 := (rng_F hI.1 0 32 rfl e_32_1); unfold In at a1; have a2 := r_32_0; unfold In at a2; have a3 := i109; unfold In at a3; have a4 := i6; unfold In at a4; have a5 := (t_mulc 7 (Or.inr e6) r_32_0 rfl).1; have a6 := i23; unfold In at a6; have a7 := t_add e23 r_32_0 (in_c 1 rfl) rfl; have a8 := (in_c 1 rfl); unfold In at a8; have a9 := i118; unfold In at a9; have a10 := t_add e118 i6 (in_c 2 rfl) rfl; have a11 := (in_c 2 rfl); unfold In at a11; have a12 := i14; unfold In at a12; have a13 := t_add e14 i6 (in_c 1 rfl) rfl; omega)
    refine g_lgload 120 (gd rfl) rfl hx119 (fun z119 e119 => ?_)
    refine g_aload_n 121 (gd rfl) rfl rfl ?_
    refine g_getA (q2 := 30) 124 (gd rfl) rfl rfl rfl rfl ?_
    refine g_iload_n 125 (gd rfl) rfl rfl ?_
    refine g_iconst 3 126 (gd rfl) rfl rfl ?_
    refine g_iadd 127 (gd rfl) rfl (fun z126 e126 => ?_)
    have i126 := in_add 3 27996 e126 i6 (in_c 3 rfl) rfl rfl
    have hx127 : vp_in z126 ((sF s 32 0 z23).2.2.1 30 0).toNatClampNeg := lg_in (by have a0 := (rng_F hI.1 448 28000 rfl e_30_0); unfold In at a0; have a1 := (rng_F hI.1 0 32 rfl e_32_1); unfold In at a1; have a2 := r_32_0; unfold In at a2; have a3 := i109; unfold In at a3; have a4 := i6; unfold In at a4; have a5 := (t_mulc 7 (Or.inr e6) r_32_0 rfl).1; have a6 := i23; unfold In at a6; have a7 := t_add e23 r_32_0 (in_c 1 rfl) rfl; have a8 := (in_c 1 rfl); unfold In at a8; have a9 := i126; unfold In at a9; have a10 := t_add e126 i6 (in_c 3 rfl) rfl; have a11 := (in_c 3 rfl); unfold In at a11; have a12 := i118; unfold In at a12; have a13 := t_add e118 i6 (in_c 2 rfl) rfl; have a14 := (in_c 2 rfl); unfold In at a14; have a15 := i14; unfold In at a15; have a16 := t_add e14 i6 (in_c 1 rfl) rfl; omega) (by rw [← (show u_30_0 = (sF s 32 0 z23).2.2.1 30 0 from sF_ne rfl (e_30_0))]; have a0 := (rng_F hI.1 448 28000 rfl e_30_0); unfold In at a0; have a1 := (rng_F hI.1 0 32 rfl e_32_1); unfold In at a1; have a2 := r_32_0; unfold In at a2; have a3 := i109; unfold In at a3; have a4 := i6; unfold In at a4; have a5 := (t_mulc 7 (Or.inr e6) r_32_0 rfl).1; have a6 := i23; unfold In at a6; have a7 := t_add e23 r_32_0 (in_c 1 rfl) rfl; have a8 := (in_c 1 rfl); unfold In at a8; have a9 := i126; unfold In at a9; have a10 := t_add e126 i6 (in_c 3 rfl) rfl; have a11 := (in_c 3 rfl); unfold In at a11; have a12 := i118; unfold In at a12; have a13 := t_add e118 i6 (in_c 2 rfl) rfl; have a14 := (in_c 2 rfl); unfold In at a14; have a15 := i14; unfold In at a15; have a16 := t_add e14 i6 (in_c 1 rfl) rfl; omega)
    refine g_lgload 128 (gd rfl) rfl hx127 (fun z127 e127 => ?_)
    have p128 : (z119).toInt = 0 → In z127 (-1000000) 1000000 := by rw [rw7_v (c := 2) (by have a0 := (rng_F hI.1 448 28000 rfl e_30_0); unfold In at a0; have a1 := (rng_F hI.1 0 32 rfl e_32_1); unfold In at a1; have a2 := r_32_0; unfold In at a2; have a3 := i109; unfold In at a3; have a4 := i6; unfold In at a4; have a5 := (t_mulc 7 (Or.inr e6) r_32_0 rfl).1; have a6 := i23; unfold In at a6; have a7 := t_add e23 r_32_0 (in_c 1 rfl) rfl; have a8 := (in_c 1 rfl); unfold In at a8; have a9 := i126; unfold In at a9; have a10 := t_add e126 i6 (in_c 3 rfl) rfl; have a11 := (in_c 3 rfl); unfold In at a11; have a12 := i118; unfold In at a12; have a13 := t_add e118 i6 (in_c 2 rfl) rfl; have a14 := (in_c 2 rfl); unfold In at a14; have a15 := i14; unfold In at a15; have a16 := t_add e14 i6 (in_c 1 rfl) rfl; omega) e119, rw7_v (c := 3) (by have a0 := (rng_F hI.1 448 28000 rfl e_30_0); unfold In at a0; have a1 := (rng_F hI.1 0 32 rfl e_32_1); unfold In at a1; have a2 := r_32_0; unfold In at a2; have a3 := i109; unfold In at a3; have a4 := i6; unfold In at a4; have a5 := (t_mulc 7 (Or.inr e6) r_32_0 rfl).1; have a6 := i23; unfold In at a6; have a7 := t_add e23 r_32_0 (in_c 1 rfl) rfl; have a8 := (in_c 1 rfl); unfold In at a8; have a9 := i126; unfold In at a9; have a10 := t_add e126 i6 (in_c 3 rfl) rfl; have a11 := (in_c 3 rfl); unfold In at a11; have a12 := i118; unfold In at a12; have a13 := t_add e118 i6 (in_c 2 rfl) rfl; have a14 := (in_c 2 rfl); unfold In at a14; have a15 := i14; unfold In at a15; have a16 := t_add e14 i6 (in_c 1 rfl) rfl; omega) e127]; exact hr.2.1
    have p128a : (z119).toInt = 1 → In z127 0 1000000 := by rw [rw7_v (c := 2) (by have a0 := (rng_F hI.1 448 28000 rfl e_30_0); unfold In at a0; have a1 := (rng_F hI.1 0 32 rfl e_32_1); unfold In at a1; have a2 := r_32_0; unfold In at a2; have a3 := i109; unfold In at a3; have a4 := i6; unfold In at a4; have a5 := (t_mulc 7 (Or.inr e6) r_32_0 rfl).1; have a6 := i23; unfold In at a6; have a7 := t_add e23 r_32_0 (in_c 1 rfl) rfl; have a8 := (in_c 1 rfl); unfold In at a8; have a9 := i126; unfold In at a9; have a10 := t_add e126 i6 (in_c 3 rfl) rfl; have a11 := (in_c 3 rfl); unfold In at a11; have a12 := i118; unfold In at a12; have a13 := t_add e118 i6 (in_c 2 rfl) rfl; have a14 := (in_c 2 rfl); unfold In at a14; have a15 := i14; unfold In at a15; have a16 := t_add e14 i6 (in_c 1 rfl) rfl; omega) e119, rw7_v (c := 3) (by have a0 := (rng_F hI.1 448 28000 rfl e_30_0); unfold In at a0; have a1 := (rng_F hI.1 0 32 rfl e_32_1); unfold In at a1; have a2 := r_32_0; unfold In at a2; have a3 := i109; unfold In at a3; have a4 := i6; unfold In at a4; have a5 := (t_mulc 7 (Or.inr e6) r_32_0 rfl).1; have a6 := i23; unfold In at a6; have a7 := t_add e23 r_32_0 (in_c 1 rfl) rfl; have a8 := (in_c 1 rfl); unfold In at a8; have a9 := i126; unfold In at a9; have a10 := t_add e126 i6 (in_c 3 rfl) rfl; have a11 := (in_c 3 rfl); unfold In at a11; have a12 := i118; unfold In at a12; have a13 := t_add e118 i6 (in_c 2 rfl) rfl; have a14 := (in_c 2 rfl); unfold In at a14; have a15 := i14; unfold In at a15; have a16 := t_add e14 i6 (in_c 1 rfl) rfl; omega) e127]; exact hr.2.2.1
    have p128b : (z119).toInt ≠ 0 → (z119).toInt ≠ 1 → In z127 0 25 := by rw [rw7_v (c := 2) (by have a0 := (rng_F hI.1 448 28000 rfl e_30_0); unfold In at a0; have a1 := (rng_F hI.1 0 32 rfl e_32_1); unfold In at a1; have a2 := r_32_0; unfold In at a2; have a3 := i109; unfold In at a3; have a4 := i6; unfold In at a4; have a5 := (t_mulc 7 (Or.inr e6) r_32_0 rfl).1; have a6 := i23; unfold In at a6; have a7 := t_add e23 r_32_0 (in_c 1 rfl) rfl; have a8 := (in_c 1 rfl); unfold In at a8; have a9 := i126; unfold In at a9; have a10 := t_add e126 i6 (in_c 3 rfl) rfl; have a11 := (in_c 3 rfl); unfold In at a11; have a12 := i118; unfold In at a12; have a13 := t_add e118 i6 (in_c 2 rfl) rfl; have a14 := (in_c 2 rfl); unfold In at a14; have a15 := i14; unfold In at a15; have a16 := t_add e14 i6 (in_c 1 rfl) rfl; omega) e119, rw7_v (c := 3) (by have a0 := (rng_F hI.1 448 28000 rfl e_30_0); unfold In at a0; have a1 := (rng_F hI.1 0 32 rfl e_32_1); unfold In at a1; have a2 := r_32_0; unfold In at a2; have a3 := i109; unfold In at a3; have a4 := i6; unfold In at a4; have a5 := (t_mulc 7 (Or.inr e6) r_32_0 rfl).1; have a6 := i23; unfold In at a6; have a7 := t_add e23 r_32_0 (in_c 1 rfl) rfl; have a8 := (in_c 1 rfl); unfold In at a8; have a9 := i126; unfold In at a9; have a10 := t_add e126 i6 (in_c 3 rfl) rfl; have a11 := (in_c 3 rfl); unfold In at a11; have a12 := i118; unfold In at a12; have a13 := t_add e118 i6 (in_c 2 rfl) rfl; have a14 := (in_c 2 rfl); unfold In at a14; have a15 := i14; unfold In at a15; have a16 := t_add e14 i6 (in_c 1 rfl) rfl; omega) e127]; exact hr.2.2.2
    refine g_callv (X := _) (As := [.ref (A 32), .int z15, .int z119, .int z127]) (r := []) (b := A 1) (q := 1) 131 (gd rfl) rfl rfl rfl rfl rfl (ww_o rfl) (Nat.le_of_ble_eq_true rfl) (Nat.zero_le _) (Nat.zero_le _) (k_133_1_32 (by omega) hI24 (in_w 0 159 i109 rfl) p128 p128a p128b) (fun e u h => h) (fun v u h => ?_)
    obtain ⟨s128, hI128, hF128, rfl, rfl⟩ := h
    show GG _ _ _ _ _ _ _ _ [] _ _ _
    refine g_goto 148 (gd rfl) rfl ?_
    have hI148 : Inv s128 := by have hFF : Fr fm_131_1_32 s s128 := (fr_tr rfl (fr_sF rfl fr_rf) hF128); exact ⟨hI128, kk_ap32 hI.2 hFF rfl (by rw [hFF.2.2.1 32 4 rfl, ← (show z23 = s128.2.2.1 32 0 from fr_F (s := (sF s 32 0 z23)) (sF_get) hF128 rfl)]; have hg := hI.2.2.1.1; rw [mF_at rfl, mF_at rfl, ← e_32_0] at hg; have a0 := (rng_F hI.1 448 28000 rfl e_30_0); unfold In at a0; have a1 := (rng_F hI.1 0 32 rfl e_32_1); unfold In at a1; have a2 := r_32_0; unfold In at a2; have a3 := i109; unfold In at a3; have a4 := i6; unfold In at a4; have a5 := (t_mulc 7 (Or.inr e6) r_32_0 rfl).1; have a6 := i23; unfold In at a6; have a7 := t_add e23 r_32_0 (in_c 1 rfl) rfl; have a8 := (in_c 1 rfl); unfold In at a8; have a9 := i126; unfold In at a9; have a10 := t_add e126 i6 (in_c 3 rfl) rfl; have a11 := (in_c 3 rfl); unfold In at a11; have a12 := i118; unfold In at a12; have a13 := t_add e118 i6 (in_c 2 rfl) rfl; have a14 := (in_c 2 rfl); unfold In at a14; have a15 := i14; unfold In at a15; have a16 := t_add e14 i6 (in_c 1 rfl) rfl; omega)⟩
    have n148 : KV s128 32 := by have hif : (if (s.1 30 (7 * (s.2.2.1 32 0).toInt.toNat)).toInt = 0 then (1 : Int) else 0) = 0 := if_neg (by rw [← h32]; have a0 := (rng_F hI.1 448 28000 rfl e_30_0); unfold In at a0; have a1 := (rng_F hI.1 0 32 rfl e_32_1); unfold In at a1; have a2 := r_32_0; unfold In at a2; have a3 := i109; unfold In at a3; have a4 := i6; unfold In at a4; have a5 := (t_mulc 7 (Or.inr e6) r_32_0 rfl).1; have a6 := i23; unfold In at a6; have a7 := t_add e23 r_32_0 (in_c 1 rfl) rfl; have a8 := (in_c 1 rfl); unfold In at a8; have a9 := i126; unfold In at a9; have a10 := t_add e126 i6 (in_c 3 rfl) rfl; have a11 := (in_c 3 rfl); unfold In at a11; have a12 := i118; unfold In at a12; have a13 := t_add e118 i6 (in_c 2 rfl) rfl; have a14 := (in_c 2 rfl); unfold In at a14; have a15 := i14; unfold In at a15; have a16 := t_add e14 i6 (in_c 1 rfl) rfl; omega); exact kv_st q_1 (hF128.1 30 rfl) (rng_F hI.1 0 4000 (q := 32) (j := 0) rfl rfl).1 (by rw [← (show z23 = s128.2.2.1 32 0 from fr_F (s := (sF s 32 0 z23)) (sF_get) hF128 rfl), ← e_32_0]; have a0 := (rng_F hI.1 448 28000 rfl e_30_0); unfold In at a0; have a1 := (rng_F hI.1 0 32 rfl e_32_1); unfold In at a1; have a2 := r_32_0; unfold In at a2; have a3 := i109; unfold In at a3; have a4 := i6; unfold In at a4; have a5 := (t_mulc 7 (Or.inr e6) r_32_0 rfl).1; have a6 := i23; unfold In at a6; have a7 := t_add e23 r_32_0 (in_c 1 rfl) rfl; have a8 := (in_c 1 rfl); unfold In at a8; have a9 := i126; unfold In at a9; have a10 := t_add e126 i6 (in_c 3 rfl) rfl; have a11 := (in_c 3 rfl); unfold In at a11; have a12 := i118; unfold In at a12; have a13 := t_add e118 i6 (in_c 2 rfl) rfl; have a14 := (in_c 2 rfl); unfold In at a14; have a15 := i14; unfold In at a15; have a16 := t_add e14 i6 (in_c 1 rfl) rfl; omega) (by rw [hif, ← (show u_32_1 = s128.2.2.1 32 1 from fr_F (s := (sF s 32 0 z23)) (sF_ne rfl (e_32_1)) hF128 rfl), ← e_32_1]; omega) (by rw [← (show u_32_1 = s128.2.2.1 32 1 from fr_F (s := (sF s 32 0 z23)) (sF_ne rfl (e_32_1)) hF128 rfl), e_32_1]; exact (by rw [hF128.1 34 rfl, hF128.1 35 rfl]; exact q_1.2))
    have n148a : (z23).toInt = (u_32_0).toInt + 1 := by have a0 := (rng_F hI.1 448 28000 rfl e_30_0); unfold In at a0; have a1 := (rng_F hI.1 0 32 rfl e_32_1); unfold In at a1; have a2 := r_32_0; unfold In at a2; have a3 := i109; unfold In at a3; have a4 := i6; unfold In at a4; have a5 := (t_mulc 7 (Or.inr e6) r_32_0 rfl).1; have a6 := i23; unfold In at a6; have a7 := t_add e23 r_32_0 (in_c 1 rfl) rfl; have a8 := (in_c 1 rfl); unfold In at a8; have a9 := i126; unfold In at a9; have a10 := t_add e126 i6 (in_c 3 rfl) rfl; have a11 := (in_c 3 rfl); unfold In at a11; have a12 := i118; unfold In at a12; have a13 := t_add e118 i6 (in_c 2 rfl) rfl; have a14 := (in_c 2 rfl); unfold In at a14; have a15 := i14; unfold In at a15; have a16 := t_add e14 i6 (in_c 1 rfl) rfl; omega
    have n148b : (s128.2.2.1 32 0).toInt = (s.2.2.1 32 0).toInt + 1 := by have b0 : z23 = s128.2.2.1 32 0 := fr_F (s := (sF s 32 0 z23)) (sF_get) hF128 rfl; rw [← b0, ← e_32_0]; exact n148a
    exact g_return (gd rfl) rfl (hP _ _ ⟨s128, hI148, (fr_tr rfl (fr_sF rfl fr_rf) hF128), n148b, rfl, rfl, n148⟩)
  · skip
    have h32 : z32 = s.1 30 (7 * (s.2.2.1 32 0).toInt.toNat) := rw7_v (c := 0) (by have a0 := (rng_F hI.1 448 28000 rfl e_30_0); unfold In at a0; have a1 := (rng_F hI.1 0 32 rfl e_32_1); unfold In at a1; have a2 := r_32_0; unfold In at a2; have a3 := i6; unfold In at a3; have a4 := (t_mulc 7 (Or.inr e6) r_32_0 rfl).1; have a5 := i23; unfold In at a5; have a6 := t_add e23 r_32_0 (in_c 1 rfl) rfl; have a7 := (in_c 1 rfl); unfold In at a7; have a8 := i14; unfold In at a8; have a9 := t_add e14 i6 (in_c 1 rfl) rfl; omega) e32
    have hr := rw7_4 q_0 hk e32 c33
    have i134 : In z15 0 31 := by rw [hp]; exact hr.1
    refine g_aload_n 135 (gd rfl) rfl rfl ?_
    refine g_getA (q2 := 33) 138 (gd rfl) rfl rfl rfl rfl ?_
    refine g_iload_n 139 (gd rfl) rfl rfl ?_
    refine g_aload_n 140 (gd rfl) rfl rfl ?_
    refine g_getA (q2 := 30) 143 (gd rfl) rfl rfl rfl rfl ?_
    refine g_iload_n 144 (gd rfl) rfl rfl ?_
    refine g_iconst 2 145 (gd rfl) rfl rfl ?_
    refine g_iadd 146 (gd rfl) rfl (fun z145 e145 => ?_)
    have i145 := in_add 2 27995 e145 i6 (in_c 2 rfl) rfl rfl
    have hx146 : vp_in z145 ((sF s 32 0 z23).2.2.1 30 0).toNatClampNeg := lg_in (by have a0 := (rng_F hI.1 448 28000 rfl e_30_0); unfold In at a0; have a1 := (rng_F hI.1 0 32 rfl e_32_1); unfold In at a1; have a2 := r_32_0; unfold In at a2; have a3 := i134; unfold In at a3; have a4 := i6; unfold In at a4; have a5 := (t_mulc 7 (Or.inr e6) r_32_0 rfl).1; have a6 := i23; unfold In at a6; have a7 := t_add e23 r_32_0 (in_c 1 rfl) rfl; have a8 := (in_c 1 rfl); unfold In at a8; have a9 := i145; unfold In at a9; have a10 := t_add e145 i6 (in_c 2 rfl) rfl; have a11 := (in_c 2 rfl); unfold In at a11; have a12 := i14; unfold In at a12; have a13 := t_add e14 i6 (in_c 1 rfl) rfl; omega) (by rw [← (show u_30_0 = (sF s 32 0 z23).2.2.1 30 0 from sF_ne rfl (e_30_0))]; have a0 := (rng_F hI.1 448 28000 rfl e_30_0); unfold In at a0; have a1 := (rng_F hI.1 0 32 rfl e_32_1); unfold In at a1; have a2 := r_32_0; unfold In at a2; have a3 := i134; unfold In at a3; have a4 := i6; unfold In at a4; have a5 := (t_mulc 7 (Or.inr e6) r_32_0 rfl).1; have a6 := i23; unfold In at a6; have a7 := t_add e23 r_32_0 (in_c 1 rfl) rfl; have a8 := (in_c 1 rfl); unfold In at a8; have a9 := i145; unfold In at a9; have a10 := t_add e145 i6 (in_c 2 rfl) rfl; have a11 := (in_c 2 rfl); unfold In at a11; have a12 := i14; unfold In at a12; have a13 := t_add e14 i6 (in_c 1 rfl) rfl; omega)
    refine g_lgload 147 (gd rfl) rfl hx146 (fun z146 e146 => ?_)
    have i147 : In z146 0 25 := by rw [rw7_v (c := 2) (by have a0 := (rng_F hI.1 448 28000 rfl e_30_0); unfold In at a0; have a1 := (rng_F hI.1 0 32 rfl e_32_1); unfold In at a1; have a2 := r_32_0; unfold In at a2; have a3 := i134; unfold In at a3; have a4 := i6; unfold In at a4; have a5 := (t_mulc 7 (Or.inr e6) r_32_0 rfl).1; have a6 := i23; unfold In at a6; have a7 := t_add e23 r_32_0 (in_c 1 rfl) rfl; have a8 := (in_c 1 rfl); unfold In at a8; have a9 := i145; unfold In at a9; have a10 := t_add e145 i6 (in_c 2 rfl) rfl; have a11 := (in_c 2 rfl); unfold In at a11; have a12 := i14; unfold In at a12; have a13 := t_add e14 i6 (in_c 1 rfl) rfl; omega) e146]; exact hr.2
    refine g_iastore 148 (gd rfl) rfl (n := 32) rfl (in_ix i134 rfl) ?_
    have hI147 := rng_sI (q := 33) (j := z15.toNatClampNeg) hI24 rfl (in_w 0 25 i147 rfl)
    have hI148 : Inv (sI (sF s 32 0 z23) 33 z15.toNatClampNeg z146) := by have hFF : Fr fm_131_1_32 s (sI (sF s 32 0 z23) 33 z15.toNatClampNeg z146) := (fr_sI rfl (fr_sF rfl fr_rf)); exact ⟨hI147, kk_ap32 hI.2 hFF rfl (by rw [hFF.2.2.1 32 4 rfl, ← (show z23 = (sI (sF s 32 0 z23) 33 z15.toNatClampNeg z146).2.2.1 32 0 from sI_F (sF_get))]; have hg := hI.2.2.1.1; rw [mF_at rfl, mF_at rfl, ← e_32_0] at hg; have a0 := (rng_F hI.1 448 28000 rfl e_30_0); unfold In at a0; have a1 := (rng_F hI.1 0 32 rfl e_32_1); unfold In at a1; have a2 := r_32_0; unfold In at a2; have a3 := i134; unfold In at a3; have a4 := i6; unfold In at a4; have a5 := (t_mulc 7 (Or.inr e6) r_32_0 rfl).1; have a6 := i23; unfold In at a6; have a7 := t_add e23 r_32_0 (in_c 1 rfl) rfl; have a8 := (in_c 1 rfl); unfold In at a8; have a9 := i145; unfold In at a9; have a10 := t_add e145 i6 (in_c 2 rfl) rfl; have a11 := (in_c 2 rfl); unfold In at a11; have a12 := i14; unfold In at a12; have a13 := t_add e14 i6 (in_c 1 rfl) rfl; omega)⟩
    have n148 : KV (sI (sF s 32 0 z23) 33 z15.toNatClampNeg z146) 32 := by have hif : (if (s.1 30 (7 * (s.2.2.1 32 0).toInt.toNat)).toInt = 0 then (1 : Int) else 0) = 0 := if_neg (by rw [← h32]; have a0 := (rng_F hI.1 448 28000 rfl e_30_0); unfold In at a0; have a1 := (rng_F hI.1 0 32 rfl e_32_1); unfold In at a1; have a2 := r_32_0; unfold In at a2; have a3 := i134; unfold In at a3; have a4 := i6; unfold In at a4; have a5 := (t_mulc 7 (Or.inr e6) r_32_0 rfl).1; have a6 := i23; unfold In at a6; have a7 := t_add e23 r_32_0 (in_c 1 rfl) rfl; have a8 := (in_c 1 rfl); unfold In at a8; have a9 := i145; unfold In at a9; have a10 := t_add e145 i6 (in_c 2 rfl) rfl; have a11 := (in_c 2 rfl); unfold In at a11; have a12 := i14; unfold In at a12; have a13 := t_add e14 i6 (in_c 1 rfl) rfl; omega); exact kv_st q_1 rfl (rng_F hI.1 0 4000 (q := 32) (j := 0) rfl rfl).1 (by rw [← (show z23 = (sI (sF s 32 0 z23) 33 z15.toNatClampNeg z146).2.2.1 32 0 from sI_F (sF_get)), ← e_32_0]; have a0 := (rng_F hI.1 448 28000 rfl e_30_0); unfold In at a0; have a1 := (rng_F hI.1 0 32 rfl e_32_1); unfold In at a1; have a2 := r_32_0; unfold In at a2; have a3 := i134; unfold In at a3; have a4 := i6; unfold In at a4; have a5 := (t_mulc 7 (Or.inr e6) r_32_0 rfl).1; have a6 := i23; unfold In at a6; have a7 := t_add e23 r_32_0 (in_c 1 rfl) rfl; have a8 := (in_c 1 rfl); unfold In at a8; have a9 := i145; unfold In at a9; have a10 := t_add e145 i6 (in_c 2 rfl) rfl; have a11 := (in_c 2 rfl); unfold In at a11; have a12 := i14; unfold In at a12; have a13 := t_add e14 i6 (in_c 1 rfl) rfl; omega) (by rw [hif, ← (show u_32_1 = (sI (sF s 32 0 z23) 33 z15.toNatClampNeg z146).2.2.1 32 1 from sI_F (sF_ne rfl (e_32_1))), ← e_32_1]; omega) (by rw [← (show u_32_1 = (sI (sF s 32 0 z23) 33 z15.toNatClampNeg z146).2.2.1 32 1 from sI_F (sF_ne rfl (e_32_1))), e_32_1]; exact q_1.2)
    have n148a : (z23).toInt = (u_32_0).toInt + 1 := by have a0 := (rng_F hI.1 448 28000 rfl e_30_0); unfold In at a0; have a1 := (rng_F hI.1 0 32 rfl e_32_1); unfold In at a1; have a2 := r_32_0; unfold In at a2; have a3 := i134; unfold In at a3; have a4 := i6; unfold In at a4; have a5 := (t_mulc 7 (Or.inr e6) r_32_0 rfl).1; have a6 := i23; unfold In at a6; have a7 := t_add e23 r_32_0 (in_c 1 rfl) rfl; have a8 := (in_c 1 rfl); unfold In at a8; have a9 := i145; unfold In at a9; have a10 := t_add e145 i6 (in_c 2 rfl) rfl; have a11 := (in_c 2 rfl); unfold In at a11; have a12 := i14; unfold In at a12; have a13 := t_add e14 i6 (in_c 1 rfl) rfl; omega
    have n148b : ((sI (sF s 32 0 z23) 33 z15.toNatClampNeg z146).2.2.1 32 0).toInt = (s.2.2.1 32 0).toInt + 1 := by have b0 : z23 = (sI (sF s 32 0 z23) 33 z15.toNatClampNeg z146).2.2.1 32 0 := sI_F (sF_get); rw [← b0, ← e_32_0]; exact n148a
    exact g_return (gd rfl) rfl (hP _ _ ⟨(sI (sF s 32 0 z23) 33 z15.toNatClampNeg z146), hI148, (fr_sI rfl (fr_sF rfl fr_rf)), n148b, rfl, rfl, n148⟩)

def fm_171_46 : FM := ([], [], [(46, 2), (46, 3), (46, 4), (46, 5)], [])
/-- GraphHouse$Script.next -/
theorem k_171_46 {Z : AmZ} {A : Nat → Nat} {s : GS} {ex : va_W} {d : Nat} {X : AmX} {x1 : Int32} {x2 : Int32} {u_46_2 : Int32} {u_46_1 : Int32} (hd : 7 ≤ d) (hI : Inv s) (h1 : In x1 6 7) (h2 : In x2 0 1) (e_46_2 : u_46_2 = s.2.2.1 46 2) (e_46_1 : u_46_1 = s.2.2.1 46 1) (p_0 : (u_46_2).toInt ≤ (u_46_1).toInt) : GC Z d 171 [.ref (A 46), .int x1, .int x2] (WW Z A s ++ ex) 0 0 (fun v u => ∃ t : GS, Inv t ∧ Fr fm_171_46 s t ∧ ((t.2.2.1 46 2).toInt ≤ (t.2.2.1 46 1).toInt) ∧ ((t.2.2.1 46 3).toInt = 0 ∨ (t.2.2.1 46 4).toInt + 1 ≤ (t.2.2.1 46 2).toInt) ∧ ((t.2.2.1 46 4).toInt ≤ (t.2.2.1 46 2).toInt) ∧ ((s.2.2.1 46 2).toInt ≤ (t.2.2.1 46 4).toInt) ∧ v = none ∧ u = WW Z A t ++ ex ∧ ((x1).toInt = 6 → (t.2.2.1 46 3).toInt = 2 → (t.2.2.1 46 5).toInt ≤ 999999)) X := by
  intro post xp hP hX
  have ro_46_1 := inv_F hI 0 1000 rfl e_46_1
  have ct123 : ∀ (sc123 : GS) (y123_3 : Int32) (y123_4 : Int32) (w123_46_2 : Int32) (w123_46_4 : Int32), Inv sc123 → Fr fm_171_46 s sc123 → (In y123_3 0 65535) → (In y123_4 0 1) → (w123_46_2 = sc123.2.2.1 46 2) → (w123_46_4 = sc123.2.2.1 46 4) → ((w123_46_2).toInt + 1 ≤ (u_46_1).toInt) → ((w123_46_4).toInt = (w123_46_2).toInt) → ((u_46_2).toInt ≤ (w123_46_2).toInt) → GG Z (d - 1) 171 post (gx xp) (901) 123 (fun j => xlook j [(0, .ref (A 46)), (1, .int x1), (2, .int x2), (3, .int y123_3), (4, .int y123_4)]) [] (WW Z A sc123 ++ ex) 0 0 := by
    intro sc123 y123_3 y123_4 w123_46_2 w123_46_4 hIc123 hFc123 j123_3 j123_4 v123_46_2 v123_46_4 n123_0 n123_1 n123_2
    refine g_aload_n 124 (gd rfl) rfl rfl ?_
    refine g_dup 125 (gd rfl) rfl rfl ?_
    refine g_getI 128 (gd rfl) rfl rfl rfl (fun z125 e125 => ?_)
    have q125 : w123_46_2 = z125 := (v123_46_2).trans e125.symm
    subst q125
    refine g_iconst 1 129 (gd rfl) rfl rfl ?_
    refine g_iadd 130 (gd rfl) rfl (fun z129 e129 => ?_)
    have i129 := in_add 1 1001 e129 (inv_F hIc123 0 1000 rfl v123_46_2) (in_c 1 rfl) rfl rfl
    have i130 : In z129 0 1000 := by have a0 := h2; unfold In at a0; have a1 := h1; unfold In at a1; have a2 := ro_46_1; unfold In at a2; have a3 := (inv_F hIc123 0 1000 rfl v123_46_4); unfold In at a3; have a4 := (inv_F hIc123 0 1000 rfl v123_46_2); unfold In at a4; have a5 := j123_4; unfold In at a5; have a6 := j123_3; unfold In at a6; have a7 := i129; unfold In at a7; have a8 := t_add e129 (inv_F hIc123 0 1000 rfl v123_46_2) (in_c 1 rfl) rfl; have a9 := (in_c 1 rfl); unfold In at a9; exact ⟨by omega, by omega⟩
    refine g_putI 133 (gd rfl) rfl rfl rfl rfl ?_
    have hI130 := inv_sF (q := 46) (j := 2) hIc123 rfl (in_w 0 1000 i130 rfl)
    refine g_iload_n 134 (gd rfl) rfl rfl ?_
    refine g_bipush 97 136 (gd rfl) rfl rfl ?_
    refine g_cmp_lt 139 159 (gd rfl) rfl rfl (fun c136 => ?_) (fun c136 => ?_)
    · skip
      have i136 := r_lt1 0 96 c136 j123_3 (in_c 97 rfl) rfl
      refine g_aload_n 160 (gd rfl) rfl rfl ?_
      refine g_iload_n 161 (gd rfl) rfl rfl ?_
      refine g_iload_n 162 (gd rfl) rfl rfl ?_
      refine g_calls (As := [.int y123_3, .int x2]) (r := [.ref (A 46)]) 165 (gd rfl) rfl rfl rfl rfl rfl (Nat.le_of_ble_eq_true rfl) (mc := 0) (ms := 0) (Nat.zero_le _) (Nat.zero_le _) (P := fun v u => _) ?_ (fun v u h => h)
      intro po162 xx162 hp162 hx162
      refine g_enter2 (k := 174) (N := 300) (by omega) rfl (Nat.le_of_ble_eq_true rfl) ?_
      refine g_iload_n 1 (gd rfl) rfl rfl ?_
      refine g_bipush 59 3 (gd rfl) rfl rfl ?_
      refine g_cmp_eq 6 19 (gd rfl) rfl rfl (fun c162x3 => ?_) (fun c162x3 => ?_)
      · skip
        have i162x3 := r_eq1 59 59 c162x3 i136 (in_c 59 rfl) rfl
        refine g_iconst 1 20 (gd rfl) rfl rfl ?_
        refine g_goto 24 (gd rfl) rfl ?_
        refine g_ireturn (gd rfl) rfl (nb01 (in_w 0 1 (in_c 1 rfl) rfl)) (hp162 _ _ ?_)
        show GG _ _ _ _ _ _ _ _ [.int (Int32.ofInt 1), .ref (A 46)] _ _ _
        refine g_if_eq 168 172 (gd rfl) rfl rfl (fun c165 => ?_) (fun c165 => ?_)
        · skip
          exact zn_eq c165 (in_c 1 rfl) rfl
        · skip
          refine g_iconst 3 169 (gd rfl) rfl rfl ?_
          refine g_goto 173 (gd rfl) rfl ?_
          refine g_putI 176 (gd rfl) rfl rfl rfl rfl ?_
          have hI173 := inv_sF (q := 46) (j := 3) hI130 rfl (in_w 0 5 (in_c 3 rfl) rfl)
          refine g_aload_n 177 (gd rfl) rfl rfl ?_
          refine g_iload_n 178 (gd rfl) rfl rfl ?_
          refine g_putI 181 (gd rfl) rfl rfl rfl rfl ?_
          have hI178 := inv_sF (q := 46) (j := 5) hI173 rfl (in_w (-2147483648) 2147483647 i162x3 rfl)
          have n181 : (x1).toInt = 6 → ((sF (sF (sF sc123 46 2 z129) 46 3 (Int32.ofInt 3)) 46 5 y123_3).2.2.1 46 3).toInt = 2 → ((sF (sF (sF sc123 46 2 z129) 46 3 (Int32.ofInt 3)) 46 5 y123_3).2.2.1 46 5).toInt ≤ 999999 := by intro _ h2; rw [← (show (Int32.ofInt 3) = (sF (sF (sF sc123 46 2 z129) 46 3 (Int32.ofInt 3)) 46 5 y123_3).2.2.1 46 3 from sF_ne rfl (sF_get))] at h2; exact absurd h2 (by decide)
          have n181a : (z129).toInt ≤ (u_46_1).toInt := by have a0 := h2; unfold In at a0; have a1 := h1; unfold In at a1; have a2 := ro_46_1; unfold In at a2; have a3 := (inv_F hIc123 0 1000 rfl v123_46_4); unfold In at a3; have a4 := (inv_F hIc123 0 1000 rfl v123_46_2); unfold In at a4; have a5 := j123_4; unfold In at a5; have a6 := i162x3; unfold In at a6; have a7 := (in_c 3 rfl); unfold In at a7; have a8 := i130; unfold In at a8; have a9 := t_add e129 (inv_F hIc123 0 1000 rfl v123_46_2) (in_c 1 rfl) rfl; have a10 := (in_c 1 rfl); unfold In at a10; omega
          have n181b : ((sF (sF (sF sc123 46 2 z129) 46 3 (Int32.ofInt 3)) 46 5 y123_3).2.2.1 46 2).toInt ≤ ((sF (sF (sF sc123 46 2 z129) 46 3 (Int32.ofInt 3)) 46 5 y123_3).2.2.1 46 1).toInt := by have b0 : z129 = (sF (sF (sF sc123 46 2 z129) 46 3 (Int32.ofInt 3)) 46 5 y123_3).2.2.1 46 2 := sF_ne rfl (sF_ne rfl (sF_get)); have b1 : u_46_1 = (sF (sF (sF sc123 46 2 z129) 46 3 (Int32.ofInt 3)) 46 5 y123_3).2.2.1 46 1 := sF_ne rfl (sF_ne rfl (sF_ne rfl (fr_F e_46_1 hFc123 rfl))); rw [← b0, ← b1]; exact n181a
          have n181c : ((Int32.ofInt 3)).toInt = 0 ∨ (w123_46_4).toInt + 1 ≤ (z129).toInt := by have a0 := h2; unfold In at a0; have a1 := h1; unfold In at a1; have a2 := ro_46_1; unfold In at a2; have a3 := (inv_F hIc123 0 1000 rfl v123_46_4); unfold In at a3; have a4 := (inv_F hIc123 0 1000 rfl v123_46_2); unfold In at a4; have a5 := j123_4; unfold In at a5; have a6 := i162x3; unfold In at a6; have a7 := (in_c 3 rfl); unfold In at a7; have a8 := i130; unfold In at a8; have a9 := t_add e129 (inv_F hIc123 0 1000 rfl v123_46_2) (in_c 1 rfl) rfl; have a10 := (in_c 1 rfl); unfold In at a10; omega
          have n181d : ((sF (sF (sF sc123 46 2 z129) 46 3 (Int32.ofInt 3)) 46 5 y123_3).2.2.1 46 3).toInt = 0 ∨ ((sF (sF (sF sc123 46 2 z129) 46 3 (Int32.ofInt 3)) 46 5 y123_3).2.2.1 46 4).toInt + 1 ≤ ((sF (sF (sF sc123 46 2 z129) 46 3 (Int32.ofInt 3)) 46 5 y123_3).2.2.1 46 2).toInt := by have b0 : (Int32.ofInt 3) = (sF (sF (sF sc123 46 2 z129) 46 3 (Int32.ofInt 3)) 46 5 y123_3).2.2.1 46 3 := sF_ne rfl (sF_get); have b1 : w123_46_4 = (sF (sF (sF sc123 46 2 z129) 46 3 (Int32.ofInt 3)) 46 5 y123_3).2.2.1 46 4 := sF_ne rfl (sF_ne rfl (sF_ne rfl (v123_46_4))); have b2 : z129 = (sF (sF (sF sc123 46 2 z129) 46 3 (Int32.ofInt 3)) 46 5 y123_3).2.2.1 46 2 := sF_ne rfl (sF_ne rfl (sF_get)); rw [← b0, ← b1, ← b2]; exact n181c
          have n181e : (w123_46_4).toInt ≤ (z129).toInt := by have a0 := h2; unfold In at a0; have a1 := h1; unfold In at a1; have a2 := ro_46_1; unfold In at a2; have a3 := (inv_F hIc123 0 1000 rfl v123_46_4); unfold In at a3; have a4 := (inv_F hIc123 0 1000 rfl v123_46_2); unfold In at a4; have a5 := j123_4; unfold In at a5; have a6 := i162x3; unfold In at a6; have a7 := (in_c 3 rfl); unfold In at a7; have a8 := i130; unfold In at a8; have a9 := t_add e129 (inv_F hIc123 0 1000 rfl v123_46_2) (in_c 1 rfl) rfl; have a10 := (in_c 1 rfl); unfold In at a10; omega
          have n181f : ((sF (sF (sF sc123 46 2 z129) 46 3 (Int32.ofInt 3)) 46 5 y123_3).2.2.1 46 4).toInt ≤ ((sF (sF (sF sc123 46 2 z129) 46 3 (Int32.ofInt 3)) 46 5 y123_3).2.2.1 46 2).toInt := by have b0 : w123_46_4 = (sF (sF (sF sc123 46 2 z129) 46 3 (Int32.ofInt 3)) 46 5 y123_3).2.2.1 46 4 := sF_ne rfl (sF_ne rfl (sF_ne rfl (v123_46_4))); have b1 : z129 = (sF (sF (sF sc123 46 2 z129) 46 3 (Int32.ofInt 3)) 46 5 y123_3).2.2.1 46 2 := sF_ne rfl (sF_ne rfl (sF_get)); rw [← b0, ← b1]; exact n181e
          have n181g : (u_46_2).toInt ≤ (w123_46_4).toInt := by have a0 := h2; unfold In at a0; have a1 := h1; unfold In at a1; have a2 := ro_46_1; unfold In at a2; have a3 := (inv_F hIc123 0 1000 rfl v123_46_4); unfold In at a3; have a4 := (inv_F hIc123 0 1000 rfl v123_46_2); unfold In at a4; have a5 := j123_4; unfold In at a5; have a6 := i162x3; unfold In at a6; have a7 := (in_c 3 rfl); unfold In at a7; have a8 := i130; unfold In at a8; have a9 := t_add e129 (inv_F hIc123 0 1000 rfl v123_46_2) (in_c 1 rfl) rfl; have a10 := (in_c 1 rfl); unfold In at a10; omega
          have n181h : (s.2.2.1 46 2).toInt ≤ ((sF (sF (sF sc123 46 2 z129) 46 3 (Int32.ofInt 3)) 46 5 y123_3).2.2.1 46 4).toInt := by have b0 : w123_46_4 = (sF (sF (sF sc123 46 2 z129) 46 3 (Int32.ofInt 3)) 46 5 y123_3).2.2.1 46 4 := sF_ne rfl (sF_ne rfl (sF_ne rfl (v123_46_4))); rw [← b0, ← e_46_2]; exact n181g
          exact g_return (gd rfl) rfl (hP _ _ ⟨(sF (sF (sF sc123 46 2 z129) 46 3 (Int32.ofInt 3)) 46 5 y123_3), hI178, (fr_sF rfl (fr_sF rfl (fr_sF rfl hFc123))), n181b, n181d, n181f, n181h, rfl, rfl, n181⟩)
      · skip
        refine g_iload_n 7 (gd rfl) rfl rfl ?_
        refine g_if_ne 10 23 (gd rfl) rfl rfl (fun c162x7 => ?_) (fun c162x7 => ?_)
        · skip
          have i162x7 := z_ne 1 1 c162x7 h2 rfl
          refine g_iconst 0 24 (gd rfl) rfl rfl ?_
          refine g_ireturn (gd rfl) rfl (nb01 (in_w 0 1 (in_c 0 rfl) rfl)) (hp162 _ _ ?_)
          show GG _ _ _ _ _ _ _ _ [.int (Int32.ofInt 0), .ref (A 46)] _ _ _
          refine g_if_eq 168 172 (gd rfl) rfl rfl (fun c165 => ?_) (fun c165 => ?_)
          · skip
            refine g_iconst 4 173 (gd rfl) rfl rfl ?_
            refine g_putI 176 (gd rfl) rfl rfl rfl rfl ?_
            have hI173 := inv_sF (q := 46) (j := 3) hI130 rfl (in_w 0 5 (in_c 4 rfl) rfl)
            refine g_aload_n 177 (gd rfl) rfl rfl ?_
            refine g_iload_n 178 (gd rfl) rfl rfl ?_
            refine g_putI 181 (gd rfl) rfl rfl rfl rfl ?_
            have hI178 := inv_sF (q := 46) (j := 5) hI173 rfl (in_w (-2147483648) 2147483647 i136 rfl)
            have n181 : (x1).toInt = 6 → ((sF (sF (sF sc123 46 2 z129) 46 3 (Int32.ofInt 4)) 46 5 y123_3).2.2.1 46 3).toInt = 2 → ((sF (sF (sF sc123 46 2 z129) 46 3 (Int32.ofInt 4)) 46 5 y123_3).2.2.1 46 5).toInt ≤ 999999 := by intro _ h2; rw [← (show (Int32.ofInt 4) = (sF (sF (sF sc123 46 2 z129) 46 3 (Int32.ofInt 4)) 46 5 y123_3).2.2.1 46 3 from sF_ne rfl (sF_get))] at h2; exact absurd h2 (by decide)
            have n181a : (z129).toInt ≤ (u_46_1).toInt := by have a0 := i162x7; unfold In at a0; have a1 := h1; unfold In at a1; have a2 := ro_46_1; unfold In at a2; have a3 := (inv_F hIc123 0 1000 rfl v123_46_4); unfold In at a3; have a4 := (inv_F hIc123 0 1000 rfl v123_46_2); unfold In at a4; have a5 := j123_4; unfold In at a5; have a6 := i136; unfold In at a6; have a7 := (in_c 4 rfl); unfold In at a7; have a8 := i130; unfold In at a8; have a9 := t_add e129 (inv_F hIc123 0 1000 rfl v123_46_2) (in_c 1 rfl) rfl; have a10 := (in_c 1 rfl); unfold In at a10; omega
            have n181b : ((sF (sF (sF sc123 46 2 z129) 46 3 (Int32.ofInt 4)) 46 5 y123_3).2.2.1 46 2).toInt ≤ ((sF (sF (sF sc123 46 2 z129) 46 3 (Int32.ofInt 4)) 46 5 y123_3).2.2.1 46 1).toInt := by have b0 : z129 = (sF (sF (sF sc123 46 2 z129) 46 3 (Int32.ofInt 4)) 46 5 y123_3).2.2.1 46 2 := sF_ne rfl (sF_ne rfl (sF_get)); have b1 : u_46_1 = (sF (sF (sF sc123 46 2 z129) 46 3 (Int32.ofInt 4)) 46 5 y123_3).2.2.1 46 1 := sF_ne rfl (sF_ne rfl (sF_ne rfl (fr_F e_46_1 hFc123 rfl))); rw [← b0, ← b1]; exact n181a
            have n181c : ((Int32.ofInt 4)).toInt = 0 ∨ (w123_46_4).toInt + 1 ≤ (z129).toInt := by have a0 := i162x7; unfold In at a0; have a1 := h1; unfold In at a1; have a2 := ro_46_1; unfold In at a2; have a3 := (inv_F hIc123 0 1000 rfl v123_46_4); unfold In at a3; have a4 := (inv_F hIc123 0 1000 rfl v123_46_2); unfold In at a4; have a5 := j123_4; unfold In at a5; have a6 := i136; unfold In at a6; have a7 := (in_c 4 rfl); unfold In at a7; have a8 := i130; unfold In at a8; have a9 := t_add e129 (inv_F hIc123 0 1000 rfl v123_46_2) (in_c 1 rfl) rfl; have a10 := (in_c 1 rfl); unfold In at a10; omega
            have n181d : ((sF (sF (sF sc123 46 2 z129) 46 3 (Int32.ofInt 4)) 46 5 y123_3).2.2.1 46 3).toInt = 0 ∨ ((sF (sF (sF sc123 46 2 z129) 46 3 (Int32.ofInt 4)) 46 5 y123_3).2.2.1 46 4).toInt + 1 ≤ ((sF (sF (sF sc123 46 2 z129) 46 3 (Int32.ofInt 4)) 46 5 y123_3).2.2.1 46 2).toInt := by have b0 : (Int32.ofInt 4) = (sF (sF (sF sc123 46 2 z129) 46 3 (Int32.ofInt 4)) 46 5 y123_3).2.2.1 46 3 := sF_ne rfl (sF_get); have b1 : w123_46_4 = (sF (sF (sF sc123 46 2 z129) 46 3 (Int32.ofInt 4)) 46 5 y123_3).2.2.1 46 4 := sF_ne rfl (sF_ne rfl (sF_ne rfl (v123_46_4))); have b2 : z129 = (sF (sF (sF sc123 46 2 z129) 46 3 (Int32.ofInt 4)) 46 5 y123_3).2.2.1 46 2 := sF_ne rfl (sF_ne rfl (sF_get)); rw [← b0, ← b1, ← b2]; exact n181c
            have n181e : (w123_46_4).toInt ≤ (z129).toInt := by have a0 := i162x7; unfold In at a0; have a1 := h1; unfold In at a1; have a2 := ro_46_1; unfold In at a2; have a3 := (inv_F hIc123 0 1000 rfl v123_46_4); unfold In at a3; have a4 := (inv_F hIc123 0 1000 rfl v123_46_2); unfold In at a4; have a5 := j123_4; unfold In at a5; have a6 := i136; unfold In at a6; have a7 := (in_c 4 rfl); unfold In at a7; have a8 := i130; unfold In at a8; have a9 := t_add e129 (inv_F hIc123 0 1000 rfl v123_46_2) (in_c 1 rfl) rfl; have a10 := (in_c 1 rfl); unfold In at a10; omega
            have n181f : ((sF (sF (sF sc123 46 2 z129) 46 3 (Int32.ofInt 4)) 46 5 y123_3).2.2.1 46 4).toInt ≤ ((sF (sF (sF sc123 46 2 z129) 46 3 (Int32.ofInt 4)) 46 5 y123_3).2.2.1 46 2).toInt := by have b0 : w123_46_4 = (sF (sF (sF sc123 46 2 z129) 46 3 (Int32.ofInt 4)) 46 5 y123_3).2.2.1 46 4 := sF_ne rfl (sF_ne rfl (sF_ne rfl (v123_46_4))); have b1 : z129 = (sF (sF (sF sc123 46 2 z129) 46 3 (Int32.ofInt 4)) 46 5 y123_3).2.2.1 46 2 := sF_ne rfl (sF_ne rfl (sF_get)); rw [← b0, ← b1]; exact n181e
            have n181g : (u_46_2).toInt ≤ (w123_46_4).toInt := by have a0 := i162x7; unfold In at a0; have a1 := h1; unfold In at a1; have a2 := ro_46_1; unfold In at a2; have a3 := (inv_F hIc123 0 1000 rfl v123_46_4); unfold In at a3; have a4 := (inv_F hIc123 0 1000 rfl v123_46_2); unfold In at a4; have a5 := j123_4; unfold In at a5; have a6 := i136; unfold In at a6; have a7 := (in_c 4 rfl); unfold In at a7; have a8 := i130; unfold In at a8; have a9 := t_add e129 (inv_F hIc123 0 1000 rfl v123_46_2) (in_c 1 rfl) rfl; have a10 := (in_c 1 rfl); unfold In at a10; omega
            have n181h : (s.2.2.1 46 2).toInt ≤ ((sF (sF (sF sc123 46 2 z129) 46 3 (Int32.ofInt 4)) 46 5 y123_3).2.2.1 46 4).toInt := by have b0 : w123_46_4 = (sF (sF (sF sc123 46 2 z129) 46 3 (Int32.ofInt 4)) 46 5 y123_3).2.2.1 46 4 := sF_ne rfl (sF_ne rfl (sF_ne rfl (v123_46_4))); rw [← b0, ← e_46_2]; exact n181g
            exact g_return (gd rfl) rfl (hP _ _ ⟨(sF (sF (sF sc123 46 2 z129) 46 3 (Int32.ofInt 4)) 46 5 y123_3), hI178, (fr_sF rfl (fr_sF rfl (fr_sF rfl hFc123))), n181b, n181d, n181f, n181h, rfl, rfl, n181⟩)
          · skip
            exact zn_ne c165 (in_c 0 rfl) rfl
        · skip
          have i162x7 := z_eq 0 0 c162x7 h2 rfl
          refine g_ldcs 0 12 (gd rfl) rfl rfl ?_
          refine g_iload_n 13 (gd rfl) rfl rfl ?_
          have i162x13 : In (Int32.ofInt 0) 0 6 := in_w 0 6 (in_c 0 rfl) rfl
          refine g_callS (X := _) (As := [.int y123_3]) (r := []) (x := (Int32.ofInt 0)) 16 (gd rfl) rfl rfl rfl zm_430 rfl rfl rfl i162x13 (Nat.le_of_ble_eq_true rfl) (k_430 i162x13 (by omega)) (fun e u h => h) (fun v u h => ?_)
          obtain ⟨z162x13, rfl, rfl, p162x13⟩ := h
          have i162x13a : In z162x13 (-1) 8 := by have a := zn_9 i162x13; unfold In at p162x13; exact ⟨by omega, by omega⟩
          show GG _ _ _ _ _ _ _ _ [.int z162x13] _ _ _
          refine g_if_lt 19 23 (gd rfl) rfl rfl (fun c162x16 => ?_) (fun c162x16 => ?_)
          · skip
            have i162x16 := z_lt (-1) (-1) c162x16 i162x13a rfl
            refine g_iconst 0 24 (gd rfl) rfl rfl ?_
            refine g_ireturn (gd rfl) rfl (nb01 (in_w 0 1 (in_c 0 rfl) rfl)) (hp162 _ _ ?_)
            show GG _ _ _ _ _ _ _ _ [.int (Int32.ofInt 0), .ref (A 46)] _ _ _
            refine g_if_eq 168 172 (gd rfl) rfl rfl (fun c165 => ?_) (fun c165 => ?_)
            · skip
              refine g_iconst 4 173 (gd rfl) rfl rfl ?_
              refine g_putI 176 (gd rfl) rfl rfl rfl rfl ?_
              have hI173 := inv_sF (q := 46) (j := 3) hI130 rfl (in_w 0 5 (in_c 4 rfl) rfl)
              refine g_aload_n 177 (gd rfl) rfl rfl ?_
              refine g_iload_n 178 (gd rfl) rfl rfl ?_
              refine g_putI 181 (gd rfl) rfl rfl rfl rfl ?_
              have hI178 := inv_sF (q := 46) (j := 5) hI173 rfl (in_w (-2147483648) 2147483647 i136 rfl)
              have n181 : (x1).toInt = 6 → ((sF (sF (sF sc123 46 2 z129) 46 3 (Int32.ofInt 4)) 46 5 y123_3).2.2.1 46 3).toInt = 2 → ((sF (sF (sF sc123 46 2 z129) 46 3 (Int32.ofInt 4)) 46 5 y123_3).2.2.1 46 5).toInt ≤ 999999 := by intro _ h2; rw [← (show (Int32.ofInt 4) = (sF (sF (sF sc123 46 2 z129) 46 3 (Int32.ofInt 4)) 46 5 y123_3).2.2.1 46 3 from sF_ne rfl (sF_get))] at h2; exact absurd h2 (by decide)
              have n181a : (z129).toInt ≤ (u_46_1).toInt := by have a0 := i162x7; unfold In at a0; have a1 := h1; unfold In at a1; have a2 := ro_46_1; unfold In at a2; have a3 := (inv_F hIc123 0 1000 rfl v123_46_4); unfold In at a3; have a4 := (inv_F hIc123 0 1000 rfl v123_46_2); unfold In at a4; have a5 := j123_4; unfold In at a5; have a6 := i136; unfold In at a6; have a7 := (in_c 4 rfl); unfold In at a7; have a8 := i130; unfold In at a8; have a9 := t_add e129 (inv_F hIc123 0 1000 rfl v123_46_2) (in_c 1 rfl) rfl; have a10 := (in_c 1 rfl); unfold In at a10; omega
              have n181b : ((sF (sF (sF sc123 46 2 z129) 46 3 (Int32.ofInt 4)) 46 5 y123_3).2.2.1 46 2).toInt ≤ ((sF (sF (sF sc123 46 2 z129) 46 3 (Int32.ofInt 4)) 46 5 y123_3).2.2.1 46 1).toInt := by have b0 : z129 = (sF (sF (sF sc123 46 2 z129) 46 3 (Int32.ofInt 4)) 46 5 y123_3).2.2.1 46 2 := sF_ne rfl (sF_ne rfl (sF_get)); have b1 : u_46_1 = (sF (sF (sF sc123 46 2 z129) 46 3 (Int32.ofInt 4)) 46 5 y123_3).2.2.1 46 1 := sF_ne rfl (sF_ne rfl (sF_ne rfl (fr_F e_46_1 hFc123 rfl))); rw [← b0, ← b1]; exact n181a
              have n181c : ((Int32.ofInt 4)).toInt = 0 ∨ (w123_46_4).toInt + 1 ≤ (z129).toInt := by have a0 := i162x7; unfold In at a0; have a1 := h1; unfold In at a1; have a2 := ro_46_1; unfold In at a2; have a3 := (inv_F hIc123 0 1000 rfl v123_46_4); unfold In at a3; have a4 := (inv_F hIc123 0 1000 rfl v123_46_2); unfold In at a4; have a5 := j123_4; unfold In at a5; have a6 := i136; unfold In at a6; have a7 := (in_c 4 rfl); unfold In at a7; have a8 := i130; unfold In at a8; have a9 := t_add e129 (inv_F hIc123 0 1000 rfl v123_46_2) (in_c 1 rfl) rfl; have a10 := (in_c 1 rfl); unfold In at a10; omega
              have n181d : ((sF (sF (sF sc123 46 2 z129) 46 3 (Int32.ofInt 4)) 46 5 y123_3).2.2.1 46 3).toInt = 0 ∨ ((sF (sF (sF sc123 46 2 z129) 46 3 (Int32.ofInt 4)) 46 5 y123_3).2.2.1 46 4).toInt + 1 ≤ ((sF (sF (sF sc123 46 2 z129) 46 3 (Int32.ofInt 4)) 46 5 y123_3).2.2.1 46 2).toInt := by have b0 : (Int32.ofInt 4) = (sF (sF (sF sc123 46 2 z129) 46 3 (Int32.ofInt 4)) 46 5 y123_3).2.2.1 46 3 := sF_ne rfl (sF_get); have b1 : w123_46_4 = (sF (sF (sF sc123 46 2 z129) 46 3 (Int32.ofInt 4)) 46 5 y123_3).2.2.1 46 4 := sF_ne rfl (sF_ne rfl (sF_ne rfl (v123_46_4))); have b2 : z129 = (sF (sF (sF sc123 46 2 z129) 46 3 (Int32.ofInt 4)) 46 5 y123_3).2.2.1 46 2 := sF_ne rfl (sF_ne rfl (sF_get)); rw [← b0, ← b1, ← b2]; exact n181c
              have n181e : (w123_46_4).toInt ≤ (z129).toInt := by have a0 := i162x7; unfold In at a0; have a1 := h1; unfold In at a1; have a2 := ro_46_1; unfold In at a2; have a3 := (inv_F hIc123 0 1000 rfl v123_46_4); unfold In at a3; have a4 := (inv_F hIc123 0 1000 rfl v123_46_2); unfold In at a4; have a5 := j123_4; unfold In at a5; have a6 := i136; unfold In at a6; have a7 := (in_c 4 rfl); unfold In at a7; have a8 := i130; unfold In at a8; have a9 := t_add e129 (inv_F hIc123 0 1000 rfl v123_46_2) (in_c 1 rfl) rfl; have a10 := (in_c 1 rfl); unfold In at a10; omega
              have n181f : ((sF (sF (sF sc123 46 2 z129) 46 3 (Int32.ofInt 4)) 46 5 y123_3).2.2.1 46 4).toInt ≤ ((sF (sF (sF sc123 46 2 z129) 46 3 (Int32.ofInt 4)) 46 5 y123_3).2.2.1 46 2).toInt := by have b0 : w123_46_4 = (sF (sF (sF sc123 46 2 z129) 46 3 (Int32.ofInt 4)) 46 5 y123_3).2.2.1 46 4 := sF_ne rfl (sF_ne rfl (sF_ne rfl (v123_46_4))); have b1 : z129 = (sF (sF (sF sc123 46 2 z129) 46 3 (Int32.ofInt 4)) 46 5 y123_3).2.2.1 46 2 := sF_ne rfl (sF_ne rfl (sF_get)); rw [← b0, ← b1]; exact n181e
              have n181g : (u_46_2).toInt ≤ (w123_46_4).toInt := by have a0 := i162x7; unfold In at a0; have a1 := h1; unfold In at a1; have a2 := ro_46_1; unfold In at a2; have a3 := (inv_F hIc123 0 1000 rfl v123_46_4); unfold In at a3; have a4 := (inv_F hIc123 0 1000 rfl v123_46_2); unfold In at a4; have a5 := j123_4; unfold In at a5; have a6 := i136; unfold In at a6; have a7 := (in_c 4 rfl); unfold In at a7; have a8 := i130; unfold In at a8; have a9 := t_add e129 (inv_F hIc123 0 1000 rfl v123_46_2) (in_c 1 rfl) rfl; have a10 := (in_c 1 rfl); unfold In at a10; omega
              have n181h : (s.2.2.1 46 2).toInt ≤ ((sF (sF (sF sc123 46 2 z129) 46 3 (Int32.ofInt 4)) 46 5 y123_3).2.2.1 46 4).toInt := by have b0 : w123_46_4 = (sF (sF (sF sc123 46 2 z129) 46 3 (Int32.ofInt 4)) 46 5 y123_3).2.2.1 46 4 := sF_ne rfl (sF_ne rfl (sF_ne rfl (v123_46_4))); rw [← b0, ← e_46_2]; exact n181g
              exact g_return (gd rfl) rfl (hP _ _ ⟨(sF (sF (sF sc123 46 2 z129) 46 3 (Int32.ofInt 4)) 46 5 y123_3), hI178, (fr_sF rfl (fr_sF rfl (fr_sF rfl hFc123))), n181b, n181d, n181f, n181h, rfl, rfl, n181⟩)
            · skip
              exact zn_ne c165 (in_c 0 rfl) rfl
          · skip
            have i162x16 := z_ge 0 8 c162x16 i162x13a rfl
            refine g_iconst 1 20 (gd rfl) rfl rfl ?_
            refine g_goto 24 (gd rfl) rfl ?_
            refine g_ireturn (gd rfl) rfl (nb01 (in_w 0 1 (in_c 1 rfl) rfl)) (hp162 _ _ ?_)
            show GG _ _ _ _ _ _ _ _ [.int (Int32.ofInt 1), .ref (A 46)] _ _ _
            refine g_if_eq 168 172 (gd rfl) rfl rfl (fun c165 => ?_) (fun c165 => ?_)
            · skip
              exact zn_eq c165 (in_c 1 rfl) rfl
            · skip
              refine g_iconst 3 169 (gd rfl) rfl rfl ?_
              refine g_goto 173 (gd rfl) rfl ?_
              refine g_putI 176 (gd rfl) rfl rfl rfl rfl ?_
              have hI173 := inv_sF (q := 46) (j := 3) hI130 rfl (in_w 0 5 (in_c 3 rfl) rfl)
              refine g_aload_n 177 (gd rfl) rfl rfl ?_
              refine g_iload_n 178 (gd rfl) rfl rfl ?_
              refine g_putI 181 (gd rfl) rfl rfl rfl rfl ?_
              have hI178 := inv_sF (q := 46) (j := 5) hI173 rfl (in_w (-2147483648) 2147483647 i136 rfl)
              have n181 : (x1).toInt = 6 → ((sF (sF (sF sc123 46 2 z129) 46 3 (Int32.ofInt 3)) 46 5 y123_3).2.2.1 46 3).toInt = 2 → ((sF (sF (sF sc123 46 2 z129) 46 3 (Int32.ofInt 3)) 46 5 y123_3).2.2.1 46 5).toInt ≤ 999999 := by intro _ h2; rw [← (show (Int32.ofInt 3) = (sF (sF (sF sc123 46 2 z129) 46 3 (Int32.ofInt 3)) 46 5 y123_3).2.2.1 46 3 from sF_ne rfl (sF_get))] at h2; exact absurd h2 (by decide)
              have n181a : (z129).toInt ≤ (u_46_1).toInt := by have a0 := i162x7; unfold In at a0; have a1 := h1; unfold In at a1; have a2 := ro_46_1; unfold In at a2; have a3 := (inv_F hIc123 0 1000 rfl v123_46_4); unfold In at a3; have a4 := (inv_F hIc123 0 1000 rfl v123_46_2); unfold In at a4; have a5 := j123_4; unfold In at a5; have a6 := i136; unfold In at a6; have a7 := (in_c 3 rfl); unfold In at a7; have a8 := i130; unfold In at a8; have a9 := t_add e129 (inv_F hIc123 0 1000 rfl v123_46_2) (in_c 1 rfl) rfl; have a10 := (in_c 1 rfl); unfold In at a10; omega
              have n181b : ((sF (sF (sF sc123 46 2 z129) 46 3 (Int32.ofInt 3)) 46 5 y123_3).2.2.1 46 2).toInt ≤ ((sF (sF (sF sc123 46 2 z129) 46 3 (Int32.ofInt 3)) 46 5 y123_3).2.2.1 46 1).toInt := by have b0 : z129 = (sF (sF (sF sc123 46 2 z129) 46 3 (Int32.ofInt 3)) 46 5 y123_3).2.2.1 46 2 := sF_ne rfl (sF_ne rfl (sF_get)); have b1 : u_46_1 = (sF (sF (sF sc123 46 2 z129) 46 3 (Int32.ofInt 3)) 46 5 y123_3).2.2.1 46 1 := sF_ne rfl (sF_ne rfl (sF_ne rfl (fr_F e_46_1 hFc123 rfl))); rw [← b0, ← b1]; exact n181a
              have n181c : ((Int32.ofInt 3)).toInt = 0 ∨ (w123_46_4).toInt + 1 ≤ (z129).toInt := by have a0 := i162x7; unfold In at a0; have a1 := h1; unfold In at a1; have a2 := ro_46_1; unfold In at a2; have a3 := (inv_F hIc123 0 1000 rfl v123_46_4); unfold In at a3; have a4 := (inv_F hIc123 0 1000 rfl v123_46_2); unfold In at a4; have a5 := j123_4; unfold In at a5; have a6 := i136; unfold In at a6; have a7 := (in_c 3 rfl); unfold In at a7; have a8 := i130; unfold In at a8; have a9 := t_add e129 (inv_F hIc123 0 1000 rfl v123_46_2) (in_c 1 rfl) rfl; have a10 := (in_c 1 rfl); unfold In at a10; omega
              have n181d : ((sF (sF (sF sc123 46 2 z129) 46 3 (Int32.ofInt 3)) 46 5 y123_3).2.2.1 46 3).toInt = 0 ∨ ((sF (sF (sF sc123 46 2 z129) 46 3 (Int32.ofInt 3)) 46 5 y123_3).2.2.1 46 4).toInt + 1 ≤ ((sF (sF (sF sc123 46 2 z129) 46 3 (Int32.ofInt 3)) 46 5 y123_3).2.2.1 46 2).toInt := by have b0 : (Int32.ofInt 3) = (sF (sF (sF sc123 46 2 z129) 46 3 (Int32.ofInt 3)) 46 5 y123_3).2.2.1 46 3 := sF_ne rfl (sF_get); have b1 : w123_46_4 = (sF (sF (sF sc123 46 2 z129) 46 3 (Int32.ofInt 3)) 46 5 y123_3).2.2.1 46 4 := sF_ne rfl (sF_ne rfl (sF_ne rfl (v123_46_4))); have b2 : z129 = (sF (sF (sF sc123 46 2 z129) 46 3 (Int32.ofInt 3)) 46 5 y123_3).2.2.1 46 2 := sF_ne rfl (sF_ne rfl (sF_get)); rw [← b0, ← b1, ← b2]; exact n181c
              have n181e : (w123_46_4).toInt ≤ (z129).toInt := by have a0 := i162x7; unfold In at a0; have a1 := h1; unfold In at a1; have a2 := ro_46_1; unfold In at a2; have a3 := (inv_F hIc123 0 1000 rfl v123_46_4); unfold In at a3; have a4 := (inv_F hIc123 0 1000 rfl v123_46_2); unfold In at a4; have a5 := j123_4; unfold In at a5; have a6 := i136; unfold In at a6; have a7 := (in_c 3 rfl); unfold In at a7; have a8 := i130; unfold In at a8; have a9 := t_add e129 (inv_F hIc123 0 1000 rfl v123_46_2) (in_c 1 rfl) rfl; have a10 := (in_c 1 rfl); unfold In at a10; omega
              have n181f : ((sF (sF (sF sc123 46 2 z129) 46 3 (Int32.ofInt 3)) 46 5 y123_3).2.2.1 46 4).toInt ≤ ((sF (sF (sF sc123 46 2 z129) 46 3 (Int32.ofInt 3)) 46 5 y123_3).2.2.1 46 2).toInt := by have b0 : w123_46_4 = (sF (sF (sF sc123 46 2 z129) 46 3 (Int32.ofInt 3)) 46 5 y123_3).2.2.1 46 4 := sF_ne rfl (sF_ne rfl (sF_ne rfl (v123_46_4))); have b1 : z129 = (sF (sF (sF sc123 46 2 z129) 46 3 (Int32.ofInt 3)) 46 5 y123_3).2.2.1 46 2 := sF_ne rfl (sF_ne rfl (sF_get)); rw [← b0, ← b1]; exact n181e
              have n181g : (u_46_2).toInt ≤ (w123_46_4).toInt := by have a0 := i162x7; unfold In at a0; have a1 := h1; unfold In at a1; have a2 := ro_46_1; unfold In at a2; have a3 := (inv_F hIc123 0 1000 rfl v123_46_4); unfold In at a3; have a4 := (inv_F hIc123 0 1000 rfl v123_46_2); unfold In at a4; have a5 := j123_4; unfold In at a5; have a6 := i136; unfold In at a6; have a7 := (in_c 3 rfl); unfold In at a7; have a8 := i130; unfold In at a8; have a9 := t_add e129 (inv_F hIc123 0 1000 rfl v123_46_2) (in_c 1 rfl) rfl; have a10 := (in_c 1 rfl); unfold In at a10; omega
              have n181h : (s.2.2.1 46 2).toInt ≤ ((sF (sF (sF sc123 46 2 z129) 46 3 (Int32.ofInt 3)) 46 5 y123_3).2.2.1 46 4).toInt := by have b0 : w123_46_4 = (sF (sF (sF sc123 46 2 z129) 46 3 (Int32.ofInt 3)) 46 5 y123_3).2.2.1 46 4 := sF_ne rfl (sF_ne rfl (sF_ne rfl (v123_46_4))); rw [← b0, ← e_46_2]; exact n181g
              exact g_return (gd rfl) rfl (hP _ _ ⟨(sF (sF (sF sc123 46 2 z129) 46 3 (Int32.ofInt 3)) 46 5 y123_3), hI178, (fr_sF rfl (fr_sF rfl (fr_sF rfl hFc123))), n181b, n181d, n181f, n181h, rfl, rfl, n181⟩)
    · skip
      have i136 := r_le2 97 65535 c136 (in_c 97 rfl) j123_3 rfl
      refine g_iload_n 140 (gd rfl) rfl rfl ?_
      refine g_bipush 122 142 (gd rfl) rfl rfl ?_
      refine g_cmp_gt 145 159 (gd rfl) rfl rfl (fun c142 => ?_) (fun c142 => ?_)
      · skip
        have i142 := r_lt2 123 65535 c142 (in_c 122 rfl) i136 rfl
        refine g_aload_n 160 (gd rfl) rfl rfl ?_
        refine g_iload_n 161 (gd rfl) rfl rfl ?_
        refine g_iload_n 162 (gd rfl) rfl rfl ?_
        refine g_calls (As := [.int y123_3, .int x2]) (r := [.ref (A 46)]) 165 (gd rfl) rfl rfl rfl rfl rfl (Nat.le_of_ble_eq_true rfl) (mc := 0) (ms := 0) (Nat.zero_le _) (Nat.zero_le _) (P := fun v u => _) ?_ (fun v u h => h)
        intro po162 xx162 hp162 hx162
        refine g_enter2 (k := 174) (N := 300) (by omega) rfl (Nat.le_of_ble_eq_true rfl) ?_
        refine g_iload_n 1 (gd rfl) rfl rfl ?_
        refine g_bipush 59 3 (gd rfl) rfl rfl ?_
        refine g_cmp_eq 6 19 (gd rfl) rfl rfl (fun c162x3 => ?_) (fun c162x3 => ?_)
        · skip
          exact n_eq c162x3 i142 (in_c 59 rfl) rfl
        · skip
          refine g_iload_n 7 (gd rfl) rfl rfl ?_
          refine g_if_ne 10 23 (gd rfl) rfl rfl (fun c162x7 => ?_) (fun c162x7 => ?_)
          · skip
            have i162x7 := z_ne 1 1 c162x7 h2 rfl
            refine g_iconst 0 24 (gd rfl) rfl rfl ?_
            refine g_ireturn (gd rfl) rfl (nb01 (in_w 0 1 (in_c 0 rfl) rfl)) (hp162 _ _ ?_)
            show GG _ _ _ _ _ _ _ _ [.int (Int32.ofInt 0), .ref (A 46)] _ _ _
            refine g_if_eq 168 172 (gd rfl) rfl rfl (fun c165 => ?_) (fun c165 => ?_)
            · skip
              refine g_iconst 4 173 (gd rfl) rfl rfl ?_
              refine g_putI 176 (gd rfl) rfl rfl rfl rfl ?_
              have hI173 := inv_sF (q := 46) (j := 3) hI130 rfl (in_w 0 5 (in_c 4 rfl) rfl)
              refine g_aload_n 177 (gd rfl) rfl rfl ?_
              refine g_iload_n 178 (gd rfl) rfl rfl ?_
              refine g_putI 181 (gd rfl) rfl rfl rfl rfl ?_
              have hI178 := inv_sF (q := 46) (j := 5) hI173 rfl (in_w (-2147483648) 2147483647 i142 rfl)
              have n181 : (x1).toInt = 6 → ((sF (sF (sF sc123 46 2 z129) 46 3 (Int32.ofInt 4)) 46 5 y123_3).2.2.1 46 3).toInt = 2 → ((sF (sF (sF sc123 46 2 z129) 46 3 (Int32.ofInt 4)) 46 5 y123_3).2.2.1 46 5).toInt ≤ 999999 := by intro _ h2; rw [← (show (Int32.ofInt 4) = (sF (sF (sF sc123 46 2 z129) 46 3 (Int32.ofInt 4)) 46 5 y123_3).2.2.1 46 3 from sF_ne rfl (sF_get))] at h2; exact absurd h2 (by decide)
              have n181a : (z129).toInt ≤ (u_46_1).toInt := by have a0 := i162x7; unfold In at a0; have a1 := h1; unfold In at a1; have a2 := ro_46_1; unfold In at a2; have a3 := (inv_F hIc123 0 1000 rfl v123_46_4); unfold In at a3; have a4 := (inv_F hIc123 0 1000 rfl v123_46_2); unfold In at a4; have a5 := j123_4; unfold In at a5; have a6 := i142; unfold In at a6; have a7 := (in_c 4 rfl); unfold In at a7; have a8 := i130; unfold In at a8; have a9 := t_add e129 (inv_F hIc123 0 1000 rfl v123_46_2) (in_c 1 rfl) rfl; have a10 := (in_c 1 rfl); unfold In at a10; omega
              have n181b : ((sF (sF (sF sc123 46 2 z129) 46 3 (Int32.ofInt 4)) 46 5 y123_3).2.2.1 46 2).toInt ≤ ((sF (sF (sF sc123 46 2 z129) 46 3 (Int32.ofInt 4)) 46 5 y123_3).2.2.1 46 1).toInt := by have b0 : z129 = (sF (sF (sF sc123 46 2 z129) 46 3 (Int32.ofInt 4)) 46 5 y123_3).2.2.1 46 2 := sF_ne rfl (sF_ne rfl (sF_get)); have b1 : u_46_1 = (sF (sF (sF sc123 46 2 z129) 46 3 (Int32.ofInt 4)) 46 5 y123_3).2.2.1 46 1 := sF_ne rfl (sF_ne rfl (sF_ne rfl (fr_F e_46_1 hFc123 rfl))); rw [← b0, ← b1]; exact n181a
              have n181c : ((Int32.ofInt 4)).toInt = 0 ∨ (w123_46_4).toInt + 1 ≤ (z129).toInt := by have a0 := i162x7; unfold In at a0; have a1 := h1; unfold In at a1; have a2 := ro_46_1; unfold In at a2; have a3 := (inv_F hIc123 0 1000 rfl v123_46_4); unfold In at a3; have a4 := (inv_F hIc123 0 1000 rfl v123_46_2); unfold In at a4; have a5 := j123_4; unfold In at a5; have a6 := i142; unfold In at a6; have a7 := (in_c 4 rfl); unfold In at a7; have a8 := i130; unfold In at a8; have a9 := t_add e129 (inv_F hIc123 0 1000 rfl v123_46_2) (in_c 1 rfl) rfl; have a10 := (in_c 1 rfl); unfold In at a10; omega
              have n181d : ((sF (sF (sF sc123 46 2 z129) 46 3 (Int32.ofInt 4)) 46 5 y123_3).2.2.1 46 3).toInt = 0 ∨ ((sF (sF (sF sc123 46 2 z129) 46 3 (Int32.ofInt 4)) 46 5 y123_3).2.2.1 46 4).toInt + 1 ≤ ((sF (sF (sF sc123 46 2 z129) 46 3 (Int32.ofInt 4)) 46 5 y123_3).2.2.1 46 2).toInt := by have b0 : (Int32.ofInt 4) = (sF (sF (sF sc123 46 2 z129) 46 3 (Int32.ofInt 4)) 46 5 y123_3).2.2.1 46 3 := sF_ne rfl (sF_get); have b1 : w123_46_4 = (sF (sF (sF sc123 46 2 z129) 46 3 (Int32.ofInt 4)) 46 5 y123_3).2.2.1 46 4 := sF_ne rfl (sF_ne rfl (sF_ne rfl (v123_46_4))); have b2 : z129 = (sF (sF (sF sc123 46 2 z129) 46 3 (Int32.ofInt 4)) 46 5 y123_3).2.2.1 46 2 := sF_ne rfl (sF_ne rfl (sF_get)); rw [← b0, ← b1, ← b2]; exact n181c
              have n181e : (w123_46_4).toInt ≤ (z129).toInt := by have a0 := i162x7; unfold In at a0; have a1 := h1; unfold In at a1; have a2 := ro_46_1; unfold In at a2; have a3 := (inv_F hIc123 0 1000 rfl v123_46_4); unfold In at a3; have a4 := (inv_F hIc123 0 1000 rfl v123_46_2); unfold In at a4; have a5 := j123_4; unfold In at a5; have a6 := i142; unfold In at a6; have a7 := (in_c 4 rfl); unfold In at a7; have a8 := i130; unfold In at a8; have a9 := t_add e129 (inv_F hIc123 0 1000 rfl v123_46_2) (in_c 1 rfl) rfl; have a10 := (in_c 1 rfl); unfold In at a10; omega
              have n181f : ((sF (sF (sF sc123 46 2 z129) 46 3 (Int32.ofInt 4)) 46 5 y123_3).2.2.1 46 4).toInt ≤ ((sF (sF (sF sc123 46 2 z129) 46 3 (Int32.ofInt 4)) 46 5 y123_3).2.2.1 46 2).toInt := by have b0 : w123_46_4 = (sF (sF (sF sc123 46 2 z129) 46 3 (Int32.ofInt 4)) 46 5 y123_3).2.2.1 46 4 := sF_ne rfl (sF_ne rfl (sF_ne rfl (v123_46_4))); have b1 : z129 = (sF (sF (sF sc123 46 2 z129) 46 3 (Int32.ofInt 4)) 46 5 y123_3).2.2.1 46 2 := sF_ne rfl (sF_ne rfl (sF_get)); rw [← b0, ← b1]; exact n181e
              have n181g : (u_46_2).toInt ≤ (w123_46_4).toInt := by have a0 := i162x7; unfold In at a0; have a1 := h1; unfold In at a1; have a2 := ro_46_1; unfold In at a2; have a3 := (inv_F hIc123 0 1000 rfl v123_46_4); unfold In at a3; have a4 := (inv_F hIc123 0 1000 rfl v123_46_2); unfold In at a4; have a5 := j123_4; unfold In at a5; have a6 := i142; unfold In at a6; have a7 := (in_c 4 rfl); unfold In at a7; have a8 := i130; unfold In at a8; have a9 := t_add e129 (inv_F hIc123 0 1000 rfl v123_46_2) (in_c 1 rfl) rfl; have a10 := (in_c 1 rfl); unfold In at a10; omega
              have n181h : (s.2.2.1 46 2).toInt ≤ ((sF (sF (sF sc123 46 2 z129) 46 3 (Int32.ofInt 4)) 46 5 y123_3).2.2.1 46 4).toInt := by have b0 : w123_46_4 = (sF (sF (sF sc123 46 2 z129) 46 3 (Int32.ofInt 4)) 46 5 y123_3).2.2.1 46 4 := sF_ne rfl (sF_ne rfl (sF_ne rfl (v123_46_4))); rw [← b0, ← e_46_2]; exact n181g
              exact g_return (gd rfl) rfl (hP _ _ ⟨(sF (sF (sF sc123 46 2 z129) 46 3 (Int32.ofInt 4)) 46 5 y123_3), hI178, (fr_sF rfl (fr_sF rfl (fr_sF rfl hFc123))), n181b, n181d, n181f, n181h, rfl, rfl, n181⟩)
            · skip
              exact zn_ne c165 (in_c 0 rfl) rfl
          · skip
            have i162x7 := z_eq 0 0 c162x7 h2 rfl
            refine g_ldcs 0 12 (gd rfl) rfl rfl ?_
            refine g_iload_n 13 (gd rfl) rfl rfl ?_
            have i162x13 : In (Int32.ofInt 0) 0 6 := in_w 0 6 (in_c 0 rfl) rfl
            refine g_callS (X := _) (As := [.int y123_3]) (r := []) (x := (Int32.ofInt 0)) 16 (gd rfl) rfl rfl rfl zm_430 rfl rfl rfl i162x13 (Nat.le_of_ble_eq_true rfl) (k_430 i162x13 (by omega)) (fun e u h => h) (fun v u h => ?_)
            obtain ⟨z162x13, rfl, rfl, p162x13⟩ := h
            have i162x13a : In z162x13 (-1) 8 := by have a := zn_9 i162x13; unfold In at p162x13; exact ⟨by omega, by omega⟩
            show GG _ _ _ _ _ _ _ _ [.int z162x13] _ _ _
            refine g_if_lt 19 23 (gd rfl) rfl rfl (fun c162x16 => ?_) (fun c162x16 => ?_)
            · skip
              have i162x16 := z_lt (-1) (-1) c162x16 i162x13a rfl
              refine g_iconst 0 24 (gd rfl) rfl rfl ?_
              refine g_ireturn (gd rfl) rfl (nb01 (in_w 0 1 (in_c 0 rfl) rfl)) (hp162 _ _ ?_)
              show GG _ _ _ _ _ _ _ _ [.int (Int32.ofInt 0), .ref (A 46)] _ _ _
              refine g_if_eq 168 172 (gd rfl) rfl rfl (fun c165 => ?_) (fun c165 => ?_)
              · skip
                refine g_iconst 4 173 (gd rfl) rfl rfl ?_
                refine g_putI 176 (gd rfl) rfl rfl rfl rfl ?_
                have hI173 := inv_sF (q := 46) (j := 3) hI130 rfl (in_w 0 5 (in_c 4 rfl) rfl)
                refine g_aload_n 177 (gd rfl) rfl rfl ?_
                refine g_iload_n 178 (gd rfl) rfl rfl ?_
                refine g_putI 181 (gd rfl) rfl rfl rfl rfl ?_
                have hI178 := inv_sF (q := 46) (j := 5) hI173 rfl (in_w (-2147483648) 2147483647 i142 rfl)
                have n181 : (x1).toInt = 6 → ((sF (sF (sF sc123 46 2 z129) 46 3 (Int32.ofInt 4)) 46 5 y123_3).2.2.1 46 3).toInt = 2 → ((sF (sF (sF sc123 46 2 z129) 46 3 (Int32.ofInt 4)) 46 5 y123_3).2.2.1 46 5).toInt ≤ 999999 := by intro _ h2; rw [← (show (Int32.ofInt 4) = (sF (sF (sF sc123 46 2 z129) 46 3 (Int32.ofInt 4)) 46 5 y123_3).2.2.1 46 3 from sF_ne rfl (sF_get))] at h2; exact absurd h2 (by decide)
                have n181a : (z129).toInt ≤ (u_46_1).toInt := by have a0 := i162x7; unfold In at a0; have a1 := h1; unfold In at a1; have a2 := ro_46_1; unfold In at a2; have a3 := (inv_F hIc123 0 1000 rfl v123_46_4); unfold In at a3; have a4 := (inv_F hIc123 0 1000 rfl v123_46_2); unfold In at a4; have a5 := j123_4; unfold In at a5; have a6 := i142; unfold In at a6; have a7 := (in_c 4 rfl); unfold In at a7; have a8 := i130; unfold In at a8; have a9 := t_add e129 (inv_F hIc123 0 1000 rfl v123_46_2) (in_c 1 rfl) rfl; have a10 := (in_c 1 rfl); unfold In at a10; omega
                have n181b : ((sF (sF (sF sc123 46 2 z129) 46 3 (Int32.ofInt 4)) 46 5 y123_3).2.2.1 46 2).toInt ≤ ((sF (sF (sF sc123 46 2 z129) 46 3 (Int32.ofInt 4)) 46 5 y123_3).2.2.1 46 1).toInt := by have b0 : z129 = (sF (sF (sF sc123 46 2 z129) 46 3 (Int32.ofInt 4)) 46 5 y123_3).2.2.1 46 2 := sF_ne rfl (sF_ne rfl (sF_get)); have b1 : u_46_1 = (sF (sF (sF sc123 46 2 z129) 46 3 (Int32.ofInt 4)) 46 5 y123_3).2.2.1 46 1 := sF_ne rfl (sF_ne rfl (sF_ne rfl (fr_F e_46_1 hFc123 rfl))); rw [← b0, ← b1]; exact n181a
                have n181c : ((Int32.ofInt 4)).toInt = 0 ∨ (w123_46_4).toInt + 1 ≤ (z129).toInt := by have a0 := i162x7; unfold In at a0; have a1 := h1; unfold In at a1; have a2 := ro_46_1; unfold In at a2; have a3 := (inv_F hIc123 0 1000 rfl v123_46_4); unfold In at a3; have a4 := (inv_F hIc123 0 1000 rfl v123_46_2); unfold In at a4; have a5 := j123_4; unfold In at a5; have a6 := i142; unfold In at a6; have a7 := (in_c 4 rfl); unfold In at a7; have a8 := i130; unfold In at a8; have a9 := t_add e129 (inv_F hIc123 0 1000 rfl v123_46_2) (in_c 1 rfl) rfl; have a10 := (in_c 1 rfl); unfold In at a10; omega
                have n181d : ((sF (sF (sF sc123 46 2 z129) 46 3 (Int32.ofInt 4)) 46 5 y123_3).2.2.1 46 3).toInt = 0 ∨ ((sF (sF (sF sc123 46 2 z129) 46 3 (Int32.ofInt 4)) 46 5 y123_3).2.2.1 46 4).toInt + 1 ≤ ((sF (sF (sF sc123 46 2 z129) 46 3 (Int32.ofInt 4)) 46 5 y123_3).2.2.1 46 2).toInt := by have b0 : (Int32.ofInt 4) = (sF (sF (sF sc123 46 2 z129) 46 3 (Int32.ofInt 4)) 46 5 y123_3).2.2.1 46 3 := sF_ne rfl (sF_get); have b1 : w123_46_4 = (sF (sF (sF sc123 46 2 z129) 46 3 (Int32.ofInt 4)) 46 5 y123_3).2.2.1 46 4 := sF_ne rfl (sF_ne rfl (sF_ne rfl (v123_46_4))); have b2 : z129 = (sF (sF (sF sc123 46 2 z129) 46 3 (Int32.ofInt 4)) 46 5 y123_3).2.2.1 46 2 := sF_ne rfl (sF_ne rfl (sF_get)); rw [← b0, ← b1, ← b2]; exact n181c
                have n181e : (w123_46_4).toInt ≤ (z129).toInt := by have a0 := i162x7; unfold In at a0; have a1 := h1; unfold In at a1; have a2 := ro_46_1; unfold In at a2; have a3 := (inv_F hIc123 0 1000 rfl v123_46_4); unfold In at a3; have a4 := (inv_F hIc123 0 1000 rfl v123_46_2); unfold In at a4; have a5 := j123_4; unfold In at a5; have a6 := i142; unfold In at a6; have a7 := (in_c 4 rfl); unfold In at a7; have a8 := i130; unfold In at a8; have a9 := t_add e129 (inv_F hIc123 0 1000 rfl v123_46_2) (in_c 1 rfl) rfl; have a10 := (in_c 1 rfl); unfold In at a10; omega
                have n181f : ((sF (sF (sF sc123 46 2 z129) 46 3 (Int32.ofInt 4)) 46 5 y123_3).2.2.1 46 4).toInt ≤ ((sF (sF (sF sc123 46 2 z129) 46 3 (Int32.ofInt 4)) 46 5 y123_3).2.2.1 46 2).toInt := by have b0 : w123_46_4 = (sF (sF (sF sc123 46 2 z129) 46 3 (Int32.ofInt 4)) 46 5 y123_3).2.2.1 46 4 := sF_ne rfl (sF_ne rfl (sF_ne rfl (v123_46_4))); have b1 : z129 = (sF (sF (sF sc123 46 2 z129) 46 3 (Int32.ofInt 4)) 46 5 y123_3).2.2.1 46 2 := sF_ne rfl (sF_ne rfl (sF_get)); rw [← b0, ← b1]; exact n181e
                have n181g : (u_46_2).toInt ≤ (w123_46_4).toInt := by have a0 := i162x7; unfold In at a0; have a1 := h1; unfold In at a1; have a2 := ro_46_1; unfold In at a2; have a3 := (inv_F hIc123 0 1000 rfl v123_46_4); unfold In at a3; have a4 := (inv_F hIc123 0 1000 rfl v123_46_2); unfold In at a4; have a5 := j123_4; unfold In at a5; have a6 := i142; unfold In at a6; have a7 := (in_c 4 rfl); unfold In at a7; have a8 := i130; unfold In at a8; have a9 := t_add e129 (inv_F hIc123 0 1000 rfl v123_46_2) (in_c 1 rfl) rfl; have a10 := (in_c 1 rfl); unfold In at a10; omega
                have n181h : (s.2.2.1 46 2).toInt ≤ ((sF (sF (sF sc123 46 2 z129) 46 3 (Int32.ofInt 4)) 46 5 y123_3).2.2.1 46 4).toInt := by have b0 : w123_46_4 = (sF (sF (sF sc123 46 2 z129) 46 3 (Int32.ofInt 4)) 46 5 y123_3).2.2.1 46 4 := sF_ne rfl (sF_ne rfl (sF_ne rfl (v123_46_4))); rw [← b0, ← e_46_2]; exact n181g
                exact g_return (gd rfl) rfl (hP _ _ ⟨(sF (sF (sF sc123 46 2 z129) 46 3 (Int32.ofInt 4)) 46 5 y123_3), hI178, (fr_sF rfl (fr_sF rfl (fr_sF rfl hFc123))), n181b, n181d, n181f, n181h, rfl, rfl, n181⟩)
              · skip
                exact zn_ne c165 (in_c 0 rfl) rfl
            · skip
              have i162x16 := z_ge 0 8 c162x16 i162x13a rfl
              refine g_iconst 1 20 (gd rfl) rfl rfl ?_
              refine g_goto 24 (gd rfl) rfl ?_
              refine g_ireturn (gd rfl) rfl (nb01 (in_w 0 1 (in_c 1 rfl) rfl)) (hp162 _ _ ?_)
              show GG _ _ _ _ _ _ _ _ [.int (Int32.ofInt 1), .ref (A 46)] _ _ _
              refine g_if_eq 168 172 (gd rfl) rfl rfl (fun c165 => ?_) (fun c165 => ?_)
              · skip
                exact zn_eq c165 (in_c 1 rfl) rfl
              · skip
                refine g_iconst 3 169 (gd rfl) rfl rfl ?_
                refine g_goto 173 (gd rfl) rfl ?_
                refine g_putI 176 (gd rfl) rfl rfl rfl rfl ?_
                have hI173 := inv_sF (q := 46) (j := 3) hI130 rfl (in_w 0 5 (in_c 3 rfl) rfl)
                refine g_aload_n 177 (gd rfl) rfl rfl ?_
                refine g_iload_n 178 (gd rfl) rfl rfl ?_
                refine g_putI 181 (gd rfl) rfl rfl rfl rfl ?_
                have hI178 := inv_sF (q := 46) (j := 5) hI173 rfl (in_w (-2147483648) 2147483647 i142 rfl)
                have n181 : (x1).toInt = 6 → ((sF (sF (sF sc123 46 2 z129) 46 3 (Int32.ofInt 3)) 46 5 y123_3).2.2.1 46 3).toInt = 2 → ((sF (sF (sF sc123 46 2 z129) 46 3 (Int32.ofInt 3)) 46 5 y123_3).2.2.1 46 5).toInt ≤ 999999 := by intro _ h2; rw [← (show (Int32.ofInt 3) = (sF (sF (sF sc123 46 2 z129) 46 3 (Int32.ofInt 3)) 46 5 y123_3).2.2.1 46 3 from sF_ne rfl (sF_get))] at h2; exact absurd h2 (by decide)
                have n181a : (z129).toInt ≤ (u_46_1).toInt := by have a0 := i162x7; unfold In at a0; have a1 := h1; unfold In at a1; have a2 := ro_46_1; unfold In at a2; have a3 := (inv_F hIc123 0 1000 rfl v123_46_4); unfold In at a3; have a4 := (inv_F hIc123 0 1000 rfl v123_46_2); unfold In at a4; have a5 := j123_4; unfold In at a5; have a6 := i142; unfold In at a6; have a7 := (in_c 3 rfl); unfold In at a7; have a8 := i130; unfold In at a8; have a9 := t_add e129 (inv_F hIc123 0 1000 rfl v123_46_2) (in_c 1 rfl) rfl; have a10 := (in_c 1 rfl); unfold In at a10; omega
                have n181b : ((sF (sF (sF sc123 46 2 z129) 46 3 (Int32.ofInt 3)) 46 5 y123_3).2.2.1 46 2).toInt ≤ ((sF (sF (sF sc123 46 2 z129) 46 3 (Int32.ofInt 3)) 46 5 y123_3).2.2.1 46 1).toInt := by have b0 : z129 = (sF (sF (sF sc123 46 2 z129) 46 3 (Int32.ofInt 3)) 46 5 y123_3).2.2.1 46 2 := sF_ne rfl (sF_ne rfl (sF_get)); have b1 : u_46_1 = (sF (sF (sF sc123 46 2 z129) 46 3 (Int32.ofInt 3)) 46 5 y123_3).2.2.1 46 1 := sF_ne rfl (sF_ne rfl (sF_ne rfl (fr_F e_46_1 hFc123 rfl))); rw [← b0, ← b1]; exact n181a
                have n181c : ((Int32.ofInt 3)).toInt = 0 ∨ (w123_46_4).toInt + 1 ≤ (z129).toInt := by have a0 := i162x7; unfold In at a0; have a1 := h1; unfold In at a1; have a2 := ro_46_1; unfold In at a2; have a3 := (inv_F hIc123 0 1000 rfl v123_46_4); unfold In at a3; have a4 := (inv_F hIc123 0 1000 rfl v123_46_2); unfold In at a4; have a5 := j123_4; unfold In at a5; have a6 := i142; unfold In at a6; have a7 := (in_c 3 rfl); unfold In at a7; have a8 := i130; unfold In at a8; have a9 := t_add e129 (inv_F hIc123 0 1000 rfl v123_46_2) (in_c 1 rfl) rfl; have a10 := (in_c 1 rfl); unfold In at a10; omega
                have n181d : ((sF (sF (sF sc123 46 2 z129) 46 3 (Int32.ofInt 3)) 46 5 y123_3).2.2.1 46 3).toInt = 0 ∨ ((sF (sF (sF sc123 46 2 z129) 46 3 (Int32.ofInt 3)) 46 5 y123_3).2.2.1 46 4).toInt + 1 ≤ ((sF (sF (sF sc123 46 2 z129) 46 3 (Int32.ofInt 3)) 46 5 y123_3).2.2.1 46 2).toInt := by have b0 : (Int32.ofInt 3) = (sF (sF (sF sc123 46 2 z129) 46 3 (Int32.ofInt 3)) 46 5 y123_3).2.2.1 46 3 := sF_ne rfl (sF_get); have b1 : w123_46_4 = (sF (sF (sF sc123 46 2 z129) 46 3 (Int32.ofInt 3)) 46 5 y123_3).2.2.1 46 4 := sF_ne rfl (sF_ne rfl (sF_ne rfl (v123_46_4))); have b2 : z129 = (sF (sF (sF sc123 46 2 z129) 46 3 (Int32.ofInt 3)) 46 5 y123_3).2.2.1 46 2 := sF_ne rfl (sF_ne rfl (sF_get)); rw [← b0, ← b1, ← b2]; exact n181c
                have n181e : (w123_46_4).toInt ≤ (z129).toInt := by have a0 := i162x7; unfold In at a0; have a1 := h1; unfold In at a1; have a2 := ro_46_1; unfold In at a2; have a3 := (inv_F hIc123 0 1000 rfl v123_46_4); unfold In at a3; have a4 := (inv_F hIc123 0 1000 rfl v123_46_2); unfold In at a4; have a5 := j123_4; unfold In at a5; have a6 := i142; unfold In at a6; have a7 := (in_c 3 rfl); unfold In at a7; have a8 := i130; unfold In at a8; have a9 := t_add e129 (inv_F hIc123 0 1000 rfl v123_46_2) (in_c 1 rfl) rfl; have a10 := (in_c 1 rfl); unfold In at a10; omega
                have n181f : ((sF (sF (sF sc123 46 2 z129) 46 3 (Int32.ofInt 3)) 46 5 y123_3).2.2.1 46 4).toInt ≤ ((sF (sF (sF sc123 46 2 z129) 46 3 (Int32.ofInt 3)) 46 5 y123_3).2.2.1 46 2).toInt := by have b0 : w123_46_4 = (sF (sF (sF sc123 46 2 z129) 46 3 (Int32.ofInt 3)) 46 5 y123_3).2.2.1 46 4 := sF_ne rfl (sF_ne rfl (sF_ne rfl (v123_46_4))); have b1 : z129 = (sF (sF (sF sc123 46 2 z129) 46 3 (Int32.ofInt 3)) 46 5 y123_3).2.2.1 46 2 := sF_ne rfl (sF_ne rfl (sF_get)); rw [← b0, ← b1]; exact n181e
                have n181g : (u_46_2).toInt ≤ (w123_46_4).toInt := by have a0 := i162x7; unfold In at a0; have a1 := h1; unfold In at a1; have a2 := ro_46_1; unfold In at a2; have a3 := (inv_F hIc123 0 1000 rfl v123_46_4); unfold In at a3; have a4 := (inv_F hIc123 0 1000 rfl v123_46_2); unfold In at a4; have a5 := j123_4; unfold In at a5; have a6 := i142; unfold In at a6; have a7 := (in_c 3 rfl); unfold In at a7; have a8 := i130; unfold In at a8; have a9 := t_add e129 (inv_F hIc123 0 1000 rfl v123_46_2) (in_c 1 rfl) rfl; have a10 := (in_c 1 rfl); unfold In at a10; omega
                have n181h : (s.2.2.1 46 2).toInt ≤ ((sF (sF (sF sc123 46 2 z129) 46 3 (Int32.ofInt 3)) 46 5 y123_3).2.2.1 46 4).toInt := by have b0 : w123_46_4 = (sF (sF (sF sc123 46 2 z129) 46 3 (Int32.ofInt 3)) 46 5 y123_3).2.2.1 46 4 := sF_ne rfl (sF_ne rfl (sF_ne rfl (v123_46_4))); rw [← b0, ← e_46_2]; exact n181g
                exact g_return (gd rfl) rfl (hP _ _ ⟨(sF (sF (sF sc123 46 2 z129) 46 3 (Int32.ofInt 3)) 46 5 y123_3), hI178, (fr_sF rfl (fr_sF rfl (fr_sF rfl hFc123))), n181b, n181d, n181f, n181h, rfl, rfl, n181⟩)
      · skip
        have i142 := r_le1 97 122 c142 i136 (in_c 122 rfl) rfl
        refine g_aload_n 146 (gd rfl) rfl rfl ?_
        refine g_iconst 1 147 (gd rfl) rfl rfl ?_
        refine g_putI 150 (gd rfl) rfl rfl rfl rfl ?_
        have hI147 := inv_sF (q := 46) (j := 3) hI130 rfl (in_w 0 5 (in_c 1 rfl) rfl)
        refine g_aload_n 151 (gd rfl) rfl rfl ?_
        refine g_iload_n 152 (gd rfl) rfl rfl ?_
        refine g_bipush 97 154 (gd rfl) rfl rfl ?_
        refine g_isub 155 (gd rfl) rfl (fun z154 e154 => ?_)
        have i154 := in_sub 0 25 e154 i142 (in_c 97 rfl) rfl rfl
        refine g_putI 158 (gd rfl) rfl rfl rfl rfl ?_
        have hI155 := inv_sF (q := 46) (j := 5) hI147 rfl (in_w (-2147483648) 2147483647 i154 rfl)
        have n158 : (x1).toInt = 6 → ((sF (sF (sF sc123 46 2 z129) 46 3 (Int32.ofInt 1)) 46 5 z154).2.2.1 46 3).toInt = 2 → ((sF (sF (sF sc123 46 2 z129) 46 3 (Int32.ofInt 1)) 46 5 z154).2.2.1 46 5).toInt ≤ 999999 := by intro _ h2; rw [← (show (Int32.ofInt 1) = (sF (sF (sF sc123 46 2 z129) 46 3 (Int32.ofInt 1)) 46 5 z154).2.2.1 46 3 from sF_ne rfl (sF_get))] at h2; exact absurd h2 (by decide)
        have n158a : (z129).toInt ≤ (u_46_1).toInt := by have a0 := h2; unfold In at a0; have a1 := h1; unfold In at a1; have a2 := ro_46_1; unfold In at a2; have a3 := (inv_F hIc123 0 1000 rfl v123_46_4); unfold In at a3; have a4 := (inv_F hIc123 0 1000 rfl v123_46_2); unfold In at a4; have a5 := j123_4; unfold In at a5; have a6 := i142; unfold In at a6; have a7 := i154; unfold In at a7; have a8 := t_sub e154 i142 (in_c 97 rfl) rfl; have a9 := (in_c 97 rfl); unfold In at a9; have a10 := (in_c 1 rfl); unfold In at a10; have a11 := i130; unfold In at a11; have a12 := t_add e129 (inv_F hIc123 0 1000 rfl v123_46_2) (in_c 1 rfl) rfl; omega
        have n158b : ((sF (sF (sF sc123 46 2 z129) 46 3 (Int32.ofInt 1)) 46 5 z154).2.2.1 46 2).toInt ≤ ((sF (sF (sF sc123 46 2 z129) 46 3 (Int32.ofInt 1)) 46 5 z154).2.2.1 46 1).toInt := by have b0 : z129 = (sF (sF (sF sc123 46 2 z129) 46 3 (Int32.ofInt 1)) 46 5 z154).2.2.1 46 2 := sF_ne rfl (sF_ne rfl (sF_get)); have b1 : u_46_1 = (sF (sF (sF sc123 46 2 z129) 46 3 (Int32.ofInt 1)) 46 5 z154).2.2.1 46 1 := sF_ne rfl (sF_ne rfl (sF_ne rfl (fr_F e_46_1 hFc123 rfl))); rw [← b0, ← b1]; exact n158a
        have n158c : ((Int32.ofInt 1)).toInt = 0 ∨ (w123_46_4).toInt + 1 ≤ (z129).toInt := by have a0 := h2; unfold In at a0; have a1 := h1; unfold In at a1; have a2 := ro_46_1; unfold In at a2; have a3 := (inv_F hIc123 0 1000 rfl v123_46_4); unfold In at a3; have a4 := (inv_F hIc123 0 1000 rfl v123_46_2); unfold In at a4; have a5 := j123_4; unfold In at a5; have a6 := i142; unfold In at a6; have a7 := i154; unfold In at a7; have a8 := t_sub e154 i142 (in_c 97 rfl) rfl; have a9 := (in_c 97 rfl); unfold In at a9; have a10 := (in_c 1 rfl); unfold In at a10; have a11 := i130; unfold In at a11; have a12 := t_add e129 (inv_F hIc123 0 1000 rfl v123_46_2) (in_c 1 rfl) rfl; omega
        have n158d : ((sF (sF (sF sc123 46 2 z129) 46 3 (Int32.ofInt 1)) 46 5 z154).2.2.1 46 3).toInt = 0 ∨ ((sF (sF (sF sc123 46 2 z129) 46 3 (Int32.ofInt 1)) 46 5 z154).2.2.1 46 4).toInt + 1 ≤ ((sF (sF (sF sc123 46 2 z129) 46 3 (Int32.ofInt 1)) 46 5 z154).2.2.1 46 2).toInt := by have b0 : (Int32.ofInt 1) = (sF (sF (sF sc123 46 2 z129) 46 3 (Int32.ofInt 1)) 46 5 z154).2.2.1 46 3 := sF_ne rfl (sF_get); have b1 : w123_46_4 = (sF (sF (sF sc123 46 2 z129) 46 3 (Int32.ofInt 1)) 46 5 z154).2.2.1 46 4 := sF_ne rfl (sF_ne rfl (sF_ne rfl (v123_46_4))); have b2 : z129 = (sF (sF (sF sc123 46 2 z129) 46 3 (Int32.ofInt 1)) 46 5 z154).2.2.1 46 2 := sF_ne rfl (sF_ne rfl (sF_get)); rw [← b0, ← b1, ← b2]; exact n158c
        have n158e : (w123_46_4).toInt ≤ (z129).toInt := by have a0 := h2; unfold In at a0; have a1 := h1; unfold In at a1; have a2 := ro_46_1; unfold In at a2; have a3 := (inv_F hIc123 0 1000 rfl v123_46_4); unfold In at a3; have a4 := (inv_F hIc123 0 1000 rfl v123_46_2); unfold In at a4; have a5 := j123_4; unfold In at a5; have a6 := i142; unfold In at a6; have a7 := i154; unfold In at a7; have a8 := t_sub e154 i142 (in_c 97 rfl) rfl; have a9 := (in_c 97 rfl); unfold In at a9; have a10 := (in_c 1 rfl); unfold In at a10; have a11 := i130; unfold In at a11; have a12 := t_add e129 (inv_F hIc123 0 1000 rfl v123_46_2) (in_c 1 rfl) rfl; omega
        have n158f : ((sF (sF (sF sc123 46 2 z129) 46 3 (Int32.ofInt 1)) 46 5 z154).2.2.1 46 4).toInt ≤ ((sF (sF (sF sc123 46 2 z129) 46 3 (Int32.ofInt 1)) 46 5 z154).2.2.1 46 2).toInt := by have b0 : w123_46_4 = (sF (sF (sF sc123 46 2 z129) 46 3 (Int32.ofInt 1)) 46 5 z154).2.2.1 46 4 := sF_ne rfl (sF_ne rfl (sF_ne rfl (v123_46_4))); have b1 : z129 = (sF (sF (sF sc123 46 2 z129) 46 3 (Int32.ofInt 1)) 46 5 z154).2.2.1 46 2 := sF_ne rfl (sF_ne rfl (sF_get)); rw [← b0, ← b1]; exact n158e
        have n158g : (u_46_2).toInt ≤ (w123_46_4).toInt := by have a0 := h2; unfold In at a0; have a1 := h1; unfold In at a1; have a2 := ro_46_1; unfold In at a2; have a3 := (inv_F hIc123 0 1000 rfl v123_46_4); unfold In at a3; have a4 := (inv_F hIc123 0 1000 rfl v123_46_2); unfold In at a4; have a5 := j123_4; unfold In at a5; have a6 := i142; unfold In at a6; have a7 := i154; unfold In at a7; have a8 := t_sub e154 i142 (in_c 97 rfl) rfl; have a9 := (in_c 97 rfl); unfold In at a9; have a10 := (in_c 1 rfl); unfold In at a10; have a11 := i130; unfold In at a11; have a12 := t_add e129 (inv_F hIc123 0 1000 rfl v123_46_2) (in_c 1 rfl) rfl; omega
        have n158h : (s.2.2.1 46 2).toInt ≤ ((sF (sF (sF sc123 46 2 z129) 46 3 (Int32.ofInt 1)) 46 5 z154).2.2.1 46 4).toInt := by have b0 : w123_46_4 = (sF (sF (sF sc123 46 2 z129) 46 3 (Int32.ofInt 1)) 46 5 z154).2.2.1 46 4 := sF_ne rfl (sF_ne rfl (sF_ne rfl (v123_46_4))); rw [← b0, ← e_46_2]; exact n158g
        exact g_return (gd rfl) rfl (hP _ _ ⟨(sF (sF (sF sc123 46 2 z129) 46 3 (Int32.ofInt 1)) 46 5 z154), hI155, (fr_sF rfl (fr_sF rfl (fr_sF rfl hFc123))), n158b, n158d, n158f, n158h, rfl, rfl, n158⟩)
  have ct90 : ∀ (sc90 : GS) (y90_3 : Int32) (y90_4 : Int32) (w90_46_2 : Int32) (w90_46_4 : Int32), Inv sc90 → Fr fm_171_46 s sc90 → (In y90_3 0 65535) → (In y90_4 0 1) → (w90_46_2 = sc90.2.2.1 46 2) → (w90_46_4 = sc90.2.2.1 46 4) → ((w90_46_2).toInt + 1 ≤ (u_46_1).toInt) → ((w90_46_4).toInt = (w90_46_2).toInt) → ((u_46_2).toInt ≤ (w90_46_2).toInt) → GG Z (d - 1) 171 post (gx xp) (1802) 90 (fun j => xlook j [(0, .ref (A 46)), (1, .int x1), (2, .int x2), (3, .int y90_3), (4, .int y90_4)]) [] (WW Z A sc90 ++ ex) 0 0 := by
    intro sc90 y90_3 y90_4 w90_46_2 w90_46_4 hIc90 hFc90 j90_3 j90_4 v90_46_2 v90_46_4 n90_0 n90_1 n90_2
    refine g_aload_n 91 (gd rfl) rfl rfl ?_
    refine g_iload 93 (gd rfl) rfl rfl ?_
    refine g_if_eq 96 105 (gd rfl) rfl rfl (fun c93 => ?_) (fun c93 => ?_)
    · skip
      have i93 := z_eq 0 0 c93 j90_4 rfl
      refine g_aload_n 106 (gd rfl) rfl rfl ?_
      refine g_getI 109 (gd rfl) rfl rfl rfl (fun z106 e106 => ?_)
      have q106 : w90_46_2 = z106 := (v90_46_2).trans e106.symm
      subst q106
      refine g_callv (X := _) (As := [.int w90_46_2]) (r := []) (b := A 46) (q := 46) 112 (gd rfl) rfl rfl rfl rfl rfl (ww_o rfl) (Nat.le_of_ble_eq_true rfl) (mc := 0) (ms := 0) (Nat.zero_le _) (Nat.zero_le _) (P := fun v u => _) ?_ (fun e u h => h) (fun v u h => h)
      intro po109 xx109 hp109 hx109
      refine g_enter2 (k := 172) (N := 300) (by omega) rfl (Nat.le_of_ble_eq_true rfl) ?_
      refine g_iload_n 1 (gd rfl) rfl rfl ?_
      refine g_aload_n 2 (gd rfl) rfl rfl ?_
      refine g_getI 5 (gd rfl) rfl rfl rfl (fun z109x2 e109x2 => ?_)
      have q109x2 : u_46_1 = z109x2 := (fr_F e_46_1 hFc90 rfl).trans e109x2.symm
      subst q109x2
      refine g_cmp_ge 8 34 (gd rfl) rfl rfl (fun c109x5 => ?_) (fun c109x5 => ?_)
      · skip
        refine g_iconst 0 35 (gd rfl) rfl rfl ?_
        refine g_ireturn (gd rfl) rfl (nb01 (in_w 0 1 (in_c 0 rfl) rfl)) (hp109 _ _ ?_)
        show GG _ _ _ _ _ _ _ _ [.int (Int32.ofInt 0)] _ _ _
        refine g_if_eq 115 123 (gd rfl) rfl rfl (fun c112 => ?_) (fun c112 => ?_)
        · skip
          have n123 : (w90_46_2).toInt + 1 ≤ (u_46_1).toInt := by have a0 := h2; unfold In at a0; have a1 := h1; unfold In at a1; have a2 := ro_46_1; unfold In at a2; have a3 := (inv_F hIc90 0 1000 rfl v90_46_4); unfold In at a3; have a4 := (inv_F hIc90 0 1000 rfl v90_46_2); unfold In at a4; have a5 := i93; unfold In at a5; have a6 := j90_3; unfold In at a6; omega
          have n123a : (w90_46_4).toInt = (w90_46_2).toInt := by have a0 := h2; unfold In at a0; have a1 := h1; unfold In at a1; have a2 := ro_46_1; unfold In at a2; have a3 := (inv_F hIc90 0 1000 rfl v90_46_4); unfold In at a3; have a4 := (inv_F hIc90 0 1000 rfl v90_46_2); unfold In at a4; have a5 := i93; unfold In at a5; have a6 := j90_3; unfold In at a6; omega
          have n123b : (u_46_2).toInt ≤ (w90_46_2).toInt := by have a0 := h2; unfold In at a0; have a1 := h1; unfold In at a1; have a2 := ro_46_1; unfold In at a2; have a3 := (inv_F hIc90 0 1000 rfl v90_46_4); unfold In at a3; have a4 := (inv_F hIc90 0 1000 rfl v90_46_2); unfold In at a4; have a5 := i93; unfold In at a5; have a6 := j90_3; unfold In at a6; omega
          exact gg_w (by omega) (gg_f (gf_cons rfl (gf_cons rfl (gf_cons rfl (gf_cons rfl (gf_cons rfl gf_nil))))) (ct123 sc90 y90_3 y90_4 w90_46_2 w90_46_4 hIc90 hFc90 (in_w 0 65535 j90_3 rfl) (in_w 0 1 i93 rfl) v90_46_2 v90_46_4 n123 n123a n123b))
        · skip
          exact zn_ne c112 (in_c 0 rfl) rfl
      · skip
        have i109x5 := r_lt1 0 999 c109x5 (inv_F hIc90 0 1000 rfl v90_46_2) ro_46_1 rfl
        have i109x5a := r_lt2 1 1000 c109x5 (inv_F hIc90 0 1000 rfl v90_46_2) ro_46_1 rfl
        refine g_aload_n 9 (gd rfl) rfl rfl ?_
        refine g_getA (q2 := 47) 12 (gd rfl) rfl rfl rfl rfl ?_
        refine g_iload_n 13 (gd rfl) rfl rfl ?_
        refine g_caload 14 (gd rfl) rfl (n := 1000) rfl (in_ix i109x5 rfl) (fun z109x13 e109x13 => ?_)
        have i109x13 := inv_I hIc90 (n := 1000) (t := 2) 0 65535 rfl (in_ix i109x5 rfl) rfl e109x13
        refine g_bipush 48 16 (gd rfl) rfl rfl ?_
        refine g_cmp_lt 19 34 (gd rfl) rfl rfl (fun c109x16 => ?_) (fun c109x16 => ?_)
        · skip
          have i109x16 := r_lt1 0 47 c109x16 i109x13 (in_c 48 rfl) rfl
          refine g_iconst 0 35 (gd rfl) rfl rfl ?_
          refine g_ireturn (gd rfl) rfl (nb01 (in_w 0 1 (in_c 0 rfl) rfl)) (hp109 _ _ ?_)
          show GG _ _ _ _ _ _ _ _ [.int (Int32.ofInt 0)] _ _ _
          refine g_if_eq 115 123 (gd rfl) rfl rfl (fun c112 => ?_) (fun c112 => ?_)
          · skip
            have n123 : (w90_46_2).toInt + 1 ≤ (u_46_1).toInt := by have a0 := h2; unfold In at a0; have a1 := h1; unfold In at a1; have a2 := i109x5a; unfold In at a2; have a3 := (inv_F hIc90 0 1000 rfl v90_46_4); unfold In at a3; have a4 := i109x5; unfold In at a4; have a5 := i93; unfold In at a5; have a6 := j90_3; unfold In at a6; omega
            have n123a : (w90_46_4).toInt = (w90_46_2).toInt := by have a0 := h2; unfold In at a0; have a1 := h1; unfold In at a1; have a2 := i109x5a; unfold In at a2; have a3 := (inv_F hIc90 0 1000 rfl v90_46_4); unfold In at a3; have a4 := i109x5; unfold In at a4; have a5 := i93; unfold In at a5; have a6 := j90_3; unfold In at a6; omega
            have n123b : (u_46_2).toInt ≤ (w90_46_2).toInt := by have a0 := h2; unfold In at a0; have a1 := h1; unfold In at a1; have a2 := i109x5a; unfold In at a2; have a3 := (inv_F hIc90 0 1000 rfl v90_46_4); unfold In at a3; have a4 := i109x5; unfold In at a4; have a5 := i93; unfold In at a5; have a6 := j90_3; unfold In at a6; omega
            exact gg_w (by omega) (gg_f (gf_cons rfl (gf_cons rfl (gf_cons rfl (gf_cons rfl (gf_cons rfl gf_nil))))) (ct123 sc90 y90_3 y90_4 w90_46_2 w90_46_4 hIc90 hFc90 (in_w 0 65535 j90_3 rfl) (in_w 0 1 i93 rfl) v90_46_2 v90_46_4 n123 n123a n123b))
          · skip
            exact zn_ne c112 (in_c 0 rfl) rfl
        · skip
          have i109x16 := r_le2 48 65535 c109x16 (in_c 48 rfl) i109x13 rfl
          refine g_aload_n 20 (gd rfl) rfl rfl ?_
          refine g_getA (q2 := 47) 23 (gd rfl) rfl rfl rfl rfl ?_
          refine g_iload_n 24 (gd rfl) rfl rfl ?_
          refine g_caload 25 (gd rfl) rfl (n := 1000) rfl (in_ix i109x5 rfl) (fun z109x24 e109x24 => ?_)
          have q109x24 : z109x13 = z109x24 := (e109x13).trans e109x24.symm
          subst q109x24
          refine g_bipush 57 27 (gd rfl) rfl rfl ?_
          refine g_cmp_gt 30 34 (gd rfl) rfl rfl (fun c109x27 => ?_) (fun c109x27 => ?_)
          · skip
            have i109x27 := r_lt2 58 65535 c109x27 (in_c 57 rfl) i109x16 rfl
            refine g_iconst 0 35 (gd rfl) rfl rfl ?_
            refine g_ireturn (gd rfl) rfl (nb01 (in_w 0 1 (in_c 0 rfl) rfl)) (hp109 _ _ ?_)
            show GG _ _ _ _ _ _ _ _ [.int (Int32.ofInt 0)] _ _ _
            refine g_if_eq 115 123 (gd rfl) rfl rfl (fun c112 => ?_) (fun c112 => ?_)
            · skip
              have n123 : (w90_46_2).toInt + 1 ≤ (u_46_1).toInt := by have a0 := h2; unfold In at a0; have a1 := h1; unfold In at a1; have a2 := i109x5a; unfold In at a2; have a3 := (inv_F hIc90 0 1000 rfl v90_46_4); unfold In at a3; have a4 := i109x5; unfold In at a4; have a5 := i93; unfold In at a5; have a6 := j90_3; unfold In at a6; omega
              have n123a : (w90_46_4).toInt = (w90_46_2).toInt := by have a0 := h2; unfold In at a0; have a1 := h1; unfold In at a1; have a2 := i109x5a; unfold In at a2; have a3 := (inv_F hIc90 0 1000 rfl v90_46_4); unfold In at a3; have a4 := i109x5; unfold In at a4; have a5 := i93; unfold In at a5; have a6 := j90_3; unfold In at a6; omega
              have n123b : (u_46_2).toInt ≤ (w90_46_2).toInt := by have a0 := h2; unfold In at a0; have a1 := h1; unfold In at a1; have a2 := i109x5a; unfold In at a2; have a3 := (inv_F hIc90 0 1000 rfl v90_46_4); unfold In at a3; have a4 := i109x5; unfold In at a4; have a5 := i93; unfold In at a5; have a6 := j90_3; unfold In at a6; omega
              exact gg_w (by omega) (gg_f (gf_cons rfl (gf_cons rfl (gf_cons rfl (gf_cons rfl (gf_cons rfl gf_nil))))) (ct123 sc90 y90_3 y90_4 w90_46_2 w90_46_4 hIc90 hFc90 (in_w 0 65535 j90_3 rfl) (in_w 0 1 i93 rfl) v90_46_2 v90_46_4 n123 n123a n123b))
            · skip
              exact zn_ne c112 (in_c 0 rfl) rfl
          · skip
            have i109x27 := r_le1 48 57 c109x27 i109x16 (in_c 57 rfl) rfl
            refine g_iconst 1 31 (gd rfl) rfl rfl ?_
            refine g_goto 35 (gd rfl) rfl ?_
            refine g_ireturn (gd rfl) rfl (nb01 (in_w 0 1 (in_c 1 rfl) rfl)) (hp109 _ _ ?_)
            show GG _ _ _ _ _ _ _ _ [.int (Int32.ofInt 1)] _ _ _
            refine g_if_eq 115 123 (gd rfl) rfl rfl (fun c112 => ?_) (fun c112 => ?_)
            · skip
              exact zn_eq c112 (in_c 1 rfl) rfl
            · skip
              refine g_aload_n 116 (gd rfl) rfl rfl ?_
              refine g_iload 118 (gd rfl) rfl rfl ?_
              refine g_iload_n 119 (gd rfl) rfl rfl ?_
              have v119 : u_46_1 = sc90.2.2.1 46 1 := fr_F e_46_1 hFc90 rfl
              have n119 : (w90_46_2).toInt + (y90_4).toInt + 1 ≤ (u_46_1).toInt := by have a0 := h2; unfold In at a0; have a1 := h1; unfold In at a1; have a2 := i109x5a; unfold In at a2; have a3 := (inv_F hIc90 0 1000 rfl v90_46_4); unfold In at a3; have a4 := i109x5; unfold In at a4; have a5 := i93; unfold In at a5; have a6 := j90_3; unfold In at a6; omega
              have p119 : 48 ≤ (sc90.1 47 ((sc90.2.2.1 46 2).toInt + (y90_4).toInt).toNat).toInt ∧ (sc90.1 47 ((sc90.2.2.1 46 2).toInt + (y90_4).toInt).toNat).toInt ≤ 57 := by have ei : ((sc90.2.2.1 46 2).toInt + (y90_4).toInt).toNat = w90_46_2.toNatClampNeg := (by rw [← (show w90_46_2 = sc90.2.2.1 46 2 from v90_46_2)]; show _ = w90_46_2.toInt.toNat; have a0 := h2; unfold In at a0; have a1 := h1; unfold In at a1; have a2 := i109x5a; unfold In at a2; have a3 := (inv_F hIc90 0 1000 rfl v90_46_4); unfold In at a3; have a4 := i109x5; unfold In at a4; have a5 := i93; unfold In at a5; have a6 := j90_3; unfold In at a6; omega); rw [ei, ← e109x13]; exact i109x27
              refine g_callv (X := _) (As := [.int y90_4, .int x1]) (r := []) (b := A 46) (q := 46) 122 (gd rfl) rfl rfl rfl rfl rfl (ww_o rfl) (Nat.le_of_ble_eq_true rfl) (Nat.zero_le _) (Nat.zero_le _) (k_173_46 (by omega) hIc90 (in_w 0 1 i93 rfl) (in_w 6 7 h1 rfl) v90_46_2 v119 n119 p119) (fun e u h => h) (fun v u h => ?_)
              obtain ⟨s119, hI119, hF119, n119a, n119b, rfl, rfl, p119a⟩ := h
              obtain ⟨z119a, e119⟩ : ∃ w, w = s119.2.2.1 46 2 := ⟨_, rfl⟩
              have i119a := inv_F hI119 0 1000 rfl e119
              rw [← (show z119a = s119.2.2.1 46 2 from e119)] at n119a
              rw [← (show u_46_1 = s119.2.2.1 46 1 from fr_F (fr_F e_46_1 hFc90 rfl) hF119 rfl)] at n119a
              rw [← (show w90_46_2 = sc90.2.2.1 46 2 from v90_46_2)] at n119b
              rw [← (show z119a = s119.2.2.1 46 2 from e119)] at n119b
              show GG _ _ _ _ _ _ _ _ [] _ _ _
              have n122 : (x1).toInt = 6 → (s119.2.2.1 46 3).toInt = 2 → (s119.2.2.1 46 5).toInt ≤ 999999 := by exact p119a
              have n122a : (z119a).toInt ≤ (u_46_1).toInt := by have a0 := h2; unfold In at a0; have a1 := h1; unfold In at a1; have a2 := i109x5a; unfold In at a2; have a3 := (inv_F hIc90 0 1000 rfl v90_46_4); unfold In at a3; have a4 := i109x5; unfold In at a4; have a5 := i93; unfold In at a5; have a6 := j90_3; unfold In at a6; have a7 := i119a; unfold In at a7; omega
              have n122b : (s119.2.2.1 46 2).toInt ≤ (s119.2.2.1 46 1).toInt := by have b0 : z119a = s119.2.2.1 46 2 := e119; have b1 : u_46_1 = s119.2.2.1 46 1 := fr_F (fr_F e_46_1 hFc90 rfl) hF119 rfl; rw [← b0, ← b1]; exact n122a
              have n122c : ((s119.2.2.1 46 3)).toInt = 0 ∨ (w90_46_4).toInt + 1 ≤ (z119a).toInt := by have a0 := h2; unfold In at a0; have a1 := h1; unfold In at a1; have a2 := i109x5a; unfold In at a2; have a3 := (inv_F hIc90 0 1000 rfl v90_46_4); unfold In at a3; have a4 := i109x5; unfold In at a4; have a5 := i93; unfold In at a5; have a6 := j90_3; unfold In at a6; have a7 := i119a; unfold In at a7; have a8 := (show In (s119.2.2.1 46 3) 0 5 from inv_F hI119 0 5 rfl rfl); unfold In at a8; omega
              have n122d : (s119.2.2.1 46 3).toInt = 0 ∨ (s119.2.2.1 46 4).toInt + 1 ≤ (s119.2.2.1 46 2).toInt := by have b0 : w90_46_4 = s119.2.2.1 46 4 := fr_F (v90_46_4) hF119 rfl; have b1 : z119a = s119.2.2.1 46 2 := e119; rw [← b0, ← b1]; exact n122c
              have n122e : (w90_46_4).toInt ≤ (z119a).toInt := by have a0 := h2; unfold In at a0; have a1 := h1; unfold In at a1; have a2 := i109x5a; unfold In at a2; have a3 := (inv_F hIc90 0 1000 rfl v90_46_4); unfold In at a3; have a4 := i109x5; unfold In at a4; have a5 := i93; unfold In at a5; have a6 := j90_3; unfold In at a6; have a7 := i119a; unfold In at a7; omega
              have n122f : (s119.2.2.1 46 4).toInt ≤ (s119.2.2.1 46 2).toInt := by have b0 : w90_46_4 = s119.2.2.1 46 4 := fr_F (v90_46_4) hF119 rfl; have b1 : z119a = s119.2.2.1 46 2 := e119; rw [← b0, ← b1]; exact n122e
              have n122g : (u_46_2).toInt ≤ (w90_46_4).toInt := by have a0 := h2; unfold In at a0; have a1 := h1; unfold In at a1; have a2 := i109x5a; unfold In at a2; have a3 := (inv_F hIc90 0 1000 rfl v90_46_4); unfold In at a3; have a4 := i109x5; unfold In at a4; have a5 := i93; unfold In at a5; have a6 := j90_3; unfold In at a6; have a7 := i119a; unfold In at a7; omega
              have n122h : (s.2.2.1 46 2).toInt ≤ (s119.2.2.1 46 4).toInt := by have b0 : w90_46_4 = s119.2.2.1 46 4 := fr_F (v90_46_4) hF119 rfl; rw [← b0, ← e_46_2]; exact n122g
              exact g_return (gd rfl) rfl (hP _ _ ⟨s119, hI119, (fr_tr rfl hFc90 hF119), n122b, n122d, n122f, n122h, rfl, rfl, n122⟩)
    · skip
      have i93 := z_ne 1 1 c93 j90_4 rfl
      refine g_aload_n 97 (gd rfl) rfl rfl ?_
      refine g_getI 100 (gd rfl) rfl rfl rfl (fun z97 e97 => ?_)
      have q97 : w90_46_2 = z97 := (v90_46_2).trans e97.symm
      subst q97
      refine g_iconst 1 101 (gd rfl) rfl rfl ?_
      refine g_iadd 102 (gd rfl) rfl (fun z101 e101 => ?_)
      have i101 := in_add 1 1001 e101 (inv_F hIc90 0 1000 rfl v90_46_2) (in_c 1 rfl) rfl rfl
      refine g_goto 109 (gd rfl) rfl ?_
      refine g_callv (X := _) (As := [.int z101]) (r := []) (b := A 46) (q := 46) 112 (gd rfl) rfl rfl rfl rfl rfl (ww_o rfl) (Nat.le_of_ble_eq_true rfl) (mc := 0) (ms := 0) (Nat.zero_le _) (Nat.zero_le _) (P := fun v u => _) ?_ (fun e u h => h) (fun v u h => h)
      intro po109 xx109 hp109 hx109
      refine g_enter2 (k := 172) (N := 300) (by omega) rfl (Nat.le_of_ble_eq_true rfl) ?_
      refine g_iload_n 1 (gd rfl) rfl rfl ?_
      refine g_aload_n 2 (gd rfl) rfl rfl ?_
      refine g_getI 5 (gd rfl) rfl rfl rfl (fun z109x2 e109x2 => ?_)
      have q109x2 : u_46_1 = z109x2 := (fr_F e_46_1 hFc90 rfl).trans e109x2.symm
      subst q109x2
      refine g_cmp_ge 8 34 (gd rfl) rfl rfl (fun c109x5 => ?_) (fun c109x5 => ?_)
      · skip
        refine g_iconst 0 35 (gd rfl) rfl rfl ?_
        refine g_ireturn (gd rfl) rfl (nb01 (in_w 0 1 (in_c 0 rfl) rfl)) (hp109 _ _ ?_)
        show GG _ _ _ _ _ _ _ _ [.int (Int32.ofInt 0)] _ _ _
        refine g_if_eq 115 123 (gd rfl) rfl rfl (fun c112 => ?_) (fun c112 => ?_)
        · skip
          have n123 : (w90_46_2).toInt + 1 ≤ (u_46_1).toInt := by have a0 := h2; unfold In at a0; have a1 := h1; unfold In at a1; have a2 := ro_46_1; unfold In at a2; have a3 := (inv_F hIc90 0 1000 rfl v90_46_4); unfold In at a3; have a4 := (inv_F hIc90 0 1000 rfl v90_46_2); unfold In at a4; have a5 := i93; unfold In at a5; have a6 := j90_3; unfold In at a6; have a7 := i101; unfold In at a7; have a8 := t_add e101 (inv_F hIc90 0 1000 rfl v90_46_2) (in_c 1 rfl) rfl; have a9 := (in_c 1 rfl); unfold In at a9; omega
          have n123a : (w90_46_4).toInt = (w90_46_2).toInt := by have a0 := h2; unfold In at a0; have a1 := h1; unfold In at a1; have a2 := ro_46_1; unfold In at a2; have a3 := (inv_F hIc90 0 1000 rfl v90_46_4); unfold In at a3; have a4 := (inv_F hIc90 0 1000 rfl v90_46_2); unfold In at a4; have a5 := i93; unfold In at a5; have a6 := j90_3; unfold In at a6; have a7 := i101; unfold In at a7; have a8 := t_add e101 (inv_F hIc90 0 1000 rfl v90_46_2) (in_c 1 rfl) rfl; have a9 := (in_c 1 rfl); unfold In at a9; omega
          have n123b : (u_46_2).toInt ≤ (w90_46_2).toInt := by have a0 := h2; unfold In at a0; have a1 := h1; unfold In at a1; have a2 := ro_46_1; unfold In at a2; have a3 := (inv_F hIc90 0 1000 rfl v90_46_4); unfold In at a3; have a4 := (inv_F hIc90 0 1000 rfl v90_46_2); unfold In at a4; have a5 := i93; unfold In at a5; have a6 := j90_3; unfold In at a6; have a7 := i101; unfold In at a7; have a8 := t_add e101 (inv_F hIc90 0 1000 rfl v90_46_2) (in_c 1 rfl) rfl; have a9 := (in_c 1 rfl); unfold In at a9; omega
          exact gg_w (by omega) (gg_f (gf_cons rfl (gf_cons rfl (gf_cons rfl (gf_cons rfl (gf_cons rfl gf_nil))))) (ct123 sc90 y90_3 y90_4 w90_46_2 w90_46_4 hIc90 hFc90 (in_w 0 65535 j90_3 rfl) (in_w 0 1 i93 rfl) v90_46_2 v90_46_4 n123 n123a n123b))
        · skip
          exact zn_ne c112 (in_c 0 rfl) rfl
      · skip
        have i109x5 := r_lt1 1 999 c109x5 i101 ro_46_1 rfl
        have i109x5a := r_lt2 2 1000 c109x5 i101 ro_46_1 rfl
        refine g_aload_n 9 (gd rfl) rfl rfl ?_
        refine g_getA (q2 := 47) 12 (gd rfl) rfl rfl rfl rfl ?_
        refine g_iload_n 13 (gd rfl) rfl rfl ?_
        refine g_caload 14 (gd rfl) rfl (n := 1000) rfl (in_ix i109x5 rfl) (fun z109x13 e109x13 => ?_)
        have i109x13 := inv_I hIc90 (n := 1000) (t := 2) 0 65535 rfl (in_ix i109x5 rfl) rfl e109x13
        refine g_bipush 48 16 (gd rfl) rfl rfl ?_
        refine g_cmp_lt 19 34 (gd rfl) rfl rfl (fun c109x16 => ?_) (fun c109x16 => ?_)
        · skip
          have i109x16 := r_lt1 0 47 c109x16 i109x13 (in_c 48 rfl) rfl
          refine g_iconst 0 35 (gd rfl) rfl rfl ?_
          refine g_ireturn (gd rfl) rfl (nb01 (in_w 0 1 (in_c 0 rfl) rfl)) (hp109 _ _ ?_)
          show GG _ _ _ _ _ _ _ _ [.int (Int32.ofInt 0)] _ _ _
          refine g_if_eq 115 123 (gd rfl) rfl rfl (fun c112 => ?_) (fun c112 => ?_)
          · skip
            have n123 : (w90_46_2).toInt + 1 ≤ (u_46_1).toInt := by have a0 := h2; unfold In at a0; have a1 := h1; unfold In at a1; have a2 := i109x5a; unfold In at a2; have a3 := (inv_F hIc90 0 1000 rfl v90_46_4); unfold In at a3; have a4 := (inv_F hIc90 0 1000 rfl v90_46_2); unfold In at a4; have a5 := i93; unfold In at a5; have a6 := j90_3; unfold In at a6; have a7 := i109x5; unfold In at a7; have a8 := t_add e101 (inv_F hIc90 0 1000 rfl v90_46_2) (in_c 1 rfl) rfl; have a9 := (in_c 1 rfl); unfold In at a9; omega
            have n123a : (w90_46_4).toInt = (w90_46_2).toInt := by have a0 := h2; unfold In at a0; have a1 := h1; unfold In at a1; have a2 := i109x5a; unfold In at a2; have a3 := (inv_F hIc90 0 1000 rfl v90_46_4); unfold In at a3; have a4 := (inv_F hIc90 0 1000 rfl v90_46_2); unfold In at a4; have a5 := i93; unfold In at a5; have a6 := j90_3; unfold In at a6; have a7 := i109x5; unfold In at a7; have a8 := t_add e101 (inv_F hIc90 0 1000 rfl v90_46_2) (in_c 1 rfl) rfl; have a9 := (in_c 1 rfl); unfold In at a9; omega
            have n123b : (u_46_2).toInt ≤ (w90_46_2).toInt := by have a0 := h2; unfold In at a0; have a1 := h1; unfold In at a1; have a2 := i109x5a; unfold In at a2; have a3 := (inv_F hIc90 0 1000 rfl v90_46_4); unfold In at a3; have a4 := (inv_F hIc90 0 1000 rfl v90_46_2); unfold In at a4; have a5 := i93; unfold In at a5; have a6 := j90_3; unfold In at a6; have a7 := i109x5; unfold In at a7; have a8 := t_add e101 (inv_F hIc90 0 1000 rfl v90_46_2) (in_c 1 rfl) rfl; have a9 := (in_c 1 rfl); unfold In at a9; omega
            exact gg_w (by omega) (gg_f (gf_cons rfl (gf_cons rfl (gf_cons rfl (gf_cons rfl (gf_cons rfl gf_nil))))) (ct123 sc90 y90_3 y90_4 w90_46_2 w90_46_4 hIc90 hFc90 (in_w 0 65535 j90_3 rfl) (in_w 0 1 i93 rfl) v90_46_2 v90_46_4 n123 n123a n123b))
          · skip
            exact zn_ne c112 (in_c 0 rfl) rfl
        · skip
          have i109x16 := r_le2 48 65535 c109x16 (in_c 48 rfl) i109x13 rfl
          refine g_aload_n 20 (gd rfl) rfl rfl ?_
          refine g_getA (q2 := 47) 23 (gd rfl) rfl rfl rfl rfl ?_
          refine g_iload_n 24 (gd rfl) rfl rfl ?_
          refine g_caload 25 (gd rfl) rfl (n := 1000) rfl (in_ix i109x5 rfl) (fun z109x24 e109x24 => ?_)
          have q109x24 : z109x13 = z109x24 := (e109x13).trans e109x24.symm
          subst q109x24
          refine g_bipush 57 27 (gd rfl) rfl rfl ?_
          refine g_cmp_gt 30 34 (gd rfl) rfl rfl (fun c109x27 => ?_) (fun c109x27 => ?_)
          · skip
            have i109x27 := r_lt2 58 65535 c109x27 (in_c 57 rfl) i109x16 rfl
            refine g_iconst 0 35 (gd rfl) rfl rfl ?_
            refine g_ireturn (gd rfl) rfl (nb01 (in_w 0 1 (in_c 0 rfl) rfl)) (hp109 _ _ ?_)
            show GG _ _ _ _ _ _ _ _ [.int (Int32.ofInt 0)] _ _ _
            refine g_if_eq 115 123 (gd rfl) rfl rfl (fun c112 => ?_) (fun c112 => ?_)
            · skip
              have n123 : (w90_46_2).toInt + 1 ≤ (u_46_1).toInt := by have a0 := h2; unfold In at a0; have a1 := h1; unfold In at a1; have a2 := i109x5a; unfold In at a2; have a3 := (inv_F hIc90 0 1000 rfl v90_46_4); unfold In at a3; have a4 := (inv_F hIc90 0 1000 rfl v90_46_2); unfold In at a4; have a5 := i93; unfold In at a5; have a6 := j90_3; unfold In at a6; have a7 := i109x5; unfold In at a7; have a8 := t_add e101 (inv_F hIc90 0 1000 rfl v90_46_2) (in_c 1 rfl) rfl; have a9 := (in_c 1 rfl); unfold In at a9; omega
              have n123a : (w90_46_4).toInt = (w90_46_2).toInt := by have a0 := h2; unfold In at a0; have a1 := h1; unfold In at a1; have a2 := i109x5a; unfold In at a2; have a3 := (inv_F hIc90 0 1000 rfl v90_46_4); unfold In at a3; have a4 := (inv_F hIc90 0 1000 rfl v90_46_2); unfold In at a4; have a5 := i93; unfold In at a5; have a6 := j90_3; unfold In at a6; have a7 := i109x5; unfold In at a7; have a8 := t_add e101 (inv_F hIc90 0 1000 rfl v90_46_2) (in_c 1 rfl) rfl; have a9 := (in_c 1 rfl); unfold In at a9; omega
              have n123b : (u_46_2).toInt ≤ (w90_46_2).toInt := by have a0 := h2; unfold In at a0; have a1 := h1; unfold In at a1; have a2 := i109x5a; unfold In at a2; have a3 := (inv_F hIc90 0 1000 rfl v90_46_4); unfold In at a3; have a4 := (inv_F hIc90 0 1000 rfl v90_46_2); unfold In at a4; have a5 := i93; unfold In at a5; have a6 := j90_3; unfold In at a6; have a7 := i109x5; unfold In at a7; have a8 := t_add e101 (inv_F hIc90 0 1000 rfl v90_46_2) (in_c 1 rfl) rfl; have a9 := (in_c 1 rfl); unfold In at a9; omega
              exact gg_w (by omega) (gg_f (gf_cons rfl (gf_cons rfl (gf_cons rfl (gf_cons rfl (gf_cons rfl gf_nil))))) (ct123 sc90 y90_3 y90_4 w90_46_2 w90_46_4 hIc90 hFc90 (in_w 0 65535 j90_3 rfl) (in_w 0 1 i93 rfl) v90_46_2 v90_46_4 n123 n123a n123b))
            · skip
              exact zn_ne c112 (in_c 0 rfl) rfl
          · skip
            have i109x27 := r_le1 48 57 c109x27 i109x16 (in_c 57 rfl) rfl
            refine g_iconst 1 31 (gd rfl) rfl rfl ?_
            refine g_goto 35 (gd rfl) rfl ?_
            refine g_ireturn (gd rfl) rfl (nb01 (in_w 0 1 (in_c 1 rfl) rfl)) (hp109 _ _ ?_)
            show GG _ _ _ _ _ _ _ _ [.int (Int32.ofInt 1)] _ _ _
            refine g_if_eq 115 123 (gd rfl) rfl rfl (fun c112 => ?_) (fun c112 => ?_)
            · skip
              exact zn_eq c112 (in_c 1 rfl) rfl
            · skip
              refine g_aload_n 116 (gd rfl) rfl rfl ?_
              refine g_iload 118 (gd rfl) rfl rfl ?_
              refine g_iload_n 119 (gd rfl) rfl rfl ?_
              have v119 : u_46_1 = sc90.2.2.1 46 1 := fr_F e_46_1 hFc90 rfl
              have n119 : (w90_46_2).toInt + (y90_4).toInt + 1 ≤ (u_46_1).toInt := by have a0 := h2; unfold In at a0; have a1 := h1; unfold In at a1; have a2 := i109x5a; unfold In at a2; have a3 := (inv_F hIc90 0 1000 rfl v90_46_4); unfold In at a3; have a4 := (inv_F hIc90 0 1000 rfl v90_46_2); unfold In at a4; have a5 := i93; unfold In at a5; have a6 := j90_3; unfold In at a6; have a7 := i109x5; unfold In at a7; have a8 := t_add e101 (inv_F hIc90 0 1000 rfl v90_46_2) (in_c 1 rfl) rfl; have a9 := (in_c 1 rfl); unfold In at a9; omega
              have p119 : 48 ≤ (sc90.1 47 ((sc90.2.2.1 46 2).toInt + (y90_4).toInt).toNat).toInt ∧ (sc90.1 47 ((sc90.2.2.1 46 2).toInt + (y90_4).toInt).toNat).toInt ≤ 57 := by have ei : ((sc90.2.2.1 46 2).toInt + (y90_4).toInt).toNat = z101.toNatClampNeg := (by rw [← (show w90_46_2 = sc90.2.2.1 46 2 from v90_46_2)]; show _ = z101.toInt.toNat; have a0 := h2; unfold In at a0; have a1 := h1; unfold In at a1; have a2 := i109x5a; unfold In at a2; have a3 := (inv_F hIc90 0 1000 rfl v90_46_4); unfold In at a3; have a4 := (inv_F hIc90 0 1000 rfl v90_46_2); unfold In at a4; have a5 := i93; unfold In at a5; have a6 := j90_3; unfold In at a6; have a7 := i109x5; unfold In at a7; have a8 := t_add e101 (inv_F hIc90 0 1000 rfl v90_46_2) (in_c 1 rfl) rfl; have a9 := (in_c 1 rfl); unfold In at a9; omega); rw [ei, ← e109x13]; exact i109x27
              refine g_callv (X := _) (As := [.int y90_4, .int x1]) (r := []) (b := A 46) (q := 46) 122 (gd rfl) rfl rfl rfl rfl rfl (ww_o rfl) (Nat.le_of_ble_eq_true rfl) (Nat.zero_le _) (Nat.zero_le _) (k_173_46 (by omega) hIc90 (in_w 0 1 i93 rfl) (in_w 6 7 h1 rfl) v90_46_2 v119 n119 p119) (fun e u h => h) (fun v u h => ?_)
              obtain ⟨s119, hI119, hF119, n119a, n119b, rfl, rfl, p119a⟩ := h
              obtain ⟨z119a, e119⟩ : ∃ w, w = s119.2.2.1 46 2 := ⟨_, rfl⟩
              have i119a := inv_F hI119 0 1000 rfl e119
              rw [← (show z119a = s119.2.2.1 46 2 from e119)] at n119a
              rw [← (show u_46_1 = s119.2.2.1 46 1 from fr_F (fr_F e_46_1 hFc90 rfl) hF119 rfl)] at n119a
              rw [← (show w90_46_2 = sc90.2.2.1 46 2 from v90_46_2)] at n119b
              rw [← (show z119a = s119.2.2.1 46 2 from e119)] at n119b
              show GG _ _ _ _ _ _ _ _ [] _ _ _
              have n122 : (x1).toInt = 6 → (s119.2.2.1 46 3).toInt = 2 → (s119.2.2.1 46 5).toInt ≤ 999999 := by exact p119a
              have n122a : (z119a).toInt ≤ (u_46_1).toInt := by have a0 := h2; unfold In at a0; have a1 := h1; unfold In at a1; have a2 := i109x5a; unfold In at a2; have a3 := (inv_F hIc90 0 1000 rfl v90_46_4); unfold In at a3; have a4 := (inv_F hIc90 0 1000 rfl v90_46_2); unfold In at a4; have a5 := i93; unfold In at a5; have a6 := j90_3; unfold In at a6; have a7 := i119a; unfold In at a7; have a8 := i109x5; unfold In at a8; have a9 := t_add e101 (inv_F hIc90 0 1000 rfl v90_46_2) (in_c 1 rfl) rfl; have a10 := (in_c 1 rfl); unfold In at a10; omega
              have n122b : (s119.2.2.1 46 2).toInt ≤ (s119.2.2.1 46 1).toInt := by have b0 : z119a = s119.2.2.1 46 2 := e119; have b1 : u_46_1 = s119.2.2.1 46 1 := fr_F (fr_F e_46_1 hFc90 rfl) hF119 rfl; rw [← b0, ← b1]; exact n122a
              have n122c : ((s119.2.2.1 46 3)).toInt = 0 ∨ (w90_46_4).toInt + 1 ≤ (z119a).toInt := by have a0 := h2; unfold In at a0; have a1 := h1; unfold In at a1; have a2 := i109x5a; unfold In at a2; have a3 := (inv_F hIc90 0 1000 rfl v90_46_4); unfold In at a3; have a4 := (inv_F hIc90 0 1000 rfl v90_46_2); unfold In at a4; have a5 := i93; unfold In at a5; have a6 := j90_3; unfold In at a6; have a7 := i119a; unfold In at a7; have a8 := i109x5; unfold In at a8; have a9 := t_add e101 (inv_F hIc90 0 1000 rfl v90_46_2) (in_c 1 rfl) rfl; have a10 := (in_c 1 rfl); unfold In at a10; have a11 := (show In (s119.2.2.1 46 3) 0 5 from inv_F hI119 0 5 rfl rfl); unfold In at a11; omega
              have n122d : (s119.2.2.1 46 3).toInt = 0 ∨ (s119.2.2.1 46 4).toInt + 1 ≤ (s119.2.2.1 46 2).toInt := by have b0 : w90_46_4 = s119.2.2.1 46 4 := fr_F (v90_46_4) hF119 rfl; have b1 : z119a = s119.2.2.1 46 2 := e119; rw [← b0, ← b1]; exact n122c
              have n122e : (w90_46_4).toInt ≤ (z119a).toInt := by have a0 := h2; unfold In at a0; have a1 := h1; unfold In at a1; have a2 := i109x5a; unfold In at a2; have a3 := (inv_F hIc90 0 1000 rfl v90_46_4); unfold In at a3; have a4 := (inv_F hIc90 0 1000 rfl v90_46_2); unfold In at a4; have a5 := i93; unfold In at a5; have a6 := j90_3; unfold In at a6; have a7 := i119a; unfold In at a7; have a8 := i109x5; unfold In at a8; have a9 := t_add e101 (inv_F hIc90 0 1000 rfl v90_46_2) (in_c 1 rfl) rfl; have a10 := (in_c 1 rfl); unfold In at a10; omega
              have n122f : (s119.2.2.1 46 4).toInt ≤ (s119.2.2.1 46 2).toInt := by have b0 : w90_46_4 = s119.2.2.1 46 4 := fr_F (v90_46_4) hF119 rfl; have b1 : z119a = s119.2.2.1 46 2 := e119; rw [← b0, ← b1]; exact n122e
              have n122g : (u_46_2).toInt ≤ (w90_46_4).toInt := by have a0 := h2; unfold In at a0; have a1 := h1; unfold In at a1; have a2 := i109x5a; unfold In at a2; have a3 := (inv_F hIc90 0 1000 rfl v90_46_4); unfold In at a3; have a4 := (inv_F hIc90 0 1000 rfl v90_46_2); unfold In at a4; have a5 := i93; unfold In at a5; have a6 := j90_3; unfold In at a6; have a7 := i119a; unfold In at a7; have a8 := i109x5; unfold In at a8; have a9 := t_add e101 (inv_F hIc90 0 1000 rfl v90_46_2) (in_c 1 rfl) rfl; have a10 := (in_c 1 rfl); unfold In at a10; omega
              have n122h : (s.2.2.1 46 2).toInt ≤ (s119.2.2.1 46 4).toInt := by have b0 : w90_46_4 = s119.2.2.1 46 4 := fr_F (v90_46_4) hF119 rfl; rw [← b0, ← e_46_2]; exact n122g
              exact g_return (gd rfl) rfl (hP _ _ ⟨s119, hI119, (fr_tr rfl hFc90 hF119), n122b, n122d, n122f, n122h, rfl, rfl, n122⟩)
  have ct38 : ∀ (sc38 : GS) (w38_46_2 : Int32), Inv sc38 → Fr fm_171_46 s sc38 → (w38_46_2 = sc38.2.2.1 46 2) → ((w38_46_2).toInt ≤ (u_46_1).toInt) → ((u_46_2).toInt ≤ (w38_46_2).toInt) → GG Z (d - 1) 171 post (gx xp) (2703) 38 (fun j => xlook j [(0, .ref (A 46)), (1, .int x1), (2, .int x2)]) [] (WW Z A sc38 ++ ex) 0 0 := by
    intro sc38 w38_46_2 hIc38 hFc38 v38_46_2 n38_0 n38_1
    refine g_aload_n 39 (gd rfl) rfl rfl ?_
    refine g_aload_n 40 (gd rfl) rfl rfl ?_
    refine g_getI 43 (gd rfl) rfl rfl rfl (fun z40 e40 => ?_)
    have q40 : w38_46_2 = z40 := (v38_46_2).trans e40.symm
    subst q40
    refine g_putI 46 (gd rfl) rfl rfl rfl rfl ?_
    have hI43 := inv_sF (q := 46) (j := 4) hIc38 rfl (in_w 0 1000 (inv_F hIc38 0 1000 rfl v38_46_2) rfl)
    refine g_aload_n 47 (gd rfl) rfl rfl ?_
    refine g_iconst 0 48 (gd rfl) rfl rfl ?_
    refine g_putI 51 (gd rfl) rfl rfl rfl rfl ?_
    have hI48 := inv_sF (q := 46) (j := 3) hI43 rfl (in_w 0 5 (in_c 0 rfl) rfl)
    refine g_aload_n 52 (gd rfl) rfl rfl ?_
    refine g_getI 55 (gd rfl) rfl rfl rfl (fun z52 e52 => ?_)
    have q52 : w38_46_2 = z52 := (sF_ne rfl (sF_ne rfl (v38_46_2))).trans e52.symm
    subst q52
    refine g_aload_n 56 (gd rfl) rfl rfl ?_
    refine g_getI 59 (gd rfl) rfl rfl rfl (fun z56 e56 => ?_)
    have q56 : u_46_1 = z56 := (sF_ne rfl (sF_ne rfl (fr_F e_46_1 hFc38 rfl))).trans e56.symm
    subst q56
    refine g_cmp_lt 62 63 (gd rfl) rfl rfl (fun c59 => ?_) (fun c59 => ?_)
    · skip
      have i59 := r_lt1 0 999 c59 (inv_F hIc38 0 1000 rfl v38_46_2) ro_46_1 rfl
      have i59a := r_lt2 1 1000 c59 (inv_F hIc38 0 1000 rfl v38_46_2) ro_46_1 rfl
      refine g_aload_n 64 (gd rfl) rfl rfl ?_
      refine g_getA (q2 := 47) 67 (gd rfl) rfl rfl rfl rfl ?_
      refine g_aload_n 68 (gd rfl) rfl rfl ?_
      refine g_getI 71 (gd rfl) rfl rfl rfl (fun z68 e68 => ?_)
      have q68 : w38_46_2 = z68 := (sF_ne rfl (sF_ne rfl (v38_46_2))).trans e68.symm
      subst q68
      refine g_caload 72 (gd rfl) rfl (n := 1000) rfl (in_ix i59 rfl) (fun z71 e71 => ?_)
      have i71 := inv_I hI48 (n := 1000) (t := 2) 0 65535 rfl (in_ix i59 rfl) rfl e71
      refine g_istore_n 73 (gd rfl) rfl (Nat.le_of_ble_eq_true rfl) ?_
      refine g_iload_n 74 (gd rfl) rfl rfl ?_
      refine g_if_eq 77 87 (gd rfl) rfl rfl (fun c74 => ?_) (fun c74 => ?_)
      · skip
        have i74 := z_eq 0 0 c74 h2 rfl
        refine g_iconst 0 88 (gd rfl) rfl rfl ?_
        refine g_istore 90 (gd rfl) rfl (Nat.le_of_ble_eq_true rfl) ?_
        have v90 : w38_46_2 = (sF (sF sc38 46 4 w38_46_2) 46 3 (Int32.ofInt 0)).2.2.1 46 2 := sF_ne rfl (sF_ne rfl (v38_46_2))
        have v90a : w38_46_2 = (sF (sF sc38 46 4 w38_46_2) 46 3 (Int32.ofInt 0)).2.2.1 46 4 := sF_ne rfl (sF_get)
        have n90 : (w38_46_2).toInt + 1 ≤ (u_46_1).toInt := by have a0 := i74; unfold In at a0; have a1 := h1; unfold In at a1; have a2 := i59a; unfold In at a2; have a3 := i59; unfold In at a3; have a4 := (in_c 0 rfl); unfold In at a4; have a5 := i71; unfold In at a5; omega
        have n90a : (w38_46_2).toInt = (w38_46_2).toInt := by have a0 := i74; unfold In at a0; have a1 := h1; unfold In at a1; have a2 := i59a; unfold In at a2; have a3 := i59; unfold In at a3; have a4 := (in_c 0 rfl); unfold In at a4; have a5 := i71; unfold In at a5; omega
        have n90b : (u_46_2).toInt ≤ (w38_46_2).toInt := by have a0 := i74; unfold In at a0; have a1 := h1; unfold In at a1; have a2 := i59a; unfold In at a2; have a3 := i59; unfold In at a3; have a4 := (in_c 0 rfl); unfold In at a4; have a5 := i71; unfold In at a5; omega
        exact gg_w (by omega) (gg_f (gf_cons rfl (gf_cons rfl (gf_cons rfl (gf_cons rfl (gf_cons rfl gf_nil))))) (ct90 (sF (sF sc38 46 4 w38_46_2) 46 3 (Int32.ofInt 0)) z71 (Int32.ofInt 0) w38_46_2 w38_46_2 hI48 (fr_sF rfl (fr_sF rfl hFc38)) (in_w 0 65535 i71 rfl) (in_w 0 1 (in_c 0 rfl) rfl) v90 v90a n90 n90a n90b))
      · skip
        have i74 := z_ne 1 1 c74 h2 rfl
        refine g_iload_n 78 (gd rfl) rfl rfl ?_
        refine g_bipush 45 80 (gd rfl) rfl rfl ?_
        refine g_cmp_ne 83 87 (gd rfl) rfl rfl (fun c80 => ?_) (fun c80 => ?_)
        · skip
          refine g_iconst 0 88 (gd rfl) rfl rfl ?_
          refine g_istore 90 (gd rfl) rfl (Nat.le_of_ble_eq_true rfl) ?_
          have v90 : w38_46_2 = (sF (sF sc38 46 4 w38_46_2) 46 3 (Int32.ofInt 0)).2.2.1 46 2 := sF_ne rfl (sF_ne rfl (v38_46_2))
          have v90a : w38_46_2 = (sF (sF sc38 46 4 w38_46_2) 46 3 (Int32.ofInt 0)).2.2.1 46 4 := sF_ne rfl (sF_get)
          have n90 : (w38_46_2).toInt + 1 ≤ (u_46_1).toInt := by have a0 := i74; unfold In at a0; have a1 := h1; unfold In at a1; have a2 := i59a; unfold In at a2; have a3 := i59; unfold In at a3; have a4 := (in_c 0 rfl); unfold In at a4; have a5 := i71; unfold In at a5; omega
          have n90a : (w38_46_2).toInt = (w38_46_2).toInt := by have a0 := i74; unfold In at a0; have a1 := h1; unfold In at a1; have a2 := i59a; unfold In at a2; have a3 := i59; unfold In at a3; have a4 := (in_c 0 rfl); unfold In at a4; have a5 := i71; unfold In at a5; omega
          have n90b : (u_46_2).toInt ≤ (w38_46_2).toInt := by have a0 := i74; unfold In at a0; have a1 := h1; unfold In at a1; have a2 := i59a; unfold In at a2; have a3 := i59; unfold In at a3; have a4 := (in_c 0 rfl); unfold In at a4; have a5 := i71; unfold In at a5; omega
          exact gg_w (by omega) (gg_f (gf_cons rfl (gf_cons rfl (gf_cons rfl (gf_cons rfl (gf_cons rfl gf_nil))))) (ct90 (sF (sF sc38 46 4 w38_46_2) 46 3 (Int32.ofInt 0)) z71 (Int32.ofInt 0) w38_46_2 w38_46_2 hI48 (fr_sF rfl (fr_sF rfl hFc38)) (in_w 0 65535 i71 rfl) (in_w 0 1 (in_c 0 rfl) rfl) v90 v90a n90 n90a n90b))
        · skip
          have i80 := r_eq1 45 45 c80 i71 (in_c 45 rfl) rfl
          refine g_iconst 1 84 (gd rfl) rfl rfl ?_
          refine g_goto 88 (gd rfl) rfl ?_
          refine g_istore 90 (gd rfl) rfl (Nat.le_of_ble_eq_true rfl) ?_
          have v90 : w38_46_2 = (sF (sF sc38 46 4 w38_46_2) 46 3 (Int32.ofInt 0)).2.2.1 46 2 := sF_ne rfl (sF_ne rfl (v38_46_2))
          have v90a : w38_46_2 = (sF (sF sc38 46 4 w38_46_2) 46 3 (Int32.ofInt 0)).2.2.1 46 4 := sF_ne rfl (sF_get)
          have n90 : (w38_46_2).toInt + 1 ≤ (u_46_1).toInt := by have a0 := i74; unfold In at a0; have a1 := h1; unfold In at a1; have a2 := i59a; unfold In at a2; have a3 := i59; unfold In at a3; have a4 := (in_c 1 rfl); unfold In at a4; have a5 := i80; unfold In at a5; have a6 := (in_c 0 rfl); unfold In at a6; omega
          have n90a : (w38_46_2).toInt = (w38_46_2).toInt := by have a0 := i74; unfold In at a0; have a1 := h1; unfold In at a1; have a2 := i59a; unfold In at a2; have a3 := i59; unfold In at a3; have a4 := (in_c 1 rfl); unfold In at a4; have a5 := i80; unfold In at a5; have a6 := (in_c 0 rfl); unfold In at a6; omega
          have n90b : (u_46_2).toInt ≤ (w38_46_2).toInt := by have a0 := i74; unfold In at a0; have a1 := h1; unfold In at a1; have a2 := i59a; unfold In at a2; have a3 := i59; unfold In at a3; have a4 := (in_c 1 rfl); unfold In at a4; have a5 := i80; unfold In at a5; have a6 := (in_c 0 rfl); unfold In at a6; omega
          exact gg_w (by omega) (gg_f (gf_cons rfl (gf_cons rfl (gf_cons rfl (gf_cons rfl (gf_cons rfl gf_nil))))) (ct90 (sF (sF sc38 46 4 w38_46_2) 46 3 (Int32.ofInt 0)) z71 (Int32.ofInt 1) w38_46_2 w38_46_2 hI48 (fr_sF rfl (fr_sF rfl hFc38)) (in_w 0 65535 i80 rfl) (in_w 0 1 (in_c 1 rfl) rfl) v90 v90a n90 n90a n90b))
    · skip
      have n62 : (x1).toInt = 6 → ((sF (sF sc38 46 4 w38_46_2) 46 3 (Int32.ofInt 0)).2.2.1 46 3).toInt = 2 → ((sF (sF sc38 46 4 w38_46_2) 46 3 (Int32.ofInt 0)).2.2.1 46 5).toInt ≤ 999999 := by intro _ h2; rw [← (show (Int32.ofInt 0) = (sF (sF sc38 46 4 w38_46_2) 46 3 (Int32.ofInt 0)).2.2.1 46 3 from sF_get)] at h2; exact absurd h2 (by decide)
      have n62a : (w38_46_2).toInt ≤ (u_46_1).toInt := by have a0 := h2; unfold In at a0; have a1 := h1; unfold In at a1; have a2 := ro_46_1; unfold In at a2; have a3 := (inv_F hIc38 0 1000 rfl v38_46_2); unfold In at a3; have a4 := (in_c 0 rfl); unfold In at a4; omega
      have n62b : ((sF (sF sc38 46 4 w38_46_2) 46 3 (Int32.ofInt 0)).2.2.1 46 2).toInt ≤ ((sF (sF sc38 46 4 w38_46_2) 46 3 (Int32.ofInt 0)).2.2.1 46 1).toInt := by have b0 : w38_46_2 = (sF (sF sc38 46 4 w38_46_2) 46 3 (Int32.ofInt 0)).2.2.1 46 2 := sF_ne rfl (sF_ne rfl (v38_46_2)); have b1 : u_46_1 = (sF (sF sc38 46 4 w38_46_2) 46 3 (Int32.ofInt 0)).2.2.1 46 1 := sF_ne rfl (sF_ne rfl (fr_F e_46_1 hFc38 rfl)); rw [← b0, ← b1]; exact n62a
      have n62c : ((Int32.ofInt 0)).toInt = 0 ∨ (w38_46_2).toInt + 1 ≤ (w38_46_2).toInt := by have a0 := h2; unfold In at a0; have a1 := h1; unfold In at a1; have a2 := ro_46_1; unfold In at a2; have a3 := (inv_F hIc38 0 1000 rfl v38_46_2); unfold In at a3; have a4 := (in_c 0 rfl); unfold In at a4; omega
      have n62d : ((sF (sF sc38 46 4 w38_46_2) 46 3 (Int32.ofInt 0)).2.2.1 46 3).toInt = 0 ∨ ((sF (sF sc38 46 4 w38_46_2) 46 3 (Int32.ofInt 0)).2.2.1 46 4).toInt + 1 ≤ ((sF (sF sc38 46 4 w38_46_2) 46 3 (Int32.ofInt 0)).2.2.1 46 2).toInt := by have b0 : (Int32.ofInt 0) = (sF (sF sc38 46 4 w38_46_2) 46 3 (Int32.ofInt 0)).2.2.1 46 3 := sF_get; have b1 : w38_46_2 = (sF (sF sc38 46 4 w38_46_2) 46 3 (Int32.ofInt 0)).2.2.1 46 4 := sF_ne rfl (sF_get); have b2 : w38_46_2 = (sF (sF sc38 46 4 w38_46_2) 46 3 (Int32.ofInt 0)).2.2.1 46 2 := sF_ne rfl (sF_ne rfl (v38_46_2)); rw [← b0, ← b1, ← b2]; exact n62c
      have n62e : (w38_46_2).toInt ≤ (w38_46_2).toInt := by have a0 := h2; unfold In at a0; have a1 := h1; unfold In at a1; have a2 := ro_46_1; unfold In at a2; have a3 := (inv_F hIc38 0 1000 rfl v38_46_2); unfold In at a3; have a4 := (in_c 0 rfl); unfold In at a4; omega
      have n62f : ((sF (sF sc38 46 4 w38_46_2) 46 3 (Int32.ofInt 0)).2.2.1 46 4).toInt ≤ ((sF (sF sc38 46 4 w38_46_2) 46 3 (Int32.ofInt 0)).2.2.1 46 2).toInt := by have b0 : w38_46_2 = (sF (sF sc38 46 4 w38_46_2) 46 3 (Int32.ofInt 0)).2.2.1 46 4 := sF_ne rfl (sF_get); have b1 : w38_46_2 = (sF (sF sc38 46 4 w38_46_2) 46 3 (Int32.ofInt 0)).2.2.1 46 2 := sF_ne rfl (sF_ne rfl (v38_46_2)); rw [← b0, ← b1]; exact n62e
      have n62g : (u_46_2).toInt ≤ (w38_46_2).toInt := by have a0 := h2; unfold In at a0; have a1 := h1; unfold In at a1; have a2 := ro_46_1; unfold In at a2; have a3 := (inv_F hIc38 0 1000 rfl v38_46_2); unfold In at a3; have a4 := (in_c 0 rfl); unfold In at a4; omega
      have n62h : (s.2.2.1 46 2).toInt ≤ ((sF (sF sc38 46 4 w38_46_2) 46 3 (Int32.ofInt 0)).2.2.1 46 4).toInt := by have b0 : w38_46_2 = (sF (sF sc38 46 4 w38_46_2) 46 3 (Int32.ofInt 0)).2.2.1 46 4 := sF_ne rfl (sF_get); rw [← b0, ← e_46_2]; exact n62g
      exact g_return (gd rfl) rfl (hP _ _ ⟨(sF (sF sc38 46 4 w38_46_2) 46 3 (Int32.ofInt 0)), hI48, (fr_sF rfl (fr_sF rfl hFc38)), n62b, n62d, n62f, n62h, rfl, rfl, n62⟩)
  have ct0 : ∀ (k0 : Nat) (sc0 : GS) (w0_46_2 : Int32), Inv sc0 → Fr fm_171_46 s sc0 → (w0_46_2 = sc0.2.2.1 46 2) → ((w0_46_2).toInt ≤ (u_46_1).toInt) → ((u_46_2).toInt ≤ (w0_46_2).toInt) → (u_46_1).toInt - (w0_46_2).toInt < (k0 : Int) → GG Z (d - 1) 171 post (gx xp) (2704 + k0 * 900) 0 (fun j => xlook j [(0, .ref (A 46)), (1, .int x1), (2, .int x2)]) [] (WW Z A sc0 ++ ex) 0 0 := by
    intro k0
    induction k0 with
    | zero => intro sc0 w0_46_2 hIc0 hFc0 v0_46_2 n0_0 n0_1 mm0; exfalso; have a0 := h2; unfold In at a0; have a1 := h1; unfold In at a1; have a2 := ro_46_1; unfold In at a2; have a3 := (inv_F hIc0 0 1000 rfl v0_46_2); unfold In at a3; omega
    | succ k0 ih0 =>
      intro sc0 w0_46_2 hIc0 hFc0 v0_46_2 n0_0 n0_1 mm0
      refine gg_w (M := 2704 + k0 * 900 + 900) (by omega) ?_
      refine g_aload_n 1 (gd rfl) rfl rfl ?_
      refine g_getI 4 (gd rfl) rfl rfl rfl (fun z1 e1 => ?_)
      have q1 : w0_46_2 = z1 := (v0_46_2).trans e1.symm
      subst q1
      refine g_aload_n 5 (gd rfl) rfl rfl ?_
      refine g_getI 8 (gd rfl) rfl rfl rfl (fun z5 e5 => ?_)
      have q5 : u_46_1 = z5 := (fr_F e_46_1 hFc0 rfl).trans e5.symm
      subst q5
      refine g_cmp_ge 11 38 (gd rfl) rfl rfl (fun c8 => ?_) (fun c8 => ?_)
      · skip
        have n38 : (w0_46_2).toInt ≤ (u_46_1).toInt := by have a0 := h2; unfold In at a0; have a1 := h1; unfold In at a1; have a2 := ro_46_1; unfold In at a2; have a3 := (inv_F hIc0 0 1000 rfl v0_46_2); unfold In at a3; omega
        have n38a : (u_46_2).toInt ≤ (w0_46_2).toInt := by have a0 := h2; unfold In at a0; have a1 := h1; unfold In at a1; have a2 := ro_46_1; unfold In at a2; have a3 := (inv_F hIc0 0 1000 rfl v0_46_2); unfold In at a3; omega
        exact gg_w (by omega) (gg_f (gf_cons rfl (gf_cons rfl (gf_cons rfl gf_nil))) (ct38 sc0 w0_46_2 hIc0 hFc0 v0_46_2 n38 n38a))
      · skip
        have i8 := r_lt1 0 999 c8 (inv_F hIc0 0 1000 rfl v0_46_2) ro_46_1 rfl
        have i8a := r_lt2 1 1000 c8 (inv_F hIc0 0 1000 rfl v0_46_2) ro_46_1 rfl
        refine g_aload_n 12 (gd rfl) rfl rfl ?_
        refine g_getA (q2 := 47) 15 (gd rfl) rfl rfl rfl rfl ?_
        refine g_aload_n 16 (gd rfl) rfl rfl ?_
        refine g_getI 19 (gd rfl) rfl rfl rfl (fun z16 e16 => ?_)
        have q16 : w0_46_2 = z16 := (v0_46_2).trans e16.symm
        subst q16
        refine g_caload 20 (gd rfl) rfl (n := 1000) rfl (in_ix i8 rfl) (fun z19 e19 => ?_)
        have i19 := inv_I hIc0 (n := 1000) (t := 2) 0 65535 rfl (in_ix i8 rfl) rfl e19
        refine g_bipush 32 22 (gd rfl) rfl rfl ?_
        refine g_cmp_ne 25 38 (gd rfl) rfl rfl (fun c22 => ?_) (fun c22 => ?_)
        · skip
          have n38 : (w0_46_2).toInt ≤ (u_46_1).toInt := by have a0 := h2; unfold In at a0; have a1 := h1; unfold In at a1; have a2 := i8a; unfold In at a2; have a3 := i8; unfold In at a3; omega
          have n38a : (u_46_2).toInt ≤ (w0_46_2).toInt := by have a0 := h2; unfold In at a0; have a1 := h1; unfold In at a1; have a2 := i8a; unfold In at a2; have a3 := i8; unfold In at a3; omega
          exact gg_w (by omega) (gg_f (gf_cons rfl (gf_cons rfl (gf_cons rfl gf_nil))) (ct38 sc0 w0_46_2 hIc0 hFc0 v0_46_2 n38 n38a))
        · skip
          have i22 := r_eq1 32 32 c22 i19 (in_c 32 rfl) rfl
          refine g_aload_n 26 (gd rfl) rfl rfl ?_
          refine g_dup 27 (gd rfl) rfl rfl ?_
          refine g_getI 30 (gd rfl) rfl rfl rfl (fun z27 e27 => ?_)
          have q27 : w0_46_2 = z27 := (v0_46_2).trans e27.symm
          subst q27
          refine g_iconst 1 31 (gd rfl) rfl rfl ?_
          refine g_iadd 32 (gd rfl) rfl (fun z31 e31 => ?_)
          have i31 := in_add 1 1000 e31 i8 (in_c 1 rfl) rfl rfl
          refine g_putI 35 (gd rfl) rfl rfl rfl rfl ?_
          have hI32 := inv_sF (q := 46) (j := 2) hIc0 rfl (in_w 0 1000 i31 rfl)
          refine g_goto 0 (gd rfl) rfl ?_
          have v0 : z31 = (sF sc0 46 2 z31).2.2.1 46 2 := sF_get
          have n0 : (z31).toInt ≤ (u_46_1).toInt := by have a0 := h2; unfold In at a0; have a1 := h1; unfold In at a1; have a2 := i8a; unfold In at a2; have a3 := i8; unfold In at a3; have a4 := i31; unfold In at a4; have a5 := t_add e31 i8 (in_c 1 rfl) rfl; have a6 := (in_c 1 rfl); unfold In at a6; omega
          have n0a : (u_46_2).toInt ≤ (z31).toInt := by have a0 := h2; unfold In at a0; have a1 := h1; unfold In at a1; have a2 := i8a; unfold In at a2; have a3 := i8; unfold In at a3; have a4 := i31; unfold In at a4; have a5 := t_add e31 i8 (in_c 1 rfl) rfl; have a6 := (in_c 1 rfl); unfold In at a6; omega
          have m0 : (u_46_1).toInt - (z31).toInt < ((k0 : Nat) : Int) := by have a0 := h2; unfold In at a0; have a1 := h1; unfold In at a1; have a2 := i8a; unfold In at a2; have a3 := i8; unfold In at a3; have a4 := i31; unfold In at a4; have a5 := t_add e31 i8 (in_c 1 rfl) rfl; have a6 := (in_c 1 rfl); unfold In at a6; omega
          exact gg_w (by omega) (gg_f (gf_cons rfl (gf_cons rfl (gf_cons rfl gf_nil))) (ih0  (sF sc0 46 2 z31) z31 hI32 (fr_sF rfl hFc0) v0 n0 n0a m0))
  refine g_enter2 (k := 171) (N := 904504) (by omega) rfl (Nat.le_of_ble_eq_true rfl) ?_
  have n0 : (u_46_2).toInt ≤ (u_46_1).toInt := by have a0 := (inv_F hI 0 1000 rfl e_46_1); unfold In at a0; have a1 := (inv_F hI 0 1000 rfl e_46_2); unfold In at a1; have a2 := h2; unfold In at a2; have a3 := h1; unfold In at a3; omega
  have n0a : (u_46_2).toInt ≤ (u_46_2).toInt := by have a0 := (inv_F hI 0 1000 rfl e_46_1); unfold In at a0; have a1 := (inv_F hI 0 1000 rfl e_46_2); unfold In at a1; have a2 := h2; unfold In at a2; have a3 := h1; unfold In at a3; omega
  have m0 : (u_46_1).toInt - (u_46_2).toInt < ((1001 : Nat) : Int) := by have a0 := (inv_F hI 0 1000 rfl e_46_1); unfold In at a0; have a1 := (inv_F hI 0 1000 rfl e_46_2); unfold In at a1; have a2 := h2; unfold In at a2; have a3 := h1; unfold In at a3; omega
  exact gg_w (by omega) (gg_f (gf_cons rfl (gf_cons rfl (gf_cons rfl gf_nil))) (ct0 1001 s u_46_2 hI fr_rf e_46_2 n0 n0a m0))

def fm_62_102_46 : FM := ([104], [], [(46, 2), (46, 3), (46, 4), (46, 5), (46, 6), (46, 7), (102, 4)], [])
/-- GraphHouse$Engine.readAtom -/
theorem k_62_102_46 {Z : AmZ} {A : Nat → Nat} {s : GS} {ex : va_W} {d : Nat} {X : AmX} {u_46_2 : Int32} {u_46_1 : Int32} {u_46_4 : Int32} {u_46_3 : Int32} {u_46_5 : Int32} {u_102_4 : Int32} (hd : 8 ≤ d) (hI : Inv s) (e_46_2 : u_46_2 = s.2.2.1 46 2) (e_46_1 : u_46_1 = s.2.2.1 46 1) (e_46_4 : u_46_4 = s.2.2.1 46 4) (e_46_3 : u_46_3 = s.2.2.1 46 3) (e_46_5 : u_46_5 = s.2.2.1 46 5) (e_102_4 : u_102_4 = s.2.2.1 102 4) (r_46_1 : In u_46_1 0 120) (p_0 : (u_46_2).toInt ≤ (u_46_1).toInt) (p_1 : (u_46_3).toInt = 0 ∨ (u_46_4).toInt + 1 ≤ (u_46_2).toInt) (p_2 : (u_46_4).toInt ≤ (u_46_2).toInt) (p_3 : (u_102_4).toInt ≤ (u_46_4).toInt) (p_4 : (u_46_3).toInt = 2 → (u_46_5).toInt ≤ 999999) (p_5 : (u_46_3).toInt = 1 ∨ (u_46_3).toInt = 2) : GC Z d 62 [.ref (A 102), .ref (A 46)] (WW Z A s ++ ex) 0 0 (fun v u => ∃ t : GS, Inv t ∧ Fr fm_62_102_46 s t ∧ ((t.2.2.1 46 2).toInt ≤ (t.2.2.1 46 1).toInt) ∧ ((t.2.2.1 46 3).toInt = 0 ∨ (t.2.2.1 46 4).toInt + 1 ≤ (t.2.2.1 46 2).toInt) ∧ ((t.2.2.1 46 4).toInt ≤ (t.2.2.1 46 2).toInt) ∧ ((t.2.2.1 102 4).toInt ≤ (t.2.2.1 46 4).toInt) ∧ ((t.2.2.1 46 3).toInt = 2 → (t.2.2.1 46 5).toInt ≤ 999999) ∧ ((s.2.2.1 46 4).toInt - (s.2.2.1 102 4).toInt ≤ (t.2.2.1 46 4).toInt - (t.2.2.1 102 4).toInt) ∧ ∃ z : Int32, v = some (.int z) ∧ u = WW Z A t ++ ex ∧ In z 0 1 ∧ ((z).toInt ≠ 0 → PCV s t 1)) X := by
  intro post xp hP hX
  refine g_enter2 (k := 62) (N := 900) (by omega) rfl (Nat.le_of_ble_eq_true rfl) ?_
  refine g_aload_n 1 (gd rfl) rfl rfl ?_
  refine g_getI 4 (gd rfl) rfl rfl rfl (fun z1 e1 => ?_)
  have q1 : u_46_5 = z1 := (e_46_5).trans e1.symm
  subst q1
  refine g_istore_n 5 (gd rfl) rfl (Nat.le_of_ble_eq_true rfl) ?_
  refine g_aload_n 6 (gd rfl) rfl rfl ?_
  refine g_getI 9 (gd rfl) rfl rfl rfl (fun z6 e6 => ?_)
  have q6 : u_46_3 = z6 := (e_46_3).trans e6.symm
  subst q6
  refine g_iconst 1 10 (gd rfl) rfl rfl ?_
  refine g_cmp_ne 13 46 (gd rfl) rfl rfl (fun c10 => ?_) (fun c10 => ?_)
  · skip
    refine g_aload_n 47 (gd rfl) rfl rfl ?_
    refine g_iload_n 48 (gd rfl) rfl rfl ?_
    have hD : (s.2.2.1 102 4).toInt < 120 := (by rw [← (show u_102_4 = s.2.2.1 102 4 from e_102_4)]; have a0 := (inv_F hI 0 120 rfl e_102_4); unfold In at a0; have a1 := (inv_F hI 0 5 rfl e_46_3); unfold In at a1; have a2 := (inv_F hI 0 1000 rfl e_46_4); unfold In at a2; have a3 := r_46_1; unfold In at a3; have a4 := (inv_F hI 0 1000 rfl e_46_2); unfold In at a4; omega)
    have hDe : _ = s.2.2.1 102 4 := (show u_102_4 = s.2.2.1 102 4 from e_102_4)
    refine g_callv (X := _) (As := [.int u_46_5]) (r := []) (b := A 102) (q := 102) 51 (gd rfl) rfl rfl rfl rfl rfl (ww_o rfl) (Nat.le_of_ble_eq_true rfl) (Nat.zero_le _) (Nat.zero_le _) (k_57_102 (by omega) hI e_102_4) (fun e u h => h) (fun v u h => ?_)
    obtain ⟨s48, hI48, hF48, n48, n48a, z48, rfl, rfl, i48, p48⟩ := h
    obtain ⟨z48a, e48⟩ : ∃ w, w = s48.2.2.1 102 4 := ⟨_, rfl⟩
    have i48a := inv_F hI48 0 120 rfl e48
    rw [← (show u_102_4 = s.2.2.1 102 4 from e_102_4)] at n48
    rw [← (show z48a = s48.2.2.1 102 4 from e48)] at n48
    rw [← (show u_102_4 = s.2.2.1 102 4 from e_102_4)] at n48a
    rw [← (show z48a = s48.2.2.1 102 4 from e48)] at n48a
    show GG _ _ _ _ _ _ _ _ [.int z48] _ _ _
    refine g_pop 52 (gd rfl) rfl rfl ?_
    refine g_aload_n 53 (gd rfl) rfl rfl ?_
    refine g_bipush 6 55 (gd rfl) rfl rfl ?_
    refine g_iconst 0 56 (gd rfl) rfl rfl ?_
    have v56 : u_46_2 = s48.2.2.1 46 2 := fr_F (e_46_2) hF48 rfl
    have v56a : u_46_1 = s48.2.2.1 46 1 := fr_F (e_46_1) hF48 rfl
    have n56 : (u_46_2).toInt ≤ (u_46_1).toInt := by have a0 := (inv_F hI 0 120 rfl e_102_4); unfold In at a0; have a1 := (inv_F hI 0 5 rfl e_46_3); unfold In at a1; have a2 := (inv_F hI 0 1000 rfl e_46_4); unfold In at a2; have a3 := r_46_1; unfold In at a3; have a4 := (inv_F hI 0 1000 rfl e_46_2); unfold In at a4; have a5 := i48a; unfold In at a5; omega
    refine g_callv (X := _) (As := [.int (Int32.ofInt 6), .int (Int32.ofInt 0)]) (r := []) (b := A 46) (q := 46) 59 (gd rfl) rfl rfl rfl rfl rfl (ww_o rfl) (Nat.le_of_ble_eq_true rfl) (Nat.zero_le _) (Nat.zero_le _) (k_171_46 (by omega) hI48 (in_w 6 7 (in_c 6 rfl) rfl) (in_w 0 1 (in_c 0 rfl) rfl) v56 v56a n56) (fun e u h => h) (fun v u h => ?_)
    obtain ⟨s56, hI56, hF56, n56a, n56b, n56c, n56d, rfl, rfl, p56⟩ := h
    obtain ⟨z56a, e56⟩ : ∃ w, w = s56.2.2.1 46 2 := ⟨_, rfl⟩
    have i56a := inv_F hI56 0 1000 rfl e56
    obtain ⟨z56b, e56a⟩ : ∃ w, w = s56.2.2.1 46 3 := ⟨_, rfl⟩
    have i56b := inv_F hI56 0 5 rfl e56a
    obtain ⟨z56c, e56b⟩ : ∃ w, w = s56.2.2.1 46 4 := ⟨_, rfl⟩
    have i56c := inv_F hI56 0 1000 rfl e56b
    rw [← (show z56a = s56.2.2.1 46 2 from e56)] at n56a
    rw [← (show u_46_1 = s56.2.2.1 46 1 from fr_F (fr_F (e_46_1) hF48 rfl) hF56 rfl)] at n56a
    rw [← (show z56a = s56.2.2.1 46 2 from e56)] at n56b
    rw [← (show z56b = s56.2.2.1 46 3 from e56a)] at n56b
    rw [← (show z56c = s56.2.2.1 46 4 from e56b)] at n56b
    rw [← (show z56a = s56.2.2.1 46 2 from e56)] at n56c
    rw [← (show z56c = s56.2.2.1 46 4 from e56b)] at n56c
    rw [← (show u_46_2 = s48.2.2.1 46 2 from fr_F (e_46_2) hF48 rfl)] at n56d
    rw [← (show z56c = s56.2.2.1 46 4 from e56b)] at n56d
    show GG _ _ _ _ _ _ _ _ [] _ _ _
    have hv56 := p56 (by decide); rw [← (show z56b = s56.2.2.1 46 3 from e56a)] at hv56
    refine g_iconst 1 60 (gd rfl) rfl rfl ?_
    have n60 : ((Int32.ofInt 1)).toInt ≠ 0 → PCV s s56 1 := by intro _; exact pv_tr (j := 1) (k := 0) (pv_st (j := 0) (k := 1) pv_rf (inv_F hI 0 120 rfl rfl).1 (p48 hD) (by rw [← (show z48a = s56.2.2.1 102 4 from fr_F (e48) hF56 rfl), ← hDe]; have a0 := (inv_F hI 0 120 rfl e_102_4); unfold In at a0; have a1 := (inv_F hI 0 5 rfl e_46_3); unfold In at a1; have a2 := (inv_F hI 0 1000 rfl e_46_4); unfold In at a2; have a3 := r_46_1; unfold In at a3; have a4 := (inv_F hI 0 1000 rfl e_46_2); unfold In at a4; have a5 := i56c; unfold In at a5; have a6 := i56b; unfold In at a6; have a7 := i56a; unfold In at a7; have a8 := i48a; unfold In at a8; omega) (fun e => hc_a (by have a0 := (inv_F hI 0 120 rfl e_102_4); unfold In at a0; have a1 := (inv_F hI 0 5 rfl e_46_3); unfold In at a1; have a2 := (inv_F hI 0 1000 rfl e_46_4); unfold In at a2; have a3 := r_46_1; unfold In at a3; have a4 := (inv_F hI 0 1000 rfl e_46_2); unfold In at a4; have a5 := i56c; unfold In at a5; have a6 := i56b; unfold In at a6; have a7 := i56a; unfold In at a7; have a8 := i48a; unfold In at a8; omega) e)) (pv_sm (hF56.1 104 rfl) (hF56.2.2.1 102 4 rfl))
    have n60a : (z56a).toInt ≤ (u_46_1).toInt := by have a0 := (inv_F hI 0 120 rfl e_102_4); unfold In at a0; have a1 := (inv_F hI 0 5 rfl e_46_3); unfold In at a1; have a2 := (inv_F hI 0 1000 rfl e_46_4); unfold In at a2; have a3 := r_46_1; unfold In at a3; have a4 := (inv_F hI 0 1000 rfl e_46_2); unfold In at a4; have a5 := i56c; unfold In at a5; have a6 := i56b; unfold In at a6; have a7 := i56a; unfold In at a7; have a8 := i48a; unfold In at a8; omega
    have n60b : (s56.2.2.1 46 2).toInt ≤ (s56.2.2.1 46 1).toInt := by have b0 : z56a = s56.2.2.1 46 2 := e56; have b1 : u_46_1 = s56.2.2.1 46 1 := fr_F (fr_F (e_46_1) hF48 rfl) hF56 rfl; rw [← b0, ← b1]; exact n60a
    have n60c : (z56b).toInt = 0 ∨ (z56c).toInt + 1 ≤ (z56a).toInt := by have a0 := (inv_F hI 0 120 rfl e_102_4); unfold In at a0; have a1 := (inv_F hI 0 5 rfl e_46_3); unfold In at a1; have a2 := (inv_F hI 0 1000 rfl e_46_4); unfold In at a2; have a3 := r_46_1; unfold In at a3; have a4 := (inv_F hI 0 1000 rfl e_46_2); unfold In at a4; have a5 := i56c; unfold In at a5; have a6 := i56b; unfold In at a6; have a7 := i56a; unfold In at a7; have a8 := i48a; unfold In at a8; omega
    have n60d : (s56.2.2.1 46 3).toInt = 0 ∨ (s56.2.2.1 46 4).toInt + 1 ≤ (s56.2.2.1 46 2).toInt := by have b0 : z56b = s56.2.2.1 46 3 := e56a; have b1 : z56c = s56.2.2.1 46 4 := e56b; have b2 : z56a = s56.2.2.1 46 2 := e56; rw [← b0, ← b1, ← b2]; exact n60c
    have n60e : (z56c).toInt ≤ (z56a).toInt := by have a0 := (inv_F hI 0 120 rfl e_102_4); unfold In at a0; have a1 := (inv_F hI 0 5 rfl e_46_3); unfold In at a1; have a2 := (inv_F hI 0 1000 rfl e_46_4); unfold In at a2; have a3 := r_46_1; unfold In at a3; have a4 := (inv_F hI 0 1000 rfl e_46_2); unfold In at a4; have a5 := i56c; unfold In at a5; have a6 := i56b; unfold In at a6; have a7 := i56a; unfold In at a7; have a8 := i48a; unfold In at a8; omega
    have n60f : (s56.2.2.1 46 4).toInt ≤ (s56.2.2.1 46 2).toInt := by have b0 : z56c = s56.2.2.1 46 4 := e56b; have b1 : z56a = s56.2.2.1 46 2 := e56; rw [← b0, ← b1]; exact n60e
    have n60g : (z48a).toInt ≤ (z56c).toInt := by have a0 := (inv_F hI 0 120 rfl e_102_4); unfold In at a0; have a1 := (inv_F hI 0 5 rfl e_46_3); unfold In at a1; have a2 := (inv_F hI 0 1000 rfl e_46_4); unfold In at a2; have a3 := r_46_1; unfold In at a3; have a4 := (inv_F hI 0 1000 rfl e_46_2); unfold In at a4; have a5 := i56c; unfold In at a5; have a6 := i56b; unfold In at a6; have a7 := i56a; unfold In at a7; have a8 := i48a; unfold In at a8; omega
    have n60h : (s56.2.2.1 102 4).toInt ≤ (s56.2.2.1 46 4).toInt := by have b0 : z48a = s56.2.2.1 102 4 := fr_F (e48) hF56 rfl; have b1 : z56c = s56.2.2.1 46 4 := e56b; rw [← b0, ← b1]; exact n60g
    have n60i : (z56b).toInt = 2 → ((s56.2.2.1 46 5)).toInt ≤ 999999 := by have a0 := (inv_F hI 0 120 rfl e_102_4); unfold In at a0; have a1 := (inv_F hI 0 5 rfl e_46_3); unfold In at a1; have a2 := (inv_F hI 0 1000 rfl e_46_4); unfold In at a2; have a3 := r_46_1; unfold In at a3; have a4 := (inv_F hI 0 1000 rfl e_46_2); unfold In at a4; have a5 := i56c; unfold In at a5; have a6 := i56b; unfold In at a6; have a7 := i56a; unfold In at a7; have a8 := i48a; unfold In at a8; omega
    have n60j : (s56.2.2.1 46 3).toInt = 2 → (s56.2.2.1 46 5).toInt ≤ 999999 := by have b0 : z56b = s56.2.2.1 46 3 := e56a; rw [← b0]; exact n60i
    have n60k : (u_46_4).toInt - (u_102_4).toInt ≤ (z56c).toInt - (z48a).toInt := by have a0 := (inv_F hI 0 120 rfl e_102_4); unfold In at a0; have a1 := (inv_F hI 0 5 rfl e_46_3); unfold In at a1; have a2 := (inv_F hI 0 1000 rfl e_46_4); unfold In at a2; have a3 := r_46_1; unfold In at a3; have a4 := (inv_F hI 0 1000 rfl e_46_2); unfold In at a4; have a5 := i56c; unfold In at a5; have a6 := i56b; unfold In at a6; have a7 := i56a; unfold In at a7; have a8 := i48a; unfold In at a8; omega
    have n60l : (s.2.2.1 46 4).toInt - (s.2.2.1 102 4).toInt ≤ (s56.2.2.1 46 4).toInt - (s56.2.2.1 102 4).toInt := by have b0 : z56c = s56.2.2.1 46 4 := e56b; have b1 : z48a = s56.2.2.1 102 4 := fr_F (e48) hF56 rfl; rw [← b0, ← b1, ← e_46_4, ← e_102_4]; exact n60k
    exact g_ireturn (gd rfl) rfl (nb01 (in_w 0 1 (in_c 1 rfl) rfl)) (hP _ _ ⟨s56, hI56, (fr_tr rfl (fr_tr rfl fr_rf hF48) hF56), n60b, n60d, n60f, n60h, n60j, n60l, (Int32.ofInt 1), rfl, rfl, in_w 0 1 (in_c 1 rfl) rfl, n60⟩)
  · skip
    have i10 := r_eq1 1 1 c10 (inv_F hI 0 5 rfl e_46_3) (in_c 1 rfl) rfl
    refine g_ldcs 6 15 (gd rfl) rfl rfl ?_
    refine g_bipush 97 17 (gd rfl) rfl rfl ?_
    refine g_aload_n 18 (gd rfl) rfl rfl ?_
    refine g_getI 21 (gd rfl) rfl rfl rfl (fun z18 e18 => ?_)
    have q18 : u_46_5 = z18 := (e_46_5).trans e18.symm
    subst q18
    refine g_iadd 22 (gd rfl) rfl (fun z21 e21 => ?_)
    refine g_i2c 23 (gd rfl) rfl (fun z22 e22 => ?_)
    have i22 := in_i2c e22
    have i23 : In (Int32.ofInt 6) 0 6 := in_w 0 6 (in_c 6 rfl) rfl
    refine g_callS (X := _) (As := [.int z22]) (r := []) (x := (Int32.ofInt 6)) 26 (gd rfl) rfl rfl rfl zm_430 rfl rfl rfl i23 (Nat.le_of_ble_eq_true rfl) (k_430 i23 (by omega)) (fun e u h => h) (fun v u h => ?_)
    obtain ⟨z23, rfl, rfl, p23⟩ := h
    have i23a : In z23 (-1) 8 := by have a := zn_9 i23; unfold In at p23; exact ⟨by omega, by omega⟩
    show GG _ _ _ _ _ _ _ _ [.int z23] _ _ _
    refine g_istore_n 27 (gd rfl) rfl (Nat.le_of_ble_eq_true rfl) ?_
    refine g_iload_n 28 (gd rfl) rfl rfl ?_
    refine g_if_ge 31 41 (gd rfl) rfl rfl (fun c28 => ?_) (fun c28 => ?_)
    · skip
      have i28 := z_ge 0 8 c28 i23a rfl
      refine g_ldc 1000000 43 (gd rfl) rfl rfl ?_
      refine g_iload_n 44 (gd rfl) rfl rfl ?_
      refine g_iadd 45 (gd rfl) rfl (fun z44 e44 => ?_)
      have i44 := in_add 1000000 1000008 e44 (in_c 1000000 rfl) i28 rfl rfl
      refine g_istore_n 46 (gd rfl) rfl (Nat.le_of_ble_eq_true rfl) ?_
      refine g_aload_n 47 (gd rfl) rfl rfl ?_
      refine g_iload_n 48 (gd rfl) rfl rfl ?_
      have hD : (s.2.2.1 102 4).toInt < 120 := (by rw [← (show u_102_4 = s.2.2.1 102 4 from e_102_4)]; have a0 := (inv_F hI 0 120 rfl e_102_4); unfold In at a0; have a1 := i10; unfold In at a1; have a2 := (inv_F hI 0 1000 rfl e_46_4); unfold In at a2; have a3 := r_46_1; unfold In at a3; have a4 := (inv_F hI 0 1000 rfl e_46_2); unfold In at a4; have a5 := i28; unfold In at a5; have a6 := i44; unfold In at a6; have a7 := t_add e44 (in_c 1000000 rfl) i28 rfl; have a8 := (in_c 1000000 rfl); unfold In at a8; omega)
      have hDe : _ = s.2.2.1 102 4 := (show u_102_4 = s.2.2.1 102 4 from e_102_4)
      refine g_callv (X := _) (As := [.int z44]) (r := []) (b := A 102) (q := 102) 51 (gd rfl) rfl rfl rfl rfl rfl (ww_o rfl) (Nat.le_of_ble_eq_true rfl) (Nat.zero_le _) (Nat.zero_le _) (k_57_102 (by omega) hI e_102_4) (fun e u h => h) (fun v u h => ?_)
      obtain ⟨s48, hI48, hF48, n48, n48a, z48, rfl, rfl, i48, p48⟩ := h
      obtain ⟨z48a, e48⟩ : ∃ w, w = s48.2.2.1 102 4 := ⟨_, rfl⟩
      have i48a := inv_F hI48 0 120 rfl e48
      rw [← (show u_102_4 = s.2.2.1 102 4 from e_102_4)] at n48
      rw [← (show z48a = s48.2.2.1 102 4 from e48)] at n48
      rw [← (show u_102_4 = s.2.2.1 102 4 from e_102_4)] at n48a
      rw [← (show z48a = s48.2.2.1 102 4 from e48)] at n48a
      show GG _ _ _ _ _ _ _ _ [.int z48] _ _ _
      refine g_pop 52 (gd rfl) rfl rfl ?_
      refine g_aload_n 53 (gd rfl) rfl rfl ?_
      refine g_bipush 6 55 (gd rfl) rfl rfl ?_
      refine g_iconst 0 56 (gd rfl) rfl rfl ?_
      have v56 : u_46_2 = s48.2.2.1 46 2 := fr_F (e_46_2) hF48 rfl
      have v56a : u_46_1 = s48.2.2.1 46 1 := fr_F (e_46_1) hF48 rfl
      have n56 : (u_46_2).toInt ≤ (u_46_1).toInt := by have a0 := (inv_F hI 0 120 rfl e_102_4); unfold In at a0; have a1 := i10; unfold In at a1; have a2 := (inv_F hI 0 1000 rfl e_46_4); unfold In at a2; have a3 := r_46_1; unfold In at a3; have a4 := (inv_F hI 0 1000 rfl e_46_2); unfold In at a4; have a5 := i28; unfold In at a5; have a6 := i44; unfold In at a6; have a7 := t_add e44 (in_c 1000000 rfl) i28 rfl; have a8 := (in_c 1000000 rfl); unfold In at a8; have a9 := i48a; unfold In at a9; omega
      refine g_callv (X := _) (As := [.int (Int32.ofInt 6), .int (Int32.ofInt 0)]) (r := []) (b := A 46) (q := 46) 59 (gd rfl) rfl rfl rfl rfl rfl (ww_o rfl) (Nat.le_of_ble_eq_true rfl) (Nat.zero_le _) (Nat.zero_le _) (k_171_46 (by omega) hI48 (in_w 6 7 (in_c 6 rfl) rfl) (in_w 0 1 (in_c 0 rfl) rfl) v56 v56a n56) (fun e u h => h) (fun v u h => ?_)
      obtain ⟨s56, hI56, hF56, n56a, n56b, n56c, n56d, rfl, rfl, p56⟩ := h
      obtain ⟨z56a, e56⟩ : ∃ w, w = s56.2.2.1 46 2 := ⟨_, rfl⟩
      have i56a := inv_F hI56 0 1000 rfl e56
      obtain ⟨z56b, e56a⟩ : ∃ w, w = s56.2.2.1 46 3 := ⟨_, rfl⟩
      have i56b := inv_F hI56 0 5 rfl e56a
      obtain ⟨z56c, e56b⟩ : ∃ w, w = s56.2.2.1 46 4 := ⟨_, rfl⟩
      have i56c := inv_F hI56 0 1000 rfl e56b
      rw [← (show z56a = s56.2.2.1 46 2 from e56)] at n56a
      rw [← (show u_46_1 = s56.2.2.1 46 1 from fr_F (fr_F (e_46_1) hF48 rfl) hF56 rfl)] at n56a
      rw [← (show z56a = s56.2.2.1 46 2 from e56)] at n56b
      rw [← (show z56b = s56.2.2.1 46 3 from e56a)] at n56b
      rw [← (show z56c = s56.2.2.1 46 4 from e56b)] at n56b
      rw [← (show z56a = s56.2.2.1 46 2 from e56)] at n56c
      rw [← (show z56c = s56.2.2.1 46 4 from e56b)] at n56c
      rw [← (show u_46_2 = s48.2.2.1 46 2 from fr_F (e_46_2) hF48 rfl)] at n56d
      rw [← (show z56c = s56.2.2.1 46 4 from e56b)] at n56d
      show GG _ _ _ _ _ _ _ _ [] _ _ _
      have hv56 := p56 (by decide); rw [← (show z56b = s56.2.2.1 46 3 from e56a)] at hv56
      refine g_iconst 1 60 (gd rfl) rfl rfl ?_
      have n60 : ((Int32.ofInt 1)).toInt ≠ 0 → PCV s s56 1 := by intro _; exact pv_tr (j := 1) (k := 0) (pv_st (j := 0) (k := 1) pv_rf (inv_F hI 0 120 rfl rfl).1 (p48 hD) (by rw [← (show z48a = s56.2.2.1 102 4 from fr_F (e48) hF56 rfl), ← hDe]; have a0 := (inv_F hI 0 120 rfl e_102_4); unfold In at a0; have a1 := i10; unfold In at a1; have a2 := (inv_F hI 0 1000 rfl e_46_4); unfold In at a2; have a3 := r_46_1; unfold In at a3; have a4 := (inv_F hI 0 1000 rfl e_46_2); unfold In at a4; have a5 := i28; unfold In at a5; have a6 := i44; unfold In at a6; have a7 := t_add e44 (in_c 1000000 rfl) i28 rfl; have a8 := (in_c 1000000 rfl); unfold In at a8; have a9 := i56c; unfold In at a9; have a10 := i56b; unfold In at a10; have a11 := i56a; unfold In at a11; have a12 := i48a; unfold In at a12; omega) (fun e => hc_a (by have a0 := (inv_F hI 0 120 rfl e_102_4); unfold In at a0; have a1 := i10; unfold In at a1; have a2 := (inv_F hI 0 1000 rfl e_46_4); unfold In at a2; have a3 := r_46_1; unfold In at a3; have a4 := (inv_F hI 0 1000 rfl e_46_2); unfold In at a4; have a5 := i28; unfold In at a5; have a6 := i44; unfold In at a6; have a7 := t_add e44 (in_c 1000000 rfl) i28 rfl; have a8 := (in_c 1000000 rfl); unfold In at a8; have a9 := i56c; unfold In at a9; have a10 := i56b; unfold In at a10; have a11 := i56a; unfold In at a11; have a12 := i48a; unfold In at a12; omega) e)) (pv_sm (hF56.1 104 rfl) (hF56.2.2.1 102 4 rfl))
      have n60a : (z56a).toInt ≤ (u_46_1).toInt := by have a0 := (inv_F hI 0 120 rfl e_102_4); unfold In at a0; have a1 := i10; unfold In at a1; have a2 := (inv_F hI 0 1000 rfl e_46_4); unfold In at a2; have a3 := r_46_1; unfold In at a3; have a4 := (inv_F hI 0 1000 rfl e_46_2); unfold In at a4; have a5 := i28; unfold In at a5; have a6 := i44; unfold In at a6; have a7 := t_add e44 (in_c 1000000 rfl) i28 rfl; have a8 := (in_c 1000000 rfl); unfold In at a8; have a9 := i56c; unfold In at a9; have a10 := i56b; unfold In at a10; have a11 := i56a; unfold In at a11; have a12 := i48a; unfold In at a12; omega
      have n60b : (s56.2.2.1 46 2).toInt ≤ (s56.2.2.1 46 1).toInt := by have b0 : z56a = s56.2.2.1 46 2 := e56; have b1 : u_46_1 = s56.2.2.1 46 1 := fr_F (fr_F (e_46_1) hF48 rfl) hF56 rfl; rw [← b0, ← b1]; exact n60a
      have n60c : (z56b).toInt = 0 ∨ (z56c).toInt + 1 ≤ (z56a).toInt := by have a0 := (inv_F hI 0 120 rfl e_102_4); unfold In at a0; have a1 := i10; unfold In at a1; have a2 := (inv_F hI 0 1000 rfl e_46_4); unfold In at a2; have a3 := r_46_1; unfold In at a3; have a4 := (inv_F hI 0 1000 rfl e_46_2); unfold In at a4; have a5 := i28; unfold In at a5; have a6 := i44; unfold In at a6; have a7 := t_add e44 (in_c 1000000 rfl) i28 rfl; have a8 := (in_c 1000000 rfl); unfold In at a8; have a9 := i56c; unfold In at a9; have a10 := i56b; unfold In at a10; have a11 := i56a; unfold In at a11; have a12 := i48a; unfold In at a12; omega
      have n60d : (s56.2.2.1 46 3).toInt = 0 ∨ (s56.2.2.1 46 4).toInt + 1 ≤ (s56.2.2.1 46 2).toInt := by have b0 : z56b = s56.2.2.1 46 3 := e56a; have b1 : z56c = s56.2.2.1 46 4 := e56b; have b2 : z56a = s56.2.2.1 46 2 := e56; rw [← b0, ← b1, ← b2]; exact n60c
      have n60e : (z56c).toInt ≤ (z56a).toInt := by have a0 := (inv_F hI 0 120 rfl e_102_4); unfold In at a0; have a1 := i10; unfold In at a1; have a2 := (inv_F hI 0 1000 rfl e_46_4); unfold In at a2; have a3 := r_46_1; unfold In at a3; have a4 := (inv_F hI 0 1000 rfl e_46_2); unfold In at a4; have a5 := i28; unfold In at a5; have a6 := i44; unfold In at a6; have a7 := t_add e44 (in_c 1000000 rfl) i28 rfl; have a8 := (in_c 1000000 rfl); unfold In at a8; have a9 := i56c; unfold In at a9; have a10 := i56b; unfold In at a10; have a11 := i56a; unfold In at a11; have a12 := i48a; unfold In at a12; omega
      have n60f : (s56.2.2.1 46 4).toInt ≤ (s56.2.2.1 46 2).toInt := by have b0 : z56c = s56.2.2.1 46 4 := e56b; have b1 : z56a = s56.2.2.1 46 2 := e56; rw [← b0, ← b1]; exact n60e
      have n60g : (z48a).toInt ≤ (z56c).toInt := by have a0 := (inv_F hI 0 120 rfl e_102_4); unfold In at a0; have a1 := i10; unfold In at a1; have a2 := (inv_F hI 0 1000 rfl e_46_4); unfold In at a2; have a3 := r_46_1; unfold In at a3; have a4 := (inv_F hI 0 1000 rfl e_46_2); unfold In at a4; have a5 := i28; unfold In at a5; have a6 := i44; unfold In at a6; have a7 := t_add e44 (in_c 1000000 rfl) i28 rfl; have a8 := (in_c 1000000 rfl); unfold In at a8; have a9 := i56c; unfold In at a9; have a10 := i56b; unfold In at a10; have a11 := i56a; unfold In at a11; have a12 := i48a; unfold In at a12; omega
      have n60h : (s56.2.2.1 102 4).toInt ≤ (s56.2.2.1 46 4).toInt := by have b0 : z48a = s56.2.2.1 102 4 := fr_F (e48) hF56 rfl; have b1 : z56c = s56.2.2.1 46 4 := e56b; rw [← b0, ← b1]; exact n60g
      have n60i : (z56b).toInt = 2 → ((s56.2.2.1 46 5)).toInt ≤ 999999 := by have a0 := (inv_F hI 0 120 rfl e_102_4); unfold In at a0; have a1 := i10; unfold In at a1; have a2 := (inv_F hI 0 1000 rfl e_46_4); unfold In at a2; have a3 := r_46_1; unfold In at a3; have a4 := (inv_F hI 0 1000 rfl e_46_2); unfold In at a4; have a5 := i28; unfold In at a5; have a6 := i44; unfold In at a6; have a7 := t_add e44 (in_c 1000000 rfl) i28 rfl; have a8 := (in_c 1000000 rfl); unfold In at a8; have a9 := i56c; unfold In at a9; have a10 := i56b; unfold In at a10; have a11 := i56a; unfold In at a11; have a12 := i48a; unfold In at a12; omega
      have n60j : (s56.2.2.1 46 3).toInt = 2 → (s56.2.2.1 46 5).toInt ≤ 999999 := by have b0 : z56b = s56.2.2.1 46 3 := e56a; rw [← b0]; exact n60i
      have n60k : (u_46_4).toInt - (u_102_4).toInt ≤ (z56c).toInt - (z48a).toInt := by have a0 := (inv_F hI 0 120 rfl e_102_4); unfold In at a0; have a1 := i10; unfold In at a1; have a2 := (inv_F hI 0 1000 rfl e_46_4); unfold In at a2; have a3 := r_46_1; unfold In at a3; have a4 := (inv_F hI 0 1000 rfl e_46_2); unfold In at a4; have a5 := i28; unfold In at a5; have a6 := i44; unfold In at a6; have a7 := t_add e44 (in_c 1000000 rfl) i28 rfl; have a8 := (in_c 1000000 rfl); unfold In at a8; have a9 := i56c; unfold In at a9; have a10 := i56b; unfold In at a10; have a11 := i56a; unfold In at a11; have a12 := i48a; unfold In at a12; omega
      have n60l : (s.2.2.1 46 4).toInt - (s.2.2.1 102 4).toInt ≤ (s56.2.2.1 46 4).toInt - (s56.2.2.1 102 4).toInt := by have b0 : z56c = s56.2.2.1 46 4 := e56b; have b1 : z48a = s56.2.2.1 102 4 := fr_F (e48) hF56 rfl; rw [← b0, ← b1, ← e_46_4, ← e_102_4]; exact n60k
      exact g_ireturn (gd rfl) rfl (nb01 (in_w 0 1 (in_c 1 rfl) rfl)) (hP _ _ ⟨s56, hI56, (fr_tr rfl (fr_tr rfl fr_rf hF48) hF56), n60b, n60d, n60f, n60h, n60j, n60l, (Int32.ofInt 1), rfl, rfl, in_w 0 1 (in_c 1 rfl) rfl, n60⟩)
    · skip
      have i28 := z_lt (-1) (-1) c28 i23a rfl
      refine g_aload_n 32 (gd rfl) rfl rfl ?_
      refine g_iconst 5 33 (gd rfl) rfl rfl ?_
      refine g_aload_n 34 (gd rfl) rfl rfl ?_
      refine g_getI 37 (gd rfl) rfl rfl rfl (fun z34 e34 => ?_)
      have q34 : u_46_4 = z34 := (e_46_4).trans e34.symm
      subst q34
      refine g_callv (X := _) (As := [.int (Int32.ofInt 5), .int u_46_4]) (r := []) (b := A 46) (q := 46) 40 (gd rfl) rfl rfl rfl rfl rfl (ww_o rfl) (Nat.le_of_ble_eq_true rfl) (Nat.zero_le _) (Nat.zero_le _) (k_168_46 (by omega) hI (in_w 1 5 (in_c 5 rfl) rfl) (in_w 0 1000 (inv_F hI 0 1000 rfl e_46_4) rfl)) (fun e u h => h) (fun v u h => ?_)
      obtain ⟨s37, hI37, hF37, z37, rfl, rfl, i37⟩ := h
      show GG _ _ _ _ _ _ _ _ [.int z37] _ _ _
      have n40 : (z37).toInt ≠ 0 → PCV s s37 1 := by intro h; unfold In at i37; omega
      have n40a : (u_46_2).toInt ≤ (u_46_1).toInt := by have a0 := (inv_F hI 0 120 rfl e_102_4); unfold In at a0; have a1 := i10; unfold In at a1; have a2 := (inv_F hI 0 1000 rfl e_46_4); unfold In at a2; have a3 := r_46_1; unfold In at a3; have a4 := (inv_F hI 0 1000 rfl e_46_2); unfold In at a4; have a5 := i28; unfold In at a5; omega
      have n40b : (s37.2.2.1 46 2).toInt ≤ (s37.2.2.1 46 1).toInt := by have b0 : u_46_2 = s37.2.2.1 46 2 := fr_F (e_46_2) hF37 rfl; have b1 : u_46_1 = s37.2.2.1 46 1 := fr_F (e_46_1) hF37 rfl; rw [← b0, ← b1]; exact n40a
      have n40c : (u_46_3).toInt = 0 ∨ (u_46_4).toInt + 1 ≤ (u_46_2).toInt := by have a0 := (inv_F hI 0 120 rfl e_102_4); unfold In at a0; have a1 := i10; unfold In at a1; have a2 := (inv_F hI 0 1000 rfl e_46_4); unfold In at a2; have a3 := r_46_1; unfold In at a3; have a4 := (inv_F hI 0 1000 rfl e_46_2); unfold In at a4; have a5 := i28; unfold In at a5; omega
      have n40d : (s37.2.2.1 46 3).toInt = 0 ∨ (s37.2.2.1 46 4).toInt + 1 ≤ (s37.2.2.1 46 2).toInt := by have b0 : u_46_3 = s37.2.2.1 46 3 := fr_F (e_46_3) hF37 rfl; have b1 : u_46_4 = s37.2.2.1 46 4 := fr_F (e_46_4) hF37 rfl; have b2 : u_46_2 = s37.2.2.1 46 2 := fr_F (e_46_2) hF37 rfl; rw [← b0, ← b1, ← b2]; exact n40c
      have n40e : (u_46_4).toInt ≤ (u_46_2).toInt := by have a0 := (inv_F hI 0 120 rfl e_102_4); unfold In at a0; have a1 := i10; unfold In at a1; have a2 := (inv_F hI 0 1000 rfl e_46_4); unfold In at a2; have a3 := r_46_1; unfold In at a3; have a4 := (inv_F hI 0 1000 rfl e_46_2); unfold In at a4; have a5 := i28; unfold In at a5; omega
      have n40f : (s37.2.2.1 46 4).toInt ≤ (s37.2.2.1 46 2).toInt := by have b0 : u_46_4 = s37.2.2.1 46 4 := fr_F (e_46_4) hF37 rfl; have b1 : u_46_2 = s37.2.2.1 46 2 := fr_F (e_46_2) hF37 rfl; rw [← b0, ← b1]; exact n40e
      have n40g : (u_102_4).toInt ≤ (u_46_4).toInt := by have a0 := (inv_F hI 0 120 rfl e_102_4); unfold In at a0; have a1 := i10; unfold In at a1; have a2 := (inv_F hI 0 1000 rfl e_46_4); unfold In at a2; have a3 := r_46_1; unfold In at a3; have a4 := (inv_F hI 0 1000 rfl e_46_2); unfold In at a4; have a5 := i28; unfold In at a5; omega
      have n40h : (s37.2.2.1 102 4).toInt ≤ (s37.2.2.1 46 4).toInt := by have b0 : u_102_4 = s37.2.2.1 102 4 := fr_F (e_102_4) hF37 rfl; have b1 : u_46_4 = s37.2.2.1 46 4 := fr_F (e_46_4) hF37 rfl; rw [← b0, ← b1]; exact n40g
      have n40i : (u_46_3).toInt = 2 → (u_46_5).toInt ≤ 999999 := by have a0 := (inv_F hI 0 120 rfl e_102_4); unfold In at a0; have a1 := i10; unfold In at a1; have a2 := (inv_F hI 0 1000 rfl e_46_4); unfold In at a2; have a3 := r_46_1; unfold In at a3; have a4 := (inv_F hI 0 1000 rfl e_46_2); unfold In at a4; have a5 := i28; unfold In at a5; omega
      have n40j : (s37.2.2.1 46 3).toInt = 2 → (s37.2.2.1 46 5).toInt ≤ 999999 := by have b0 : u_46_3 = s37.2.2.1 46 3 := fr_F (e_46_3) hF37 rfl; have b1 : u_46_5 = s37.2.2.1 46 5 := fr_F (e_46_5) hF37 rfl; rw [← b0, ← b1]; exact n40i
      have n40k : (u_46_4).toInt - (u_102_4).toInt ≤ (u_46_4).toInt - (u_102_4).toInt := by have a0 := (inv_F hI 0 120 rfl e_102_4); unfold In at a0; have a1 := i10; unfold In at a1; have a2 := (inv_F hI 0 1000 rfl e_46_4); unfold In at a2; have a3 := r_46_1; unfold In at a3; have a4 := (inv_F hI 0 1000 rfl e_46_2); unfold In at a4; have a5 := i28; unfold In at a5; omega
      have n40l : (s.2.2.1 46 4).toInt - (s.2.2.1 102 4).toInt ≤ (s37.2.2.1 46 4).toInt - (s37.2.2.1 102 4).toInt := by have b0 : u_46_4 = s37.2.2.1 46 4 := fr_F (e_46_4) hF37 rfl; have b1 : u_102_4 = s37.2.2.1 102 4 := fr_F (e_102_4) hF37 rfl; rw [← b0, ← b1, ← e_46_4, ← e_102_4]; exact n40k
      exact g_ireturn (gd rfl) rfl (nb01 (in_w 0 1 i37 rfl)) (hP _ _ ⟨s37, hI37, (fr_tr rfl fr_rf hF37), n40b, n40d, n40f, n40h, n40j, n40l, z37, rfl, rfl, in_w 0 1 i37 rfl, n40⟩)
