/-! methods, by vc.py -/
def fm_275 : FM := ([110, 111, 112, 113, 114, 115, 116, 117], [], [], [])
/-- GraphHouseModel.apply -/
theorem k_275 {Z : AmZ} {A : Nat → Nat} {s : GS} {ex : va_W} {d : Nat} {X : AmX} {x1 : Int32} {x2 : Int32} (hd : 1 ≤ d) (hI : Rng s) (h1 : In x1 0 3999) (h2 : In x2 0 1) (q_0 : AQ s (x1).toNatClampNeg (x2).toNatClampNeg) : GC Z d 275 [.ref (A 109), .int x1, .int x2] (WW Z A s ++ ex) 0 0 (fun v u => ∃ t : GS, Rng t ∧ Fr fm_275 s t ∧ v = none ∧ u = WW Z A t ++ ex ∧ (AP s t (x1).toNatClampNeg (x2).toNatClampNeg) ∧ (APT s t (x1).toNatClampNeg (x2).toNatClampNeg)) X := by
  intro post xp hP hX
  refine g_enter2 (k := 275) (N := 900) (by omega) rfl (Nat.le_of_ble_eq_true rfl) ?_
  refine g_sipush 160 3 (gd rfl) rfl rfl ?_
  refine g_iload_n 4 (gd rfl) rfl rfl ?_
  refine g_imul 5 (gd rfl) rfl (fun z4 e4 => ?_)
  have i4 := in_mulc 160 0 160 (Or.inl e4) h2 rfl rfl
  refine g_aload_n 6 (gd rfl) rfl rfl ?_
  refine g_getA (q2 := 119) 9 (gd rfl) rfl rfl rfl rfl ?_
  refine g_iload_n 10 (gd rfl) rfl rfl ?_
  refine g_iaload 11 (gd rfl) rfl (n := 4000) rfl (in_ix h1 rfl) (fun z10 e10 => ?_)
  have i10 := rng_I hI (n := 4000) (t := 0) 0 159 rfl (in_ix h1 rfl) rfl e10
  refine g_iadd 12 (gd rfl) rfl (fun z11 e11 => ?_)
  have i11 := in_add 0 319 e11 i4 i10 rfl rfl
  refine g_istore_n 13 (gd rfl) rfl (Nat.le_of_ble_eq_true rfl) ?_
  refine g_aload_n 14 (gd rfl) rfl rfl ?_
  refine g_getA (q2 := 118) 17 (gd rfl) rfl rfl rfl rfl ?_
  refine g_iload_n 18 (gd rfl) rfl rfl ?_
  refine g_iaload 19 (gd rfl) rfl (n := 4000) rfl (in_ix h1 rfl) (fun z18 e18 => ?_)
  have i18 := rng_I hI (n := 4000) (t := 0) 0 4 rfl (in_ix h1 rfl) rfl e18
  refine g_tsw [48, 83, 153, 163] 227 (gd rfl) rfl rfl rfl ⟨fun c19 => ?_, fun c19 => ?_, fun c19 => ?_, fun c19 => ?_, trivial⟩ (fun c19 => ?_)
  · skip
    have i19 := sw_eq c19
    refine g_aload_n 49 (gd rfl) rfl rfl ?_
    refine g_getA (q2 := 111) 52 (gd rfl) rfl rfl rfl rfl ?_
    refine g_bipush 32 54 (gd rfl) rfl rfl ?_
    refine g_iload_n 55 (gd rfl) rfl rfl ?_
    refine g_imul 56 (gd rfl) rfl (fun z55 e55 => ?_)
    have i55 := in_mulc 32 0 32 (Or.inl e55) h2 rfl rfl
    refine g_aload_n 57 (gd rfl) rfl rfl ?_
    refine g_getA (q2 := 110) 60 (gd rfl) rfl rfl rfl rfl ?_
    refine g_iload_n 61 (gd rfl) rfl rfl ?_
    refine g_iaload 62 (gd rfl) rfl (n := 3) rfl (in_ix h2 rfl) (fun z61 e61 => ?_)
    have i62 : In z61 0 31 := by rw [e61]; exact aq_n q_0 (by have hk9 := i19; unfold In at hk9; rw [← e18]; omega)
    refine g_iadd 63 (gd rfl) rfl (fun z62 e62 => ?_)
    have i62a := in_add 0 63 e62 i55 i62 rfl rfl
    refine g_aload_n 64 (gd rfl) rfl rfl ?_
    refine g_getA (q2 := 119) 67 (gd rfl) rfl rfl rfl rfl ?_
    refine g_iload_n 68 (gd rfl) rfl rfl ?_
    refine g_iaload 69 (gd rfl) rfl (n := 4000) rfl (in_ix h1 rfl) (fun z68 e68 => ?_)
    have q68 : z10 = z68 := (e10).trans e68.symm
    subst q68
    have i69 : In z10 0 25 := by refine ⟨i10.1, ?_⟩; rw [e10]; exact q_0.1.1 (by have hk9 := i19; unfold In at hk9; rw [← e18]; omega)
    refine g_iastore 70 (gd rfl) rfl (n := 96) rfl (in_ix i62a rfl) ?_
    have hI69 := rng_sI (q := 111) (j := z62.toNatClampNeg) hI rfl (in_w 0 25 i69 rfl)
    refine g_aload_n 71 (gd rfl) rfl rfl ?_
    refine g_getA (q2 := 110) 74 (gd rfl) rfl rfl rfl rfl ?_
    refine g_iload_n 75 (gd rfl) rfl rfl ?_
    refine g_dup2 76 (gd rfl) rfl rfl rfl ?_
    refine g_iaload 77 (gd rfl) rfl (n := 3) rfl (in_ix h2 rfl) (fun z76 e76 => ?_)
    have q76 : z61 = z76 := (sI_ne rfl (e61)).trans e76.symm
    subst q76
    refine g_iconst 1 78 (gd rfl) rfl rfl ?_
    refine g_iadd 79 (gd rfl) rfl (fun z78 e78 => ?_)
    have i78 := in_add 1 32 e78 i62 (in_c 1 rfl) rfl rfl
    refine g_iastore 80 (gd rfl) rfl (n := 3) rfl (in_ix h2 rfl) ?_
    have hI79 := rng_sI (q := 110) (j := x2.toNatClampNeg) hI69 rfl (in_w (-2147483648) 2147483647 i78 rfl)
    refine g_goto 249 (gd rfl) rfl ?_
    have n249 : AP s (sI (sI s 111 z62.toNatClampNeg z10) 110 x2.toNatClampNeg z78) (x1).toNatClampNeg (x2).toNatClampNeg := by first | exact ap_node q_0 (by have hk9 := i19; unfold In at hk9; rw [← e18]; omega) rfl (by rw [← e61]; exact t_add e78 i62 (in_c 1 rfl) rfl) rfl rfl rfl | exact ap_arc q_0 (by have hk9 := i19; unfold In at hk9; rw [← e18]; omega) rfl rfl (by have h3 := i11; unfold In at h3; have ha := i10; unfold In at ha; have hg := h2; unfold In at hg; have e3 := (t_mulc 160 (Or.inl e4) h2 rfl).1; have e4 := t_add e11 i4 i10 rfl; have e5 : (z11).toNatClampNeg = (z11).toInt.toNat := rfl; have e6 : x2.toNatClampNeg = x2.toInt.toNat := rfl; omega) rfl rfl e100 e112 | exact ap_take q_0 (by have hk9 := i19; unfold In at hk9; rw [← e18]; omega) rfl rfl rfl (by have h3 := i11; unfold In at h3; have ha := i10; unfold In at ha; have hg := h2; unfold In at hg; have e3 := (t_mulc 160 (Or.inl e4) h2 rfl).1; have e4 := t_add e11 i4 i10 rfl; have e5 : (z11).toNatClampNeg = (z11).toInt.toNat := rfl; have e6 : x2.toNatClampNeg = x2.toInt.toNat := rfl; omega) rfl rfl | exact ap_same q_0 (by have hk9 := i18; unfold In at hk9; rw [← e18]; omega) rfl rfl rfl rfl
    have n249a : APT s (sI (sI s 111 z62.toNatClampNeg z10) 110 x2.toNatClampNeg z78) (x1).toNatClampNeg (x2).toNatClampNeg := by exact apt_3 (by have hk9 := i19; unfold In at hk9; rw [← e18]; omega) (by have hk9 := i19; unfold In at hk9; rw [← e18]; omega) rfl
    exact g_return (gd rfl) rfl (hP _ _ ⟨(sI (sI s 111 z62.toNatClampNeg z10) 110 x2.toNatClampNeg z78), hI79, (fr_sI rfl (fr_sI rfl fr_rf)), rfl, rfl, n249, n249a⟩)
  · skip
    have i19 := sw_eq c19
    refine g_aload_n 84 (gd rfl) rfl rfl ?_
    refine g_getA (q2 := 112) 87 (gd rfl) rfl rfl rfl rfl ?_
    refine g_iload_n 88 (gd rfl) rfl rfl ?_
    refine g_iconst 1 89 (gd rfl) rfl rfl ?_
    refine g_bastore 90 (gd rfl) rfl (n := 480) rfl (in_ix i11 rfl) ?_
    have hI89 := rng_sI (q := 112) (j := z11.toNatClampNeg) hI rfl (in_w 0 1 (nar01 (in_w 0 1 (in_c 1 rfl) rfl)) rfl)
    refine g_aload_n 91 (gd rfl) rfl rfl ?_
    refine g_getA (q2 := 113) 94 (gd rfl) rfl rfl rfl rfl ?_
    refine g_iload_n 95 (gd rfl) rfl rfl ?_
    refine g_aload_n 96 (gd rfl) rfl rfl ?_
    refine g_getA (q2 := 120) 99 (gd rfl) rfl rfl rfl rfl ?_
    refine g_iload_n 100 (gd rfl) rfl rfl ?_
    refine g_iaload 101 (gd rfl) rfl (n := 4000) rfl (in_ix h1 rfl) (fun z100 e100 => ?_)
    have i100 := rng_I hI89 (n := 4000) (t := 0) 0 31 rfl (in_ix h1 rfl) rfl e100
    refine g_iastore 102 (gd rfl) rfl (n := 480) rfl (in_ix i11 rfl) ?_
    have hI101 := rng_sI (q := 113) (j := z11.toNatClampNeg) hI89 rfl (in_w 0 31 i100 rfl)
    refine g_aload_n 103 (gd rfl) rfl rfl ?_
    refine g_getA (q2 := 114) 106 (gd rfl) rfl rfl rfl rfl ?_
    refine g_iload_n 107 (gd rfl) rfl rfl ?_
    refine g_aload_n 108 (gd rfl) rfl rfl ?_
    refine g_getA (q2 := 121) 111 (gd rfl) rfl rfl rfl rfl ?_
    refine g_iload_n 112 (gd rfl) rfl rfl ?_
    refine g_iaload 113 (gd rfl) rfl (n := 4000) rfl (in_ix h1 rfl) (fun z112 e112 => ?_)
    have i112 := rng_I hI101 (n := 4000) (t := 0) (-1000000) 1000000 rfl (in_ix h1 rfl) rfl e112
    have i113 : In z112 0 31 := by have hr := q_0.1.2.1 (by have hk9 := i19; unfold In at hk9; rw [← e18]; omega); have hq := q_0.2.1; have hq2 := q_0.2.2.2; have e9 : z112 = s.1 121 x1.toNatClampNeg := e112; rw [← e9] at hr; exact ⟨hr.2.1, by omega⟩
    refine g_iastore 114 (gd rfl) rfl (n := 480) rfl (in_ix i11 rfl) ?_
    have hI113 := rng_sI (q := 114) (j := z11.toNatClampNeg) hI101 rfl (in_w 0 31 i113 rfl)
    refine g_aload_n 115 (gd rfl) rfl rfl ?_
    refine g_getA (q2 := 115) 118 (gd rfl) rfl rfl rfl rfl ?_
    refine g_iload_n 119 (gd rfl) rfl rfl ?_
    refine g_aload_n 120 (gd rfl) rfl rfl ?_
    refine g_getA (q2 := 122) 123 (gd rfl) rfl rfl rfl rfl ?_
    refine g_iload_n 124 (gd rfl) rfl rfl ?_
    refine g_iaload 125 (gd rfl) rfl (n := 4000) rfl (in_ix h1 rfl) (fun z124 e124 => ?_)
    have i124 := rng_I hI113 (n := 4000) (t := 0) (-1000000) 1000000 rfl (in_ix h1 rfl) rfl e124
    refine g_iastore 126 (gd rfl) rfl (n := 480) rfl (in_ix i11 rfl) ?_
    have hI125 := rng_sI (q := 115) (j := z11.toNatClampNeg) hI113 rfl (in_w (-1000000) 1000000 i124 rfl)
    refine g_aload_n 127 (gd rfl) rfl rfl ?_
    refine g_getA (q2 := 116) 130 (gd rfl) rfl rfl rfl rfl ?_
    refine g_iload_n 131 (gd rfl) rfl rfl ?_
    refine g_aload_n 132 (gd rfl) rfl rfl ?_
    refine g_getA (q2 := 123) 135 (gd rfl) rfl rfl rfl rfl ?_
    refine g_iload_n 136 (gd rfl) rfl rfl ?_
    refine g_iaload 137 (gd rfl) rfl (n := 4000) rfl (in_ix h1 rfl) (fun z136 e136 => ?_)
    have i136 := rng_I hI125 (n := 4000) (t := 0) 0 1000000 rfl (in_ix h1 rfl) rfl e136
    refine g_iastore 138 (gd rfl) rfl (n := 480) rfl (in_ix i11 rfl) ?_
    have hI137 := rng_sI (q := 116) (j := z11.toNatClampNeg) hI125 rfl (in_w 0 1000000 i136 rfl)
    refine g_aload_n 139 (gd rfl) rfl rfl ?_
    refine g_getA (q2 := 117) 142 (gd rfl) rfl rfl rfl rfl ?_
    refine g_iload_n 143 (gd rfl) rfl rfl ?_
    refine g_aload_n 144 (gd rfl) rfl rfl ?_
    refine g_getA (q2 := 124) 147 (gd rfl) rfl rfl rfl rfl ?_
    refine g_iload_n 148 (gd rfl) rfl rfl ?_
    refine g_iaload 149 (gd rfl) rfl (n := 4000) rfl (in_ix h1 rfl) (fun z148 e148 => ?_)
    have i148 := rng_I hI137 (n := 4000) (t := 0) 0 25 rfl (in_ix h1 rfl) rfl e148
    refine g_iastore 150 (gd rfl) rfl (n := 480) rfl (in_ix i11 rfl) ?_
    have hI149 := rng_sI (q := 117) (j := z11.toNatClampNeg) hI137 rfl (in_w 0 25 i148 rfl)
    refine g_goto 249 (gd rfl) rfl ?_
    have n249 : AP s (sI (sI (sI (sI (sI (sI s 112 z11.toNatClampNeg (vp_nar .boolean (Int32.ofInt 1))) 113 z11.toNatClampNeg z100) 114 z11.toNatClampNeg z112) 115 z11.toNatClampNeg z124) 116 z11.toNatClampNeg z136) 117 z11.toNatClampNeg z148) (x1).toNatClampNeg (x2).toNatClampNeg := by first | exact ap_node q_0 (by have hk9 := i19; unfold In at hk9; rw [← e18]; omega) rfl (by rw [← e61]; exact t_add e78 i62 (in_c 1 rfl) rfl) rfl rfl rfl | exact ap_arc q_0 (by have hk9 := i19; unfold In at hk9; rw [← e18]; omega) rfl rfl (by have h3 := i11; unfold In at h3; have ha := i10; unfold In at ha; have hg := h2; unfold In at hg; have e3 := (t_mulc 160 (Or.inl e4) h2 rfl).1; have e4 := t_add e11 i4 i10 rfl; have e5 : (z11).toNatClampNeg = (z11).toInt.toNat := rfl; have e6 : x2.toNatClampNeg = x2.toInt.toNat := rfl; omega) rfl rfl e100 e112 | exact ap_take q_0 (by have hk9 := i19; unfold In at hk9; rw [← e18]; omega) rfl rfl rfl (by have h3 := i11; unfold In at h3; have ha := i10; unfold In at ha; have hg := h2; unfold In at hg; have e3 := (t_mulc 160 (Or.inl e4) h2 rfl).1; have e4 := t_add e11 i4 i10 rfl; have e5 : (z11).toNatClampNeg = (z11).toInt.toNat := rfl; have e6 : x2.toNatClampNeg = x2.toInt.toNat := rfl; omega) rfl rfl | exact ap_same q_0 (by have hk9 := i18; unfold In at hk9; rw [← e18]; omega) rfl rfl rfl rfl
    have n249a : APT s (sI (sI (sI (sI (sI (sI s 112 z11.toNatClampNeg (vp_nar .boolean (Int32.ofInt 1))) 113 z11.toNatClampNeg z100) 114 z11.toNatClampNeg z112) 115 z11.toNatClampNeg z124) 116 z11.toNatClampNeg z136) 117 z11.toNatClampNeg z148) (x1).toNatClampNeg (x2).toNatClampNeg := by exact apt_1 (by have hk9 := i19; unfold In at hk9; rw [← e18]; omega) rfl (by show z11.toInt.toNat = 160 * x2.toNatClampNeg + (s.1 119 x1.toNatClampNeg).toNatClampNeg; rw [← e10]; have e3 := (t_mulc 160 (Or.inl e4) h2 rfl).1; have e5 := t_add e11 i4 i10 rfl; have hg := h2; unfold In at hg; have ha := i10; unfold In at ha; have e6 : x2.toNatClampNeg = x2.toInt.toNat := rfl; have e7 : z10.toNatClampNeg = z10.toInt.toNat := rfl; omega) (by decide)
    exact g_return (gd rfl) rfl (hP _ _ ⟨(sI (sI (sI (sI (sI (sI s 112 z11.toNatClampNeg (vp_nar .boolean (Int32.ofInt 1))) 113 z11.toNatClampNeg z100) 114 z11.toNatClampNeg z112) 115 z11.toNatClampNeg z124) 116 z11.toNatClampNeg z136) 117 z11.toNatClampNeg z148), hI149, (fr_sI rfl (fr_sI rfl (fr_sI rfl (fr_sI rfl (fr_sI rfl (fr_sI rfl fr_rf)))))), rfl, rfl, n249, n249a⟩)
  · skip
    have i19 := sw_eq c19
    refine g_aload_n 154 (gd rfl) rfl rfl ?_
    refine g_getA (q2 := 112) 157 (gd rfl) rfl rfl rfl rfl ?_
    refine g_iload_n 158 (gd rfl) rfl rfl ?_
    refine g_iconst 0 159 (gd rfl) rfl rfl ?_
    refine g_bastore 160 (gd rfl) rfl (n := 480) rfl (in_ix i11 rfl) ?_
    have hI159 := rng_sI (q := 112) (j := z11.toNatClampNeg) hI rfl (in_w 0 1 (nar01 (in_w 0 1 (in_c 0 rfl) rfl)) rfl)
    refine g_goto 249 (gd rfl) rfl ?_
    have n249 : AP s (sI s 112 z11.toNatClampNeg (vp_nar .boolean (Int32.ofInt 0))) (x1).toNatClampNeg (x2).toNatClampNeg := by first | exact ap_node q_0 (by have hk9 := i19; unfold In at hk9; rw [← e18]; omega) rfl (by rw [← e61]; exact t_add e78 i62 (in_c 1 rfl) rfl) rfl rfl rfl | exact ap_arc q_0 (by have hk9 := i19; unfold In at hk9; rw [← e18]; omega) rfl rfl (by have h3 := i11; unfold In at h3; have ha := i10; unfold In at ha; have hg := h2; unfold In at hg; have e3 := (t_mulc 160 (Or.inl e4) h2 rfl).1; have e4 := t_add e11 i4 i10 rfl; have e5 : (z11).toNatClampNeg = (z11).toInt.toNat := rfl; have e6 : x2.toNatClampNeg = x2.toInt.toNat := rfl; omega) rfl rfl e100 e112 | exact ap_take q_0 (by have hk9 := i19; unfold In at hk9; rw [← e18]; omega) rfl rfl rfl (by have h3 := i11; unfold In at h3; have ha := i10; unfold In at ha; have hg := h2; unfold In at hg; have e3 := (t_mulc 160 (Or.inl e4) h2 rfl).1; have e4 := t_add e11 i4 i10 rfl; have e5 : (z11).toNatClampNeg = (z11).toInt.toNat := rfl; have e6 : x2.toNatClampNeg = x2.toInt.toNat := rfl; omega) rfl rfl | exact ap_same q_0 (by have hk9 := i18; unfold In at hk9; rw [← e18]; omega) rfl rfl rfl rfl
    have n249a : APT s (sI s 112 z11.toNatClampNeg (vp_nar .boolean (Int32.ofInt 0))) (x1).toNatClampNeg (x2).toNatClampNeg := by exact apt_2 (by have hk9 := i19; unfold In at hk9; rw [← e18]; omega) rfl (by show z11.toInt.toNat = 160 * x2.toNatClampNeg + (s.1 119 x1.toNatClampNeg).toNatClampNeg; rw [← e10]; have e3 := (t_mulc 160 (Or.inl e4) h2 rfl).1; have e5 := t_add e11 i4 i10 rfl; have hg := h2; unfold In at hg; have ha := i10; unfold In at ha; have e6 : x2.toNatClampNeg = x2.toInt.toNat := rfl; have e7 : z10.toNatClampNeg = z10.toInt.toNat := rfl; omega) (by decide)
    exact g_return (gd rfl) rfl (hP _ _ ⟨(sI s 112 z11.toNatClampNeg (vp_nar .boolean (Int32.ofInt 0))), hI159, (fr_sI rfl fr_rf), rfl, rfl, n249, n249a⟩)
  · skip
    have i19 := sw_eq c19
    refine g_aload_n 164 (gd rfl) rfl rfl ?_
    refine g_getA (q2 := 120) 167 (gd rfl) rfl rfl rfl rfl ?_
    refine g_iload_n 168 (gd rfl) rfl rfl ?_
    refine g_iaload 169 (gd rfl) rfl (n := 4000) rfl (in_ix h1 rfl) (fun z168 e168 => ?_)
    have i168 := rng_I hI (n := 4000) (t := 0) 0 31 rfl (in_ix h1 rfl) rfl e168
    refine g_if_ne 172 187 (gd rfl) rfl rfl (fun c169 => ?_) (fun c169 => ?_)
    · skip
      have i169 := z_ne 1 31 c169 i168 rfl
      refine g_aload_n 188 (gd rfl) rfl rfl ?_
      refine g_getA (q2 := 120) 191 (gd rfl) rfl rfl rfl rfl ?_
      refine g_iload_n 192 (gd rfl) rfl rfl ?_
      refine g_iaload 193 (gd rfl) rfl (n := 4000) rfl (in_ix h1 rfl) (fun z192 e192 => ?_)
      have q192 : z168 = z192 := (e168).trans e192.symm
      subst q192
      refine g_iconst 1 194 (gd rfl) rfl rfl ?_
      refine g_cmp_ne 197 212 (gd rfl) rfl rfl (fun c194 => ?_) (fun c194 => ?_)
      · skip
        have i194 := r_ne1 2 31 c194 i169 (in_c 1 rfl) rfl
        refine g_aload_n 213 (gd rfl) rfl rfl ?_
        refine g_getA (q2 := 117) 216 (gd rfl) rfl rfl rfl rfl ?_
        refine g_iload_n 217 (gd rfl) rfl rfl ?_
        refine g_aload_n 218 (gd rfl) rfl rfl ?_
        refine g_getA (q2 := 121) 221 (gd rfl) rfl rfl rfl rfl ?_
        refine g_iload_n 222 (gd rfl) rfl rfl ?_
        refine g_iaload 223 (gd rfl) rfl (n := 4000) rfl (in_ix h1 rfl) (fun z222 e222 => ?_)
        have i222 := rng_I hI (n := 4000) (t := 0) (-1000000) 1000000 rfl (in_ix h1 rfl) rfl e222
        have i223 : In z222 0 25 := by rw [e222]; exact q_0.1.2.2.2.1 (by have hk9 := i19; unfold In at hk9; rw [← e18]; omega) (by rw [← e168]; exact c169) (by rw [← e168]; exact c194)
        refine g_iastore 224 (gd rfl) rfl (n := 480) rfl (in_ix i11 rfl) ?_
        have hI223 := rng_sI (q := 117) (j := z11.toNatClampNeg) hI rfl (in_w 0 25 i223 rfl)
        refine g_goto 249 (gd rfl) rfl ?_
        have n249 : AP s (sI s 117 z11.toNatClampNeg z222) (x1).toNatClampNeg (x2).toNatClampNeg := by first | exact ap_node q_0 (by have hk9 := i19; unfold In at hk9; rw [← e18]; omega) rfl (by rw [← e61]; exact t_add e78 i62 (in_c 1 rfl) rfl) rfl rfl rfl | exact ap_arc q_0 (by have hk9 := i19; unfold In at hk9; rw [← e18]; omega) rfl rfl (by have h3 := i11; unfold In at h3; have ha := i10; unfold In at ha; have hg := h2; unfold In at hg; have e3 := (t_mulc 160 (Or.inl e4) h2 rfl).1; have e4 := t_add e11 i4 i10 rfl; have e5 : (z11).toNatClampNeg = (z11).toInt.toNat := rfl; have e6 : x2.toNatClampNeg = x2.toInt.toNat := rfl; omega) rfl rfl e100 e112 | exact ap_take q_0 (by have hk9 := i19; unfold In at hk9; rw [← e18]; omega) rfl rfl rfl (by have h3 := i11; unfold In at h3; have ha := i10; unfold In at ha; have hg := h2; unfold In at hg; have e3 := (t_mulc 160 (Or.inl e4) h2 rfl).1; have e4 := t_add e11 i4 i10 rfl; have e5 : (z11).toNatClampNeg = (z11).toInt.toNat := rfl; have e6 : x2.toNatClampNeg = x2.toInt.toNat := rfl; omega) rfl rfl | exact ap_same q_0 (by have hk9 := i18; unfold In at hk9; rw [← e18]; omega) rfl rfl rfl rfl
        have n249a : APT s (sI s 117 z11.toNatClampNeg z222) (x1).toNatClampNeg (x2).toNatClampNeg := by exact apt_3 (by have hk9 := i19; unfold In at hk9; rw [← e18]; omega) (by have hk9 := i19; unfold In at hk9; rw [← e18]; omega) rfl
        exact g_return (gd rfl) rfl (hP _ _ ⟨(sI s 117 z11.toNatClampNeg z222), hI223, (fr_sI rfl fr_rf), rfl, rfl, n249, n249a⟩)
      · skip
        have i194 := r_eq1 1 1 c194 i169 (in_c 1 rfl) rfl
        refine g_aload_n 198 (gd rfl) rfl rfl ?_
        refine g_getA (q2 := 116) 201 (gd rfl) rfl rfl rfl rfl ?_
        refine g_iload_n 202 (gd rfl) rfl rfl ?_
        refine g_aload_n 203 (gd rfl) rfl rfl ?_
        refine g_getA (q2 := 121) 206 (gd rfl) rfl rfl rfl rfl ?_
        refine g_iload_n 207 (gd rfl) rfl rfl ?_
        refine g_iaload 208 (gd rfl) rfl (n := 4000) rfl (in_ix h1 rfl) (fun z207 e207 => ?_)
        have i207 := rng_I hI (n := 4000) (t := 0) (-1000000) 1000000 rfl (in_ix h1 rfl) rfl e207
        have i208 : In z207 0 1000000 := by refine ⟨?_, i207.2⟩; rw [e207]; exact q_0.1.2.2.1 (by have hk9 := i19; unfold In at hk9; rw [← e18]; omega) (by rw [← e168]; exact c194)
        refine g_iastore 209 (gd rfl) rfl (n := 480) rfl (in_ix i11 rfl) ?_
        have hI208 := rng_sI (q := 116) (j := z11.toNatClampNeg) hI rfl (in_w 0 1000000 i208 rfl)
        refine g_goto 249 (gd rfl) rfl ?_
        have n249 : AP s (sI s 116 z11.toNatClampNeg z207) (x1).toNatClampNeg (x2).toNatClampNeg := by first | exact ap_node q_0 (by have hk9 := i19; unfold In at hk9; rw [← e18]; omega) rfl (by rw [← e61]; exact t_add e78 i62 (in_c 1 rfl) rfl) rfl rfl rfl | exact ap_arc q_0 (by have hk9 := i19; unfold In at hk9; rw [← e18]; omega) rfl rfl (by have h3 := i11; unfold In at h3; have ha := i10; unfold In at ha; have hg := h2; unfold In at hg; have e3 := (t_mulc 160 (Or.inl e4) h2 rfl).1; have e4 := t_add e11 i4 i10 rfl; have e5 : (z11).toNatClampNeg = (z11).toInt.toNat := rfl; have e6 : x2.toNatClampNeg = x2.toInt.toNat := rfl; omega) rfl rfl e100 e112 | exact ap_take q_0 (by have hk9 := i19; unfold In at hk9; rw [← e18]; omega) rfl rfl rfl (by have h3 := i11; unfold In at h3; have ha := i10; unfold In at ha; have hg := h2; unfold In at hg; have e3 := (t_mulc 160 (Or.inl e4) h2 rfl).1; have e4 := t_add e11 i4 i10 rfl; have e5 : (z11).toNatClampNeg = (z11).toInt.toNat := rfl; have e6 : x2.toNatClampNeg = x2.toInt.toNat := rfl; omega) rfl rfl | exact ap_same q_0 (by have hk9 := i18; unfold In at hk9; rw [← e18]; omega) rfl rfl rfl rfl
        have n249a : APT s (sI s 116 z11.toNatClampNeg z207) (x1).toNatClampNeg (x2).toNatClampNeg := by exact apt_3 (by have hk9 := i19; unfold In at hk9; rw [← e18]; omega) (by have hk9 := i19; unfold In at hk9; rw [← e18]; omega) rfl
        exact g_return (gd rfl) rfl (hP _ _ ⟨(sI s 116 z11.toNatClampNeg z207), hI208, (fr_sI rfl fr_rf), rfl, rfl, n249, n249a⟩)
    · skip
      have i169 := z_eq 0 0 c169 i168 rfl
      refine g_aload_n 173 (gd rfl) rfl rfl ?_
      refine g_getA (q2 := 115) 176 (gd rfl) rfl rfl rfl rfl ?_
      refine g_iload_n 177 (gd rfl) rfl rfl ?_
      refine g_aload_n 178 (gd rfl) rfl rfl ?_
      refine g_getA (q2 := 121) 181 (gd rfl) rfl rfl rfl rfl ?_
      refine g_iload_n 182 (gd rfl) rfl rfl ?_
      refine g_iaload 183 (gd rfl) rfl (n := 4000) rfl (in_ix h1 rfl) (fun z182 e182 => ?_)
      have i182 := rng_I hI (n := 4000) (t := 0) (-1000000) 1000000 rfl (in_ix h1 rfl) rfl e182
      refine g_iastore 184 (gd rfl) rfl (n := 480) rfl (in_ix i11 rfl) ?_
      have hI183 := rng_sI (q := 115) (j := z11.toNatClampNeg) hI rfl (in_w (-1000000) 1000000 i182 rfl)
      refine g_goto 249 (gd rfl) rfl ?_
      have n249 : AP s (sI s 115 z11.toNatClampNeg z182) (x1).toNatClampNeg (x2).toNatClampNeg := by first | exact ap_node q_0 (by have hk9 := i19; unfold In at hk9; rw [← e18]; omega) rfl (by rw [← e61]; exact t_add e78 i62 (in_c 1 rfl) rfl) rfl rfl rfl | exact ap_arc q_0 (by have hk9 := i19; unfold In at hk9; rw [← e18]; omega) rfl rfl (by have h3 := i11; unfold In at h3; have ha := i10; unfold In at ha; have hg := h2; unfold In at hg; have e3 := (t_mulc 160 (Or.inl e4) h2 rfl).1; have e4 := t_add e11 i4 i10 rfl; have e5 : (z11).toNatClampNeg = (z11).toInt.toNat := rfl; have e6 : x2.toNatClampNeg = x2.toInt.toNat := rfl; omega) rfl rfl e100 e112 | exact ap_take q_0 (by have hk9 := i19; unfold In at hk9; rw [← e18]; omega) rfl rfl rfl (by have h3 := i11; unfold In at h3; have ha := i10; unfold In at ha; have hg := h2; unfold In at hg; have e3 := (t_mulc 160 (Or.inl e4) h2 rfl).1; have e4 := t_add e11 i4 i10 rfl; have e5 : (z11).toNatClampNeg = (z11).toInt.toNat := rfl; have e6 : x2.toNatClampNeg = x2.toInt.toNat := rfl; omega) rfl rfl | exact ap_same q_0 (by have hk9 := i18; unfold In at hk9; rw [← e18]; omega) rfl rfl rfl rfl
      have n249a : APT s (sI s 115 z11.toNatClampNeg z182) (x1).toNatClampNeg (x2).toNatClampNeg := by exact apt_3 (by have hk9 := i19; unfold In at hk9; rw [← e18]; omega) (by have hk9 := i19; unfold In at hk9; rw [← e18]; omega) rfl
      exact g_return (gd rfl) rfl (hP _ _ ⟨(sI s 115 z11.toNatClampNeg z182), hI183, (fr_sI rfl fr_rf), rfl, rfl, n249, n249a⟩)
  · skip
    have i227 : In z10 0 31 := by have hr := q_0.1.2.2.2.2 (by have hk9 := i18; unfold In at hk9; rw [← e18]; omega); have hq := q_0.2.1; have hq2 := q_0.2.2.2; refine ⟨i10.1, ?_⟩; rw [e10]; omega
    refine g_aload_n 228 (gd rfl) rfl rfl ?_
    refine g_getA (q2 := 111) 231 (gd rfl) rfl rfl rfl rfl ?_
    refine g_bipush 32 233 (gd rfl) rfl rfl ?_
    refine g_iload_n 234 (gd rfl) rfl rfl ?_
    refine g_imul 235 (gd rfl) rfl (fun z234 e234 => ?_)
    have i234 := in_mulc 32 0 32 (Or.inl e234) h2 rfl rfl
    refine g_aload_n 236 (gd rfl) rfl rfl ?_
    refine g_getA (q2 := 119) 239 (gd rfl) rfl rfl rfl rfl ?_
    refine g_iload_n 240 (gd rfl) rfl rfl ?_
    refine g_iaload 241 (gd rfl) rfl (n := 4000) rfl (in_ix h1 rfl) (fun z240 e240 => ?_)
    have q240 : z10 = z240 := (e10).trans e240.symm
    subst q240
    refine g_iadd 242 (gd rfl) rfl (fun z241 e241 => ?_)
    have i241 := in_add 0 63 e241 i234 i227 rfl rfl
    refine g_aload_n 243 (gd rfl) rfl rfl ?_
    refine g_getA (q2 := 120) 246 (gd rfl) rfl rfl rfl rfl ?_
    refine g_iload_n 247 (gd rfl) rfl rfl ?_
    refine g_iaload 248 (gd rfl) rfl (n := 4000) rfl (in_ix h1 rfl) (fun z247 e247 => ?_)
    have i247 := rng_I hI (n := 4000) (t := 0) 0 31 rfl (in_ix h1 rfl) rfl e247
    have i248 : In z247 0 25 := by refine ⟨i247.1, ?_⟩; rw [e247]; exact (q_0.1.2.2.2.2 (by have hk9 := i18; unfold In at hk9; rw [← e18]; omega)).2
    refine g_iastore 249 (gd rfl) rfl (n := 96) rfl (in_ix i241 rfl) ?_
    have hI248 := rng_sI (q := 111) (j := z241.toNatClampNeg) hI rfl (in_w 0 25 i248 rfl)
    have n249 : AP s (sI s 111 z241.toNatClampNeg z247) (x1).toNatClampNeg (x2).toNatClampNeg := by first | exact ap_node q_0 (by have hk9 := i19; unfold In at hk9; rw [← e18]; omega) rfl (by rw [← e61]; exact t_add e78 i62 (in_c 1 rfl) rfl) rfl rfl rfl | exact ap_arc q_0 (by have hk9 := i19; unfold In at hk9; rw [← e18]; omega) rfl rfl (by have h3 := i11; unfold In at h3; have ha := i10; unfold In at ha; have hg := h2; unfold In at hg; have e3 := (t_mulc 160 (Or.inl e4) h2 rfl).1; have e4 := t_add e11 i4 i10 rfl; have e5 : (z11).toNatClampNeg = (z11).toInt.toNat := rfl; have e6 : x2.toNatClampNeg = x2.toInt.toNat := rfl; omega) rfl rfl e100 e112 | exact ap_take q_0 (by have hk9 := i19; unfold In at hk9; rw [← e18]; omega) rfl rfl rfl (by have h3 := i11; unfold In at h3; have ha := i10; unfold In at ha; have hg := h2; unfold In at hg; have e3 := (t_mulc 160 (Or.inl e4) h2 rfl).1; have e4 := t_add e11 i4 i10 rfl; have e5 : (z11).toNatClampNeg = (z11).toInt.toNat := rfl; have e6 : x2.toNatClampNeg = x2.toInt.toNat := rfl; omega) rfl rfl | exact ap_same q_0 (by have hk9 := i18; unfold In at hk9; rw [← e18]; omega) rfl rfl rfl rfl
    have n249a : APT s (sI s 111 z241.toNatClampNeg z247) (x1).toNatClampNeg (x2).toNatClampNeg := by exact apt_3 (by have hk9 := i18; unfold In at hk9; rw [← e18]; omega) (by have hk9 := i18; unfold In at hk9; rw [← e18]; omega) rfl
    exact g_return (gd rfl) rfl (hP _ _ ⟨(sI s 111 z241.toNatClampNeg z247), hI248, (fr_sI rfl fr_rf), rfl, rfl, n249, n249a⟩)

def fm_276 : FM := ([], [], [(109, 18), (109, 19), (109, 20)], [])
/-- GraphHouseModel.look -/
theorem k_276 {Z : AmZ} {A : Nat → Nat} {s : GS} {ex : va_W} {d : Nat} {X : AmX}  (hd : 1 ≤ d) (hI : Rng s) (q_0 : In (s.1 110 0) 0 32 ∧ In (s.1 110 1) 0 32) : GC Z d 276 [.ref (A 109)] (WW Z A s ++ ex) 0 0 (fun v u => ∃ t : GS, Rng t ∧ Fr fm_276 s t ∧ v = none ∧ u = WW Z A t ++ ex ∧ ((t.2.2.1 109 19).toInt = 160 * (t.2.2.1 109 18).toInt ∧ t.2.2.1 109 20 = t.1 110 (t.2.2.1 109 18).toNatClampNeg)) X := by
  intro post xp hP hX
  obtain ⟨u_109_17, e_109_17⟩ : ∃ w, w = s.2.2.1 109 17 := ⟨_, rfl⟩
  have ro_109_17 := rng_F hI (-1) 4000 rfl e_109_17
  refine g_enter2 (k := 276) (N := 900) (by omega) rfl (Nat.le_of_ble_eq_true rfl) ?_
  refine g_aload_n 1 (gd rfl) rfl rfl ?_
  refine g_aload_n 2 (gd rfl) rfl rfl ?_
  refine g_getI 5 (gd rfl) rfl rfl rfl (fun z2 e2 => ?_)
  have q2 : u_109_17 = z2 := (e_109_17).trans e2.symm
  subst q2
  refine g_if_ge 8 12 (gd rfl) rfl rfl (fun c5 => ?_) (fun c5 => ?_)
  · skip
    have i5 := z_ge 0 4000 c5 ro_109_17 rfl
    refine g_iconst 1 13 (gd rfl) rfl rfl ?_
    refine g_putI 16 (gd rfl) rfl rfl rfl rfl ?_
    have hI13 := rng_sF (q := 109) (j := 18) hI rfl (in_w 0 1 (in_c 1 rfl) rfl)
    refine g_aload_n 17 (gd rfl) rfl rfl ?_
    refine g_sipush 160 20 (gd rfl) rfl rfl ?_
    refine g_aload_n 21 (gd rfl) rfl rfl ?_
    refine g_getI 24 (gd rfl) rfl rfl rfl (fun z21 e21 => ?_)
    have q21 : (Int32.ofInt 1) = z21 := (sF_get).trans e21.symm
    subst q21
    refine g_imul 25 (gd rfl) rfl (fun z24 e24 => ?_)
    have i24 := in_mulc 160 160 160 (Or.inl e24) (in_c 1 rfl) rfl rfl
    refine g_putI 28 (gd rfl) rfl rfl rfl rfl ?_
    have hI25 := rng_sF (q := 109) (j := 19) hI13 rfl (in_w 0 160 i24 rfl)
    refine g_aload_n 29 (gd rfl) rfl rfl ?_
    refine g_aload_n 30 (gd rfl) rfl rfl ?_
    refine g_getA (q2 := 110) 33 (gd rfl) rfl rfl rfl rfl ?_
    refine g_aload_n 34 (gd rfl) rfl rfl ?_
    refine g_getI 37 (gd rfl) rfl rfl rfl (fun z34 e34 => ?_)
    have q34 : (Int32.ofInt 1) = z34 := (sF_ne rfl (sF_get)).trans e34.symm
    subst q34
    refine g_iaload 38 (gd rfl) rfl (n := 3) rfl (in_ix (in_c 1 rfl) rfl) (fun z37 e37 => ?_)
    have i38 : In z37 0 32 := by first | (rw [e37]; exact q_0.1) | (rw [e37]; exact q_0.2)
    refine g_putI 41 (gd rfl) rfl rfl rfl rfl ?_
    have hI38 := rng_sF (q := 109) (j := 20) hI25 rfl (in_w 0 32 i38 rfl)
    have n41 : ((sF (sF (sF s 109 18 (Int32.ofInt 1)) 109 19 z24) 109 20 z37).2.2.1 109 19).toInt = 160 * ((sF (sF (sF s 109 18 (Int32.ofInt 1)) 109 19 z24) 109 20 z37).2.2.1 109 18).toInt ∧ (sF (sF (sF s 109 18 (Int32.ofInt 1)) 109 19 z24) 109 20 z37).2.2.1 109 20 = (sF (sF (sF s 109 18 (Int32.ofInt 1)) 109 19 z24) 109 20 z37).1 110 ((sF (sF (sF s 109 18 (Int32.ofInt 1)) 109 19 z24) 109 20 z37).2.2.1 109 18).toNatClampNeg := by rw [← (show z24 = (sF (sF (sF s 109 18 (Int32.ofInt 1)) 109 19 z24) 109 20 z37).2.2.1 109 19 from sF_ne rfl (sF_get)), ← (show (Int32.ofInt 1) = (sF (sF (sF s 109 18 (Int32.ofInt 1)) 109 19 z24) 109 20 z37).2.2.1 109 18 from sF_ne rfl (sF_ne rfl (sF_get))), ← (show z37 = (sF (sF (sF s 109 18 (Int32.ofInt 1)) 109 19 z24) 109 20 z37).2.2.1 109 20 from sF_get)]; exact ⟨(t_mulc 160 (Or.inl e24) (in_c _ rfl) rfl).1, e37⟩
    exact g_return (gd rfl) rfl (hP _ _ ⟨(sF (sF (sF s 109 18 (Int32.ofInt 1)) 109 19 z24) 109 20 z37), hI38, (fr_sF rfl (fr_sF rfl (fr_sF rfl fr_rf))), rfl, rfl, n41⟩)
  · skip
    have i5 := z_lt (-1) (-1) c5 ro_109_17 rfl
    refine g_iconst 0 9 (gd rfl) rfl rfl ?_
    refine g_goto 13 (gd rfl) rfl ?_
    refine g_putI 16 (gd rfl) rfl rfl rfl rfl ?_
    have hI13 := rng_sF (q := 109) (j := 18) hI rfl (in_w 0 1 (in_c 0 rfl) rfl)
    refine g_aload_n 17 (gd rfl) rfl rfl ?_
    refine g_sipush 160 20 (gd rfl) rfl rfl ?_
    refine g_aload_n 21 (gd rfl) rfl rfl ?_
    refine g_getI 24 (gd rfl) rfl rfl rfl (fun z21 e21 => ?_)
    have q21 : (Int32.ofInt 0) = z21 := (sF_get).trans e21.symm
    subst q21
    refine g_imul 25 (gd rfl) rfl (fun z24 e24 => ?_)
    have i24 := in_mulc 160 0 0 (Or.inl e24) (in_c 0 rfl) rfl rfl
    refine g_putI 28 (gd rfl) rfl rfl rfl rfl ?_
    have hI25 := rng_sF (q := 109) (j := 19) hI13 rfl (in_w 0 160 i24 rfl)
    refine g_aload_n 29 (gd rfl) rfl rfl ?_
    refine g_aload_n 30 (gd rfl) rfl rfl ?_
    refine g_getA (q2 := 110) 33 (gd rfl) rfl rfl rfl rfl ?_
    refine g_aload_n 34 (gd rfl) rfl rfl ?_
    refine g_getI 37 (gd rfl) rfl rfl rfl (fun z34 e34 => ?_)
    have q34 : (Int32.ofInt 0) = z34 := (sF_ne rfl (sF_get)).trans e34.symm
    subst q34
    refine g_iaload 38 (gd rfl) rfl (n := 3) rfl (in_ix (in_c 0 rfl) rfl) (fun z37 e37 => ?_)
    have i38 : In z37 0 32 := by first | (rw [e37]; exact q_0.1) | (rw [e37]; exact q_0.2)
    refine g_putI 41 (gd rfl) rfl rfl rfl rfl ?_
    have hI38 := rng_sF (q := 109) (j := 20) hI25 rfl (in_w 0 32 i38 rfl)
    have n41 : ((sF (sF (sF s 109 18 (Int32.ofInt 0)) 109 19 z24) 109 20 z37).2.2.1 109 19).toInt = 160 * ((sF (sF (sF s 109 18 (Int32.ofInt 0)) 109 19 z24) 109 20 z37).2.2.1 109 18).toInt ∧ (sF (sF (sF s 109 18 (Int32.ofInt 0)) 109 19 z24) 109 20 z37).2.2.1 109 20 = (sF (sF (sF s 109 18 (Int32.ofInt 0)) 109 19 z24) 109 20 z37).1 110 ((sF (sF (sF s 109 18 (Int32.ofInt 0)) 109 19 z24) 109 20 z37).2.2.1 109 18).toNatClampNeg := by rw [← (show z24 = (sF (sF (sF s 109 18 (Int32.ofInt 0)) 109 19 z24) 109 20 z37).2.2.1 109 19 from sF_ne rfl (sF_get)), ← (show (Int32.ofInt 0) = (sF (sF (sF s 109 18 (Int32.ofInt 0)) 109 19 z24) 109 20 z37).2.2.1 109 18 from sF_ne rfl (sF_ne rfl (sF_get))), ← (show z37 = (sF (sF (sF s 109 18 (Int32.ofInt 0)) 109 19 z24) 109 20 z37).2.2.1 109 20 from sF_get)]; exact ⟨(t_mulc 160 (Or.inl e24) (in_c _ rfl) rfl).1, e37⟩
    exact g_return (gd rfl) rfl (hP _ _ ⟨(sF (sF (sF s 109 18 (Int32.ofInt 0)) 109 19 z24) 109 20 z37), hI38, (fr_sF rfl (fr_sF rfl (fr_sF rfl fr_rf))), rfl, rfl, n41⟩)

/-- GraphHouseModel.freePlace -/
theorem k_280 {Z : AmZ} {A : Nat → Nat} {s : GS} {ex : va_W} {d : Nat} {X : AmX} {x1 : Int32} (hd : 1 ≤ d) (hI : Inv s) (h1 : In x1 0 2) : GC Z d 280 [.ref (A 109), .int x1] (WW Z A s ++ ex) 0 0 (fun v u => ∃ z : Int32, v = some (.int z) ∧ u = WW Z A s ++ ex ∧ In z 0 160 ∧ ((z).toNatClampNeg = fpl (thg s (160 * (x1).toNatClampNeg)))) X := by
  intro post xp hP hX
  have ct2 : ∀ (k2 : Nat) (y2_2 : Int32), (In y2_2 0 160) → (∀ i : Nat, (i : Int) < (y2_2).toInt → (s.1 112 (160 * (x1).toNatClampNeg + i)).toInt ≠ 0) → 160 - (y2_2).toInt < (k2 : Int) → GG Z (d - 1) 280 post (gx xp) (1 + k2 * 900) 2 (fun j => xlook j [(0, .ref (A 109)), (1, .int x1), (2, .int y2_2)]) [] (WW Z A s ++ ex) 0 0 := by
    intro k2
    induction k2 with
    | zero => intro y2_2 j2_2 g2_0 mm2; exact m_no mm2 j2_2 rfl
    | succ k2 ih2 =>
      intro y2_2 j2_2 g2_0 mm2
      refine gg_w (M := 1 + k2 * 900 + 900) (by omega) ?_
      refine g_iload_n 3 (gd rfl) rfl rfl ?_
      refine g_sipush 160 6 (gd rfl) rfl rfl ?_
      refine g_cmp_ge 9 30 (gd rfl) rfl rfl (fun c6 => ?_) (fun c6 => ?_)
      · skip
        have i6 := r_le2 160 160 c6 (in_c 160 rfl) j2_2 rfl
        refine g_iload_n 31 (gd rfl) rfl rfl ?_
        have n31 : (y2_2).toNatClampNeg = fpl (thg s (160 * (x1).toNatClampNeg)) := by exact (fpl_eq (r := y2_2.toNatClampNeg) (by show y2_2.toInt.toNat ≤ 160; have a0 := h1; unfold In at a0; have a1 := i6; unfold In at a1; omega) (fun i hi => decide_eq_true (g2_0 i (by have e2 : y2_2.toNatClampNeg = y2_2.toInt.toNat := rfl; have a0 := h1; unfold In at a0; have a1 := i6; unfold In at a1; omega))) (fun hlt => by first | (exfalso; have e2 : y2_2.toNatClampNeg = y2_2.toInt.toNat := rfl; have a0 := h1; unfold In at a0; have a1 := i6; unfold In at a1; omega) | (refine decide_eq_false (fun z => z ?_); rw [show 160 * x1.toNatClampNeg + y2_2.toNatClampNeg = z19.toNatClampNeg from (by show 160 * x1.toInt.toNat + y2_2.toInt.toNat = z19.toInt.toNat; have a0 := h1; unfold In at a0; have a1 := i6; unfold In at a1; omega), ← e20]; exact c21))).symm
        exact g_ireturn (gd rfl) rfl rfl (hP _ _ ⟨y2_2, rfl, rfl, in_w 0 160 i6 rfl, n31⟩)
      · skip
        have i6 := r_lt1 0 159 c6 j2_2 (in_c 160 rfl) rfl
        refine g_aload_n 10 (gd rfl) rfl rfl ?_
        refine g_getA (q2 := 112) 13 (gd rfl) rfl rfl rfl rfl ?_
        refine g_sipush 160 16 (gd rfl) rfl rfl ?_
        refine g_iload_n 17 (gd rfl) rfl rfl ?_
        refine g_imul 18 (gd rfl) rfl (fun z17 e17 => ?_)
        have i17 := in_mulc 160 0 320 (Or.inl e17) h1 rfl rfl
        refine g_iload_n 19 (gd rfl) rfl rfl ?_
        refine g_iadd 20 (gd rfl) rfl (fun z19 e19 => ?_)
        have i19 := in_add 0 479 e19 i17 i6 rfl rfl
        refine g_baload 21 (gd rfl) rfl (n := 480) rfl (in_ix i19 rfl) (fun z20 e20 => ?_)
        have i20 := inv_I hI (n := 480) (t := 3) 0 1 rfl (in_ix i19 rfl) rfl e20
        refine g_if_eq 24 30 (gd rfl) rfl rfl (fun c21 => ?_) (fun c21 => ?_)
        · skip
          have i21 := z_eq 0 0 c21 i20 rfl
          refine g_iload_n 31 (gd rfl) rfl rfl ?_
          have n31 : (y2_2).toNatClampNeg = fpl (thg s (160 * (x1).toNatClampNeg)) := by exact (fpl_eq (r := y2_2.toNatClampNeg) (by show y2_2.toInt.toNat ≤ 160; have a0 := h1; unfold In at a0; have a1 := i6; unfold In at a1; have a2 := i19; unfold In at a2; have a3 := t_add e19 i17 i6 rfl; have a4 := i17; unfold In at a4; have a5 := (t_mulc 160 (Or.inl e17) h1 rfl).1; omega) (fun i hi => decide_eq_true (g2_0 i (by have e2 : y2_2.toNatClampNeg = y2_2.toInt.toNat := rfl; have a0 := h1; unfold In at a0; have a1 := i6; unfold In at a1; have a2 := i19; unfold In at a2; have a3 := t_add e19 i17 i6 rfl; have a4 := i17; unfold In at a4; have a5 := (t_mulc 160 (Or.inl e17) h1 rfl).1; omega))) (fun hlt => by first | (exfalso; have e2 : y2_2.toNatClampNeg = y2_2.toInt.toNat := rfl; have a0 := h1; unfold In at a0; have a1 := i6; unfold In at a1; have a2 := i19; unfold In at a2; have a3 := t_add e19 i17 i6 rfl; have a4 := i17; unfold In at a4; have a5 := (t_mulc 160 (Or.inl e17) h1 rfl).1; omega) | (refine decide_eq_false (fun z => z ?_); rw [show 160 * x1.toNatClampNeg + y2_2.toNatClampNeg = z19.toNatClampNeg from (by show 160 * x1.toInt.toNat + y2_2.toInt.toNat = z19.toInt.toNat; have a0 := h1; unfold In at a0; have a1 := i6; unfold In at a1; have a2 := i19; unfold In at a2; have a3 := t_add e19 i17 i6 rfl; have a4 := i17; unfold In at a4; have a5 := (t_mulc 160 (Or.inl e17) h1 rfl).1; omega), ← e20]; exact c21))).symm
          exact g_ireturn (gd rfl) rfl rfl (hP _ _ ⟨y2_2, rfl, rfl, in_w 0 160 i6 rfl, n31⟩)
        · skip
          have i21 := z_ne 1 1 c21 i20 rfl
          refine g_iinc 27 (gd rfl) rfl rfl (Nat.le_of_ble_eq_true rfl) (fun z24 e24 => ?_)
          have i24 := in_add 1 160 e24 i6 (in_c 1 rfl) rfl rfl
          refine g_goto 2 (gd rfl) rfl ?_
          have n2 : ∀ i : Nat, (i : Int) < (z24).toInt → (s.1 112 (160 * (x1).toNatClampNeg + i)).toInt ≠ 0 := by (intro i hi; have e2 : y2_2.toNatClampNeg = y2_2.toInt.toNat := rfl; by_cases c : i = y2_2.toNatClampNeg; (rw [c, show 160 * x1.toNatClampNeg + y2_2.toNatClampNeg = z19.toNatClampNeg from (by show 160 * x1.toInt.toNat + y2_2.toInt.toNat = z19.toInt.toNat; have a0 := h1; unfold In at a0; have a1 := i6; unfold In at a1; have a2 := i24; unfold In at a2; have a3 := t_add e24 i6 (in_c 1 rfl) rfl; have a4 := (in_c 1 rfl); unfold In at a4; have a5 := i19; unfold In at a5; have a6 := t_add e19 i17 i6 rfl; have a7 := i17; unfold In at a7; have a8 := (t_mulc 160 (Or.inl e17) h1 rfl).1; omega), ← e20]; exact c21); exact g2_0 i (by have a0 := h1; unfold In at a0; have a1 := i6; unfold In at a1; have a2 := i24; unfold In at a2; have a3 := t_add e24 i6 (in_c 1 rfl) rfl; have a4 := (in_c 1 rfl); unfold In at a4; have a5 := i19; unfold In at a5; have a6 := t_add e19 i17 i6 rfl; have a7 := i17; unfold In at a7; have a8 := (t_mulc 160 (Or.inl e17) h1 rfl).1; omega))
          exact gg_w (by omega) (gg_f (gf_cons rfl (gf_cons rfl (gf_cons rfl gf_nil))) (ih2  z24  (in_w 0 160 i24 rfl) n2 (m_up mm2 (t_add e24 i6 (in_c 1 rfl) rfl) (in_w 1 1 (in_c 1 rfl) rfl))))
  refine g_enter2 (k := 280) (N := 145801) (by omega) rfl (Nat.le_of_ble_eq_true rfl) ?_
  refine g_iconst 0 1 (gd rfl) rfl rfl ?_
  refine g_istore_n 2 (gd rfl) rfl (Nat.le_of_ble_eq_true rfl) ?_
  have n2 : ∀ i : Nat, (i : Int) < ((Int32.ofInt 0)).toInt → (s.1 112 (160 * (x1).toNatClampNeg + i)).toInt ≠ 0 := by (intro i hi; exfalso; have h0 : (Int32.ofInt 0).toInt = 0 := rfl; omega)
  exact gg_w (by omega) (gg_f (gf_cons rfl (gf_cons rfl (gf_cons rfl gf_nil))) (ct2 161  (Int32.ofInt 0)  (in_w 0 160 (in_c 0 rfl) rfl) n2 (m_in 161 (in_w 0 160 (in_c 0 rfl) rfl) rfl)))

def fm_303 : FM := ([110, 112], [], [], [])
/-- GraphHouseModel.copyGraph -/
theorem k_303 {Z : AmZ} {A : Nat → Nat} {s : GS} {ex : va_W} {d : Nat} {X : AmX}  (hd : 1 ≤ d) (hI : Inv s)  : GC Z d 303 [.ref (A 109)] (WW Z A s ++ ex) 0 0 (fun v u => ∃ t : GS, Inv t ∧ Fr fm_303 s t ∧ v = none ∧ u = WW Z A t ++ ex ∧ (t.1 110 2 = s.1 110 0 ∧ t.1 110 0 = s.1 110 0 ∧ ∀ i : Nat, i < 160 → t.1 112 (320 + i) = s.1 112 i ∧ t.1 112 i = s.1 112 i)) X := by
  intro post xp hP hX
  have ct14 : ∀ (k14 : Nat) (sc14 : GS) (y14_1 : Int32), Inv sc14 → Fr fm_303 s sc14 → (In y14_1 0 160) → (sc14.1 110 2 = s.1 110 0 ∧ sc14.1 110 0 = s.1 110 0 ∧ (∀ i : Nat, i < 160 → sc14.1 112 i = s.1 112 i) ∧ ∀ i : Nat, (i : Int) < (y14_1).toInt → sc14.1 112 (320 + i) = s.1 112 i) → 160 - (y14_1).toInt < (k14 : Int) → GG Z (d - 1) 303 post (gx xp) (1 + k14 * 900) 14 (fun j => xlook j [(0, .ref (A 109)), (1, .int y14_1)]) [] (WW Z A sc14 ++ ex) 0 0 := by
    intro k14
    induction k14 with
    | zero => intro sc14 y14_1 hIc14 hFc14 j14_1 g14_0 mm14; exact m_no mm14 j14_1 rfl
    | succ k14 ih14 =>
      intro sc14 y14_1 hIc14 hFc14 j14_1 g14_0 mm14
      refine gg_w (M := 1 + k14 * 900 + 900) (by omega) ?_
      refine g_iload_n 15 (gd rfl) rfl rfl ?_
      refine g_sipush 160 18 (gd rfl) rfl rfl ?_
      refine g_cmp_ge 21 43 (gd rfl) rfl rfl (fun c18 => ?_) (fun c18 => ?_)
      · skip
        have i18 := r_le2 160 160 c18 (in_c 160 rfl) j14_1 rfl
        have n43 : sc14.1 110 2 = s.1 110 0 ∧ sc14.1 110 0 = s.1 110 0 ∧ ∀ i : Nat, i < 160 → sc14.1 112 (320 + i) = s.1 112 i ∧ sc14.1 112 i = s.1 112 i := by exact ⟨g14_0.1, g14_0.2.1, fun i hi => ⟨g14_0.2.2.2 i (by have a0 := i18; unfold In at a0; omega), g14_0.2.2.1 i hi⟩⟩
        exact g_return (gd rfl) rfl (hP _ _ ⟨sc14, hIc14, hFc14, rfl, rfl, n43⟩)
      · skip
        have i18 := r_lt1 0 159 c18 j14_1 (in_c 160 rfl) rfl
        refine g_aload_n 22 (gd rfl) rfl rfl ?_
        refine g_getA (q2 := 112) 25 (gd rfl) rfl rfl rfl rfl ?_
        refine g_sipush 320 28 (gd rfl) rfl rfl ?_
        refine g_iload_n 29 (gd rfl) rfl rfl ?_
        refine g_iadd 30 (gd rfl) rfl (fun z29 e29 => ?_)
        have i29 := in_add 320 479 e29 (in_c 320 rfl) i18 rfl rfl
        refine g_aload_n 31 (gd rfl) rfl rfl ?_
        refine g_getA (q2 := 112) 34 (gd rfl) rfl rfl rfl rfl ?_
        refine g_iload_n 35 (gd rfl) rfl rfl ?_
        refine g_baload 36 (gd rfl) rfl (n := 480) rfl (in_ix i18 rfl) (fun z35 e35 => ?_)
        have i35 := inv_I hIc14 (n := 480) (t := 3) 0 1 rfl (in_ix i18 rfl) rfl e35
        refine g_bastore 37 (gd rfl) rfl (n := 480) rfl (in_ix i29 rfl) ?_
        have hI36 : Inv (sI sc14 112 z29.toNatClampNeg (vp_nar .boolean z35)) := by exact inv_t3 hIc14 (by show 320 ≤ (z29).toInt.toNat; have a0 := i18; unfold In at a0; have a1 := i29; unfold In at a1; have a2 := t_add e29 (in_c 320 rfl) i18 rfl; have a3 := (in_c 320 rfl); unfold In at a3; omega) (in_w 0 1 (nar01 (in_w 0 1 i35 rfl)) rfl)
        refine g_iinc 40 (gd rfl) rfl rfl (Nat.le_of_ble_eq_true rfl) (fun z37 e37 => ?_)
        have i37 := in_add 1 160 e37 i18 (in_c 1 rfl) rfl rfl
        refine g_goto 14 (gd rfl) rfl ?_
        have n14 : (sI sc14 112 z29.toNatClampNeg (vp_nar .boolean z35)).1 110 2 = s.1 110 0 ∧ (sI sc14 112 z29.toNatClampNeg (vp_nar .boolean z35)).1 110 0 = s.1 110 0 ∧ (∀ i : Nat, i < 160 → (sI sc14 112 z29.toNatClampNeg (vp_nar .boolean z35)).1 112 i = s.1 112 i) ∧ ∀ i : Nat, (i : Int) < (z37).toInt → (sI sc14 112 z29.toNatClampNeg (vp_nar .boolean z35)).1 112 (320 + i) = s.1 112 i := by (have ez : z29.toNatClampNeg = 320 + y14_1.toNatClampNeg := (by show z29.toInt.toNat = 320 + y14_1.toInt.toNat; have a0 := i18; unfold In at a0; have a1 := i37; unfold In at a1; have a2 := t_add e37 i18 (in_c 1 rfl) rfl; have a3 := (in_c 1 rfl); unfold In at a3; have a4 := i29; unfold In at a4; have a5 := t_add e29 (in_c 320 rfl) i18 rfl; have a6 := (in_c 320 rfl); unfold In at a6; omega); have e1 : y14_1.toNatClampNeg = y14_1.toInt.toNat := rfl; refine ⟨by rw [sI_p rfl]; exact g14_0.1, by rw [sI_p rfl]; exact g14_0.2.1, fun i hi => ?_, fun i hi => ?_⟩ <;> rw [sI_q]; (rw [up_n (by omega)]; exact g14_0.2.2.1 i hi); (by_cases c : i = y14_1.toNatClampNeg; (rw [c, ← ez, up_e, nar_b i35, e35]; exact g14_0.2.2.1 _ (by have a0 := i18; unfold In at a0; have a1 := i37; unfold In at a1; have a2 := t_add e37 i18 (in_c 1 rfl) rfl; have a3 := (in_c 1 rfl); unfold In at a3; have a4 := i29; unfold In at a4; have a5 := t_add e29 (in_c 320 rfl) i18 rfl; have a6 := (in_c 320 rfl); unfold In at a6; omega)); (rw [up_n (by omega)]; exact g14_0.2.2.2 i (by have a0 := i18; unfold In at a0; have a1 := i37; unfold In at a1; have a2 := t_add e37 i18 (in_c 1 rfl) rfl; have a3 := (in_c 1 rfl); unfold In at a3; have a4 := i29; unfold In at a4; have a5 := t_add e29 (in_c 320 rfl) i18 rfl; have a6 := (in_c 320 rfl); unfold In at a6; omega))))
        exact gg_w (by omega) (gg_f (gf_cons rfl (gf_cons rfl gf_nil)) (ih14 (sI sc14 112 z29.toNatClampNeg (vp_nar .boolean z35)) z37 hI36 (fr_sI rfl hFc14) (in_w 0 160 i37 rfl) n14 (m_up mm14 (t_add e37 i18 (in_c 1 rfl) rfl) (in_w 1 1 (in_c 1 rfl) rfl))))
  refine g_enter2 (k := 303) (N := 145801) (by omega) rfl (Nat.le_of_ble_eq_true rfl) ?_
  refine g_aload_n 1 (gd rfl) rfl rfl ?_
  refine g_getA (q2 := 110) 4 (gd rfl) rfl rfl rfl rfl ?_
  refine g_iconst 2 5 (gd rfl) rfl rfl ?_
  refine g_aload_n 6 (gd rfl) rfl rfl ?_
  refine g_getA (q2 := 110) 9 (gd rfl) rfl rfl rfl rfl ?_
  refine g_iconst 0 10 (gd rfl) rfl rfl ?_
  refine g_iaload 11 (gd rfl) rfl (n := 3) rfl (in_ix (in_c 0 rfl) rfl) (fun z10 e10 => ?_)
  have i10 := nn_01 hI (in_c 0 rfl) rfl e10
  refine g_iastore 12 (gd rfl) rfl (n := 3) rfl (in_ix (in_c 2 rfl) rfl) ?_
  have hI11 : Inv (sI s 110 (Int32.ofInt 2).toNatClampNeg z10) := by exact inv_n2 hI (Nat.le_refl 2)
  refine g_iconst 0 13 (gd rfl) rfl rfl ?_
  refine g_istore_n 14 (gd rfl) rfl (Nat.le_of_ble_eq_true rfl) ?_
  have n14 : (sI s 110 (Int32.ofInt 2).toNatClampNeg z10).1 110 2 = s.1 110 0 ∧ (sI s 110 (Int32.ofInt 2).toNatClampNeg z10).1 110 0 = s.1 110 0 ∧ (∀ i : Nat, i < 160 → (sI s 110 (Int32.ofInt 2).toNatClampNeg z10).1 112 i = s.1 112 i) ∧ ∀ i : Nat, (i : Int) < ((Int32.ofInt 0)).toInt → (sI s 110 (Int32.ofInt 2).toNatClampNeg z10).1 112 (320 + i) = s.1 112 i := by exact ⟨by rw [sI_q, e10]; exact up_e, by rw [sI_q]; exact up_n (by decide), fun i _ => by rw [sI_p rfl], fun i hi => (by exfalso; have h0 : (Int32.ofInt 0).toInt = 0 := rfl; omega)⟩
  exact gg_w (by omega) (gg_f (gf_cons rfl (gf_cons rfl gf_nil)) (ct14 161 (sI s 110 (Int32.ofInt 2).toNatClampNeg z10) (Int32.ofInt 0) hI11 (fr_sI rfl fr_rf) (in_w 0 160 (in_c 0 rfl) rfl) n14 (m_in 161 (in_w 0 160 (in_c 0 rfl) rfl) rfl)))

def fm_298 : FM := ([], [], [(109, 23), (109, 24)], [])
/-- GraphHouseModel.blame -/
theorem k_298 {Z : AmZ} {A : Nat → Nat} {s : GS} {ex : va_W} {d : Nat} {X : AmX} {x1 : Int32} {x2 : Int32} (hd : 1 ≤ d) (hI : Inv s) (h1 : In x1 1 5) : GC Z d 298 [.ref (A 109), .int x1, .int x2] (WW Z A s ++ ex) 0 0 (fun v u => ∃ t : GS, Inv t ∧ Fr fm_298 s t ∧ (1 ≤ (t.2.2.1 109 23).toInt) ∧ v = none ∧ u = WW Z A t ++ ex) X := by
  intro post xp hP hX
  refine g_enter2 (k := 298) (N := 900) (by omega) rfl (Nat.le_of_ble_eq_true rfl) ?_
  refine g_aload_n 1 (gd rfl) rfl rfl ?_
  refine g_getI 4 (gd rfl) rfl rfl rfl (fun z1 e1 => ?_)
  have i1 := inv_F hI 0 9 rfl e1
  refine g_if_ne 7 17 (gd rfl) rfl rfl (fun c4 => ?_) (fun c4 => ?_)
  · skip
    have i4 := z_ne 1 9 c4 i1 rfl
    have n17 : 1 ≤ (z1).toInt := by have a0 := h1; unfold In at a0; have a1 := i4; unfold In at a1; omega
    have n17a : 1 ≤ (s.2.2.1 109 23).toInt := by have b0 : z1 = s.2.2.1 109 23 := e1; rw [← b0]; exact n17
    exact g_return (gd rfl) rfl (hP _ _ ⟨s, hI, fr_rf, n17a, rfl, rfl⟩)
  · skip
    have i4 := z_eq 0 0 c4 i1 rfl
    refine g_aload_n 8 (gd rfl) rfl rfl ?_
    refine g_iload_n 9 (gd rfl) rfl rfl ?_
    refine g_putI 12 (gd rfl) rfl rfl rfl rfl ?_
    have hI9 := inv_sF (q := 109) (j := 23) hI rfl (in_w 0 9 h1 rfl)
    refine g_aload_n 13 (gd rfl) rfl rfl ?_
    refine g_iload_n 14 (gd rfl) rfl rfl ?_
    refine g_putI 17 (gd rfl) rfl rfl rfl rfl ?_
    have hI14 := inv_sF (q := 109) (j := 24) hI9 rfl (in_w (-2147483648) 2147483647 (i_rng x2) rfl)
    have n17 : 1 ≤ (x1).toInt := by have a0 := h1; unfold In at a0; omega
    have n17a : 1 ≤ ((sF (sF s 109 23 x1) 109 24 x2).2.2.1 109 23).toInt := by have b0 : x1 = (sF (sF s 109 23 x1) 109 24 x2).2.2.1 109 23 := sF_ne rfl (sF_get); rw [← b0]; exact n17
    exact g_return (gd rfl) rfl (hP _ _ ⟨(sF (sF s 109 23 x1) 109 24 x2), hI14, (fr_sF rfl (fr_sF rfl fr_rf)), n17a, rfl, rfl⟩)

def fm_305 : FM := ([110, 112], [], [], [])
/-- GraphHouseModel.isDone -/
theorem k_305 {Z : AmZ} {A : Nat → Nat} {s : GS} {ex : va_W} {d : Nat} {X : AmX} {x1 : Int32} {x2 : Int32} (hd : 4 ≤ d) (hI : Inv s) (h1 : In x1 97 119) (h2 : In x2 0 2495) (q_0 : 0 ≤ (s.1 110 2).toInt ∧ (s.1 110 2).toInt ≤ 32) : GC Z d 305 [.ref (A 109), .int x1, .int x2] (WW Z A s ++ ex) 0 0 (fun v u => ∃ t : GS, Inv t ∧ Fr fm_305 s t ∧ ∃ z : Int32, v = some (.int z) ∧ u = WW Z A t ++ ex ∧ In z 0 1 ∧ (DNE s t (x1).toInt (x2).toNatClampNeg (z).toInt)) X := by
  intro post xp hP hX
  have ct311 : ∀ (sc311 : GS) (y311_3 : Int32) (y311_4 : Int32), Inv sc311 → Fr fm_305 s sc311 → (sc311 = s) → GG Z (d - 1) 305 post (gx xp) (901) 311 (fun j => xlook j [(0, .ref (A 109)), (1, .int x1), (2, .int x2), (3, .int y311_3), (4, .int y311_4)]) [] (WW Z A sc311 ++ ex) 0 0 := by
    intro sc311 y311_3 y311_4 hIc311 hFc311 g311_0
    refine g_iconst 0 312 (gd rfl) rfl rfl ?_
    have n312 : DNE s sc311 (x1).toInt (x2).toNatClampNeg ((Int32.ofInt 0)).toInt := by exact dne_no g311_0 (by decide)
    exact g_ireturn (gd rfl) rfl (nb01 (in_w 0 1 (in_c 0 rfl) rfl)) (hP _ _ ⟨sc311, hIc311, hFc311, (Int32.ofInt 0), rfl, rfl, in_w 0 1 (in_c 0 rfl) rfl, n312⟩)
  have ct255 : ∀ (sc255 : GS) (y255_3 : Int32) (y255_4 : Int32) (y255_7 : Int32), Inv sc255 → Fr fm_305 s sc255 → (In x1 116 116) → (In y255_7 0 1) → (DNE s sc255 (x1).toInt (x2).toNatClampNeg (y255_7).toInt) → GG Z (d - 1) 305 post (gx xp) (1802) 255 (fun j => xlook j [(0, .ref (A 109)), (1, .int x1), (2, .int x2), (3, .int y255_3), (4, .int y255_4), (7, .int y255_7)]) [] (WW Z A sc255 ++ ex) 0 0 := by
    intro sc255 y255_3 y255_4 y255_7 hIc255 hFc255 j255_1 j255_7 g255_0
    refine g_iload 257 (gd rfl) rfl rfl ?_
    have n257 : DNE s sc255 (x1).toInt (x2).toNatClampNeg (y255_7).toInt := by exact g255_0
    exact g_ireturn (gd rfl) rfl (nb01 (in_w 0 1 j255_7 rfl)) (hP _ _ ⟨sc255, hIc255, hFc255, y255_7, rfl, rfl, in_w 0 1 j255_7 rfl, n257⟩)
  have ct236 : ∀ (sc236 : GS) (y236_3 : Int32) (y236_4 : Int32), Inv sc236 → Fr fm_305 s sc236 → (In x1 116 116) → (sc236 = s) → GG Z (d - 1) 305 post (gx xp) (2703) 236 (fun j => xlook j [(0, .ref (A 109)), (1, .int x1), (2, .int x2), (3, .int y236_3), (4, .int y236_4)]) [] (WW Z A sc236 ++ ex) 0 0 := by
    intro sc236 y236_3 y236_4 hIc236 hFc236 j236_1 g236_0
    refine g_iconst 0 237 (gd rfl) rfl rfl ?_
    refine g_istore 239 (gd rfl) rfl (Nat.le_of_ble_eq_true rfl) ?_
    refine g_iload 241 (gd rfl) rfl rfl ?_
    refine g_if_eq 244 255 (gd rfl) rfl rfl (fun c241 => ?_) (fun c241 => ?_)
    · skip
      have n255 : DNE s sc236 (x1).toInt (x2).toNatClampNeg ((Int32.ofInt 0)).toInt := by exact dne_no g236_0 (by decide)
      exact gg_w (by omega) (gg_f (gf_cons rfl (gf_cons rfl (gf_cons rfl (gf_cons rfl (gf_cons rfl (gf_cons rfl gf_nil)))))) (ct255 sc236 y236_3 y236_4 (Int32.ofInt 0) hIc236 hFc236 (in_w 116 116 j236_1 rfl) (in_w 0 1 (in_c 0 rfl) rfl) n255))
    · skip
      exact zn_ne c241 (in_c 0 rfl) rfl
  have ct188 : ∀ (sc188 : GS) (y188_3 : Int32) (y188_4 : Int32) (y188_5 : Int32) (y188_6 : Int32), Inv sc188 → Fr fm_305 s sc188 → (In x1 97 97) → (In y188_5 0 160) → (In y188_6 0 1) → (DNE s sc188 (x1).toInt (x2).toNatClampNeg (y188_6).toInt) → GG Z (d - 1) 305 post (gx xp) (3604) 188 (fun j => xlook j [(0, .ref (A 109)), (1, .int x1), (2, .int x2), (3, .int y188_3), (4, .int y188_4), (5, .int y188_5), (6, .int y188_6)]) [] (WW Z A sc188 ++ ex) 0 0 := by
    intro sc188 y188_3 y188_4 y188_5 y188_6 hIc188 hFc188 j188_1 j188_5 j188_6 g188_0
    refine g_iload 190 (gd rfl) rfl rfl ?_
    have n190 : DNE s sc188 (x1).toInt (x2).toNatClampNeg (y188_6).toInt := by exact g188_0
    exact g_ireturn (gd rfl) rfl (nb01 (in_w 0 1 j188_6 rfl)) (hP _ _ ⟨sc188, hIc188, hFc188, y188_6, rfl, rfl, in_w 0 1 j188_6 rfl, n190⟩)
  have ct168 : ∀ (sc168 : GS) (y168_3 : Int32) (y168_4 : Int32) (y168_5 : Int32), Inv sc168 → Fr fm_305 s sc168 → (In x1 97 97) → (In y168_5 0 160) → (sc168 = s) → GG Z (d - 1) 305 post (gx xp) (4505) 168 (fun j => xlook j [(0, .ref (A 109)), (1, .int x1), (2, .int x2), (3, .int y168_3), (4, .int y168_4), (5, .int y168_5)]) [] (WW Z A sc168 ++ ex) 0 0 := by
    intro sc168 y168_3 y168_4 y168_5 hIc168 hFc168 j168_1 j168_5 g168_0
    refine g_iconst 0 169 (gd rfl) rfl rfl ?_
    refine g_istore 171 (gd rfl) rfl (Nat.le_of_ble_eq_true rfl) ?_
    refine g_iload 173 (gd rfl) rfl rfl ?_
    refine g_if_eq 176 188 (gd rfl) rfl rfl (fun c173 => ?_) (fun c173 => ?_)
    · skip
      have n188 : DNE s sc168 (x1).toInt (x2).toNatClampNeg ((Int32.ofInt 0)).toInt := by exact dne_no g168_0 (by decide)
      exact gg_w (by omega) (gg_f (gf_cons rfl (gf_cons rfl (gf_cons rfl (gf_cons rfl (gf_cons rfl (gf_cons rfl (gf_cons rfl gf_nil))))))) (ct188 sc168 y168_3 y168_4 y168_5 (Int32.ofInt 0) hIc168 hFc168 (in_w 97 97 j168_1 rfl) (in_w 0 160 j168_5 rfl) (in_w 0 1 (in_c 0 rfl) rfl) n188))
    · skip
      exact zn_ne c173 (in_c 0 rfl) rfl
  refine g_enter2 (k := 305) (N := 5405) (by omega) rfl (Nat.le_of_ble_eq_true rfl) ?_
  refine g_aload_n 1 (gd rfl) rfl rfl ?_
  refine g_getA (q2 := 128) 4 (gd rfl) rfl rfl rfl rfl ?_
  refine g_iload_n 5 (gd rfl) rfl rfl ?_
  refine g_iaload 6 (gd rfl) rfl (n := 2500) rfl (in_ix h2 rfl) (fun z5 e5 => ?_)
  refine g_istore_n 7 (gd rfl) rfl (Nat.le_of_ble_eq_true rfl) ?_
  refine g_aload_n 8 (gd rfl) rfl rfl ?_
  refine g_getA (q2 := 128) 11 (gd rfl) rfl rfl rfl rfl ?_
  refine g_iload_n 12 (gd rfl) rfl rfl ?_
  refine g_iconst 1 13 (gd rfl) rfl rfl ?_
  refine g_iadd 14 (gd rfl) rfl (fun z13 e13 => ?_)
  have i13 := in_add 1 2496 e13 h2 (in_c 1 rfl) rfl rfl
  refine g_iaload 15 (gd rfl) rfl (n := 2500) rfl (in_ix i13 rfl) (fun z14 e14 => ?_)
  refine g_istore 17 (gd rfl) rfl (Nat.le_of_ble_eq_true rfl) ?_
  refine g_iload_n 18 (gd rfl) rfl rfl ?_
  refine g_lsw [(97, 79), (110, 52), (116, 191)] 258 (gd rfl) rfl rfl rfl ⟨fun c18 => ?_, fun c18_0 => ⟨fun c18 => ?_, fun c18_1 => ⟨fun c18 => ?_, fun c18_2 => ?_⟩⟩⟩
  · skip
    have i18 := sw_eq c18
    refine g_aload_n 80 (gd rfl) rfl rfl ?_
    refine g_iconst 2 81 (gd rfl) rfl rfl ?_
    refine g_callv (X := _) (As := [.int (Int32.ofInt 2)]) (r := []) (b := A 109) (q := 109) 84 (gd rfl) rfl rfl rfl rfl rfl (ww_o rfl) (Nat.le_of_ble_eq_true rfl) (Nat.zero_le _) (Nat.zero_le _) (k_280 (by omega) hI (in_w 0 2 (in_c 2 rfl) rfl)) (fun e u h => h) (fun v u h => ?_)
    obtain ⟨z81, rfl, rfl, i81, p81⟩ := h
    show GG _ _ _ _ _ _ _ _ [.int z81] _ _ _
    refine g_istore 86 (gd rfl) rfl (Nat.le_of_ble_eq_true rfl) ?_
    refine g_iload 88 (gd rfl) rfl rfl ?_
    refine g_sipush 160 91 (gd rfl) rfl rfl ?_
    refine g_cmp_ge 94 168 (gd rfl) rfl rfl (fun c91 => ?_) (fun c91 => ?_)
    · skip
      have i91 := r_le2 160 160 c91 (in_c 160 rfl) i81 rfl
      have n168 : s = s := by rfl
      exact gg_w (by omega) (gg_f (gf_cons rfl (gf_cons rfl (gf_cons rfl (gf_cons rfl (gf_cons rfl (gf_cons rfl gf_nil)))))) (ct168 s z5 z14 z81 hI fr_rf (in_w 97 97 i18 rfl) (in_w 0 160 i91 rfl) n168))
    · skip
      have i91 := r_lt1 0 159 c91 i81 (in_c 160 rfl) rfl
      refine g_iload_n 95 (gd rfl) rfl rfl ?_
      refine g_i2l 96 (gd rfl) rfl (fun z95 e95 => ?_)
      have i95 := l_i e95 (i_rng z5)
      refine g_lconst 0 97 (gd rfl) rfl rfl ?_
      refine g_aload_n 98 (gd rfl) rfl rfl ?_
      refine g_getA (q2 := 110) 101 (gd rfl) rfl rfl rfl rfl ?_
      refine g_iconst 2 102 (gd rfl) rfl rfl ?_
      refine g_iaload 103 (gd rfl) rfl (n := 3) rfl (in_ix (in_c 2 rfl) rfl) (fun z102 e102 => ?_)
      have i103 : In z102 0 32 := by rw [e102]; exact q_0
      refine g_iconst 1 104 (gd rfl) rfl rfl ?_
      refine g_isub 105 (gd rfl) rfl (fun z104 e104 => ?_)
      have i104 := in_sub (-1) 31 e104 i103 (in_c 1 rfl) rfl rfl
      refine g_i2l 106 (gd rfl) rfl (fun z105 e105 => ?_)
      have i105 := l_i e105 i104
      refine g_calls (As := [.long z95, .long (Int64.ofInt 0), .long z105]) (r := []) 109 (gd rfl) rfl rfl rfl rfl rfl (Nat.le_of_ble_eq_true rfl) (mc := 0) (ms := 0) (Nat.zero_le _) (Nat.zero_le _) (P := fun v u => _) ?_ (fun v u h => h)
      intro po106 xx106 hp106 hx106
      refine g_enter2 (k := 269) (N := 300) (by omega) rfl (Nat.le_of_ble_eq_true rfl) ?_
      refine g_lload_n 1 (gd rfl) rfl rfl ?_
      refine g_lload_n 2 (gd rfl) rfl rfl ?_
      refine g_lcmp 3 (gd rfl) rfl (fun z106x2 e106x2 => ?_)
      have i106x2 := lc_in e106x2
      refine g_if_lt 6 17 (gd rfl) rfl rfl (fun c106x3 => ?_) (fun c106x3 => ?_)
      · skip
        have i106x3 := z_lt (-1) (-1) c106x3 i106x2 rfl
        have c106x3a := lc_lt e106x2 c106x3
        have i106x3a := lr_lt1 (-2147483648) (-1) c106x3a i95 (l_c 0 rfl) rfl
        have i106x3b := l_b e95 i106x3a
        refine g_iconst 0 18 (gd rfl) rfl rfl ?_
        refine g_ireturn (gd rfl) rfl (nb01 (in_w 0 1 (in_c 0 rfl) rfl)) (hp106 _ _ ?_)
        show GG _ _ _ _ _ _ _ _ [.int (Int32.ofInt 0)] _ _ _
        refine g_if_eq 112 168 (gd rfl) rfl rfl (fun c109 => ?_) (fun c109 => ?_)
        · skip
          have n168 : s = s := by rfl
          exact gg_w (by omega) (gg_f (gf_cons rfl (gf_cons rfl (gf_cons rfl (gf_cons rfl (gf_cons rfl (gf_cons rfl gf_nil)))))) (ct168 s z5 z14 z81 hI fr_rf (in_w 97 97 i18 rfl) (in_w 0 160 i91 rfl) n168))
        · skip
          exact zn_ne c109 (in_c 0 rfl) rfl
      · skip
        have i106x3 := z_ge 0 1 c106x3 i106x2 rfl
        have c106x3a := lc_ge e106x2 c106x3
        have i106x3a := lr_le2 0 2147483647 c106x3a (l_c 0 rfl) i95 rfl
        have i106x3b := l_b e95 i106x3a
        refine g_lload_n 7 (gd rfl) rfl rfl ?_
        refine g_lload 9 (gd rfl) rfl rfl ?_
        refine g_lcmp 10 (gd rfl) rfl (fun z106x9 e106x9 => ?_)
        have i106x9 := lc_in e106x9
        refine g_if_gt 13 17 (gd rfl) rfl rfl (fun c106x10 => ?_) (fun c106x10 => ?_)
        · skip
          have i106x10 := z_gt 1 1 c106x10 i106x9 rfl
          have c106x10a := lc_gt e106x9 c106x10
          refine g_iconst 0 18 (gd rfl) rfl rfl ?_
          refine g_ireturn (gd rfl) rfl (nb01 (in_w 0 1 (in_c 0 rfl) rfl)) (hp106 _ _ ?_)
          show GG _ _ _ _ _ _ _ _ [.int (Int32.ofInt 0)] _ _ _
          refine g_if_eq 112 168 (gd rfl) rfl rfl (fun c109 => ?_) (fun c109 => ?_)
          · skip
            have n168 : s = s := by rfl
            exact gg_w (by omega) (gg_f (gf_cons rfl (gf_cons rfl (gf_cons rfl (gf_cons rfl (gf_cons rfl (gf_cons rfl gf_nil)))))) (ct168 s z5 z14 z81 hI fr_rf (in_w 97 97 i18 rfl) (in_w 0 160 i91 rfl) n168))
          · skip
            exact zn_ne c109 (in_c 0 rfl) rfl
        · skip
          have i106x10 := z_le (-1) 0 c106x10 i106x9 rfl
          have c106x10a := lc_le e106x9 c106x10
          have i106x10a := lr_le1 0 31 c106x10a i106x3a i105 rfl
          have i106x10b := l_b e95 i106x10a
          have i106x10c := lr_le2 0 31 c106x10a i106x3a i105 rfl
          have i106x10d := l_b e105 i106x10c
          refine g_iconst 1 14 (gd rfl) rfl rfl ?_
          refine g_goto 18 (gd rfl) rfl ?_
          refine g_ireturn (gd rfl) rfl (nb01 (in_w 0 1 (in_c 1 rfl) rfl)) (hp106 _ _ ?_)
          show GG _ _ _ _ _ _ _ _ [.int (Int32.ofInt 1)] _ _ _
          refine g_if_eq 112 168 (gd rfl) rfl rfl (fun c109 => ?_) (fun c109 => ?_)
          · skip
            exact zn_eq c109 (in_c 1 rfl) rfl
          · skip
            refine g_iload 114 (gd rfl) rfl rfl ?_
            refine g_i2l 115 (gd rfl) rfl (fun z114 e114 => ?_)
            have i114 := l_i e114 (i_rng z14)
            refine g_lconst 0 116 (gd rfl) rfl rfl ?_
            refine g_aload_n 117 (gd rfl) rfl rfl ?_
            refine g_getA (q2 := 110) 120 (gd rfl) rfl rfl rfl rfl ?_
            refine g_iconst 2 121 (gd rfl) rfl rfl ?_
            refine g_iaload 122 (gd rfl) rfl (n := 3) rfl (in_ix (in_c 2 rfl) rfl) (fun z121 e121 => ?_)
            have q121 : z102 = z121 := (e102).trans e121.symm
            subst q121
            refine g_iconst 1 123 (gd rfl) rfl rfl ?_
            refine g_isub 124 (gd rfl) rfl (fun z123 e123 => ?_)
            have i123 := in_sub (-1) 31 e123 i103 (in_c 1 rfl) rfl rfl
            refine g_i2l 125 (gd rfl) rfl (fun z124 e124 => ?_)
            have i124 := l_i e124 i123
            refine g_calls (As := [.long z114, .long (Int64.ofInt 0), .long z124]) (r := []) 128 (gd rfl) rfl rfl rfl rfl rfl (Nat.le_of_ble_eq_true rfl) (mc := 0) (ms := 0) (Nat.zero_le _) (Nat.zero_le _) (P := fun v u => _) ?_ (fun v u h => h)
            intro po125 xx125 hp125 hx125
            refine g_enter2 (k := 269) (N := 300) (by omega) rfl (Nat.le_of_ble_eq_true rfl) ?_
            refine g_lload_n 1 (gd rfl) rfl rfl ?_
            refine g_lload_n 2 (gd rfl) rfl rfl ?_
            refine g_lcmp 3 (gd rfl) rfl (fun z125x2 e125x2 => ?_)
            have i125x2 := lc_in e125x2
            refine g_if_lt 6 17 (gd rfl) rfl rfl (fun c125x3 => ?_) (fun c125x3 => ?_)
            · skip
              have i125x3 := z_lt (-1) (-1) c125x3 i125x2 rfl
              have c125x3a := lc_lt e125x2 c125x3
              have i125x3a := lr_lt1 (-2147483648) (-1) c125x3a i114 (l_c 0 rfl) rfl
              have i125x3b := l_b e114 i125x3a
              refine g_iconst 0 18 (gd rfl) rfl rfl ?_
              refine g_ireturn (gd rfl) rfl (nb01 (in_w 0 1 (in_c 0 rfl) rfl)) (hp125 _ _ ?_)
              show GG _ _ _ _ _ _ _ _ [.int (Int32.ofInt 0)] _ _ _
              refine g_if_eq 131 168 (gd rfl) rfl rfl (fun c128 => ?_) (fun c128 => ?_)
              · skip
                have n168 : s = s := by rfl
                exact gg_w (by omega) (gg_f (gf_cons rfl (gf_cons rfl (gf_cons rfl (gf_cons rfl (gf_cons rfl (gf_cons rfl gf_nil)))))) (ct168 s z5 z14 z81 hI fr_rf (in_w 97 97 i18 rfl) (in_w 0 160 i91 rfl) n168))
              · skip
                exact zn_ne c128 (in_c 0 rfl) rfl
            · skip
              have i125x3 := z_ge 0 1 c125x3 i125x2 rfl
              have c125x3a := lc_ge e125x2 c125x3
              have i125x3a := lr_le2 0 2147483647 c125x3a (l_c 0 rfl) i114 rfl
              have i125x3b := l_b e114 i125x3a
              refine g_lload_n 7 (gd rfl) rfl rfl ?_
              refine g_lload 9 (gd rfl) rfl rfl ?_
              refine g_lcmp 10 (gd rfl) rfl (fun z125x9 e125x9 => ?_)
              have i125x9 := lc_in e125x9
              refine g_if_gt 13 17 (gd rfl) rfl rfl (fun c125x10 => ?_) (fun c125x10 => ?_)
              · skip
                have i125x10 := z_gt 1 1 c125x10 i125x9 rfl
                have c125x10a := lc_gt e125x9 c125x10
                refine g_iconst 0 18 (gd rfl) rfl rfl ?_
                refine g_ireturn (gd rfl) rfl (nb01 (in_w 0 1 (in_c 0 rfl) rfl)) (hp125 _ _ ?_)
                show GG _ _ _ _ _ _ _ _ [.int (Int32.ofInt 0)] _ _ _
                refine g_if_eq 131 168 (gd rfl) rfl rfl (fun c128 => ?_) (fun c128 => ?_)
                · skip
                  have n168 : s = s := by rfl
                  exact gg_w (by omega) (gg_f (gf_cons rfl (gf_cons rfl (gf_cons rfl (gf_cons rfl (gf_cons rfl (gf_cons rfl gf_nil)))))) (ct168 s z5 z14 z81 hI fr_rf (in_w 97 97 i18 rfl) (in_w 0 160 i91 rfl) n168))
                · skip
                  exact zn_ne c128 (in_c 0 rfl) rfl
              · skip
                have i125x10 := z_le (-1) 0 c125x10 i125x9 rfl
                have c125x10a := lc_le e125x9 c125x10
                have i125x10a := lr_le1 0 31 c125x10a i125x3a i124 rfl
                have i125x10b := l_b e114 i125x10a
                have i125x10c := lr_le2 0 31 c125x10a i125x3a i124 rfl
                have i125x10d := l_b e124 i125x10c
                refine g_iconst 1 14 (gd rfl) rfl rfl ?_
                refine g_goto 18 (gd rfl) rfl ?_
                refine g_ireturn (gd rfl) rfl (nb01 (in_w 0 1 (in_c 1 rfl) rfl)) (hp125 _ _ ?_)
                show GG _ _ _ _ _ _ _ _ [.int (Int32.ofInt 1)] _ _ _
                refine g_if_eq 131 168 (gd rfl) rfl rfl (fun c128 => ?_) (fun c128 => ?_)
                · skip
                  exact zn_eq c128 (in_c 1 rfl) rfl
                · skip
                  refine g_aload_n 132 (gd rfl) rfl rfl ?_
                  refine g_getA (q2 := 128) 135 (gd rfl) rfl rfl rfl rfl ?_
                  refine g_iload_n 136 (gd rfl) rfl rfl ?_
                  refine g_iconst 2 137 (gd rfl) rfl rfl ?_
                  refine g_iadd 138 (gd rfl) rfl (fun z137 e137 => ?_)
                  have i137 := in_add 2 2497 e137 h2 (in_c 2 rfl) rfl rfl
                  refine g_iaload 139 (gd rfl) rfl (n := 2500) rfl (in_ix i137 rfl) (fun z138 e138 => ?_)
                  refine g_calls (As := [.int z138]) (r := []) 142 (gd rfl) rfl rfl rfl rfl rfl (Nat.le_of_ble_eq_true rfl) (mc := 0) (ms := 0) (Nat.zero_le _) (Nat.zero_le _) (P := fun v u => _) ?_ (fun v u h => h)
                  intro po139 xx139 hp139 hx139
                  refine g_enter2 (k := 279) (N := 300) (by omega) rfl (Nat.le_of_ble_eq_true rfl) ?_
                  refine g_iload_n 1 (gd rfl) rfl rfl ?_
                  refine g_i2l 2 (gd rfl) rfl (fun z139x1 e139x1 => ?_)
                  have i139x1 := l_i e139x1 (i_rng z138)
                  refine g_ldc2_w (-1000000) 5 (gd rfl) rfl rfl ?_
                  refine g_ldc2_w 1000000 8 (gd rfl) rfl rfl ?_
                  refine g_calls (As := [.long z139x1, .long (Int64.ofInt (-1000000)), .long (Int64.ofInt 1000000)]) (r := []) 11 (gd rfl) rfl rfl rfl rfl rfl (Nat.le_of_ble_eq_true rfl) (mc := 0) (ms := 0) (Nat.zero_le _) (Nat.zero_le _) (P := fun v u => _) ?_ (fun v u h => h)
                  intro po139x8 xx139x8 hp139x8 hx139x8
                  refine g_enter2 (k := 269) (N := 300) (by omega) rfl (Nat.le_of_ble_eq_true rfl) ?_
                  refine g_lload_n 1 (gd rfl) rfl rfl ?_
                  refine g_lload_n 2 (gd rfl) rfl rfl ?_
                  refine g_lcmp 3 (gd rfl) rfl (fun z139x8x2 e139x8x2 => ?_)
                  have i139x8x2 := lc_in e139x8x2
                  refine g_if_lt 6 17 (gd rfl) rfl rfl (fun c139x8x3 => ?_) (fun c139x8x3 => ?_)
                  · skip
                    have i139x8x3 := z_lt (-1) (-1) c139x8x3 i139x8x2 rfl
                    have c139x8x3a := lc_lt e139x8x2 c139x8x3
                    have i139x8x3a := lr_lt1 (-2147483648) (-1000001) c139x8x3a i139x1 (l_c (-1000000) rfl) rfl
                    have i139x8x3b := l_b e139x1 i139x8x3a
                    refine g_iconst 0 18 (gd rfl) rfl rfl ?_
                    refine g_ireturn (gd rfl) rfl (nb01 (in_w 0 1 (in_c 0 rfl) rfl)) (hp139x8 _ _ ?_)
                    show GG _ _ _ _ _ _ _ _ [.int (Int32.ofInt 0)] _ _ _
                    refine g_ireturn (gd rfl) rfl (nb01 (in_w 0 1 (in_c 0 rfl) rfl)) (hp139 _ _ ?_)
                    show GG _ _ _ _ _ _ _ _ [.int (Int32.ofInt 0)] _ _ _
                    refine g_if_eq 145 168 (gd rfl) rfl rfl (fun c142 => ?_) (fun c142 => ?_)
                    · skip
                      have n168 : s = s := by rfl
                      exact gg_w (by omega) (gg_f (gf_cons rfl (gf_cons rfl (gf_cons rfl (gf_cons rfl (gf_cons rfl (gf_cons rfl gf_nil)))))) (ct168 s z5 z14 z81 hI fr_rf (in_w 97 97 i18 rfl) (in_w 0 160 i91 rfl) n168))
                    · skip
                      exact zn_ne c142 (in_c 0 rfl) rfl
                  · skip
                    have i139x8x3 := z_ge 0 1 c139x8x3 i139x8x2 rfl
                    have c139x8x3a := lc_ge e139x8x2 c139x8x3
                    have i139x8x3a := lr_le2 (-1000000) 2147483647 c139x8x3a (l_c (-1000000) rfl) i139x1 rfl
                    have i139x8x3b := l_b e139x1 i139x8x3a
                    refine g_lload_n 7 (gd rfl) rfl rfl ?_
                    refine g_lload 9 (gd rfl) rfl rfl ?_
                    refine g_lcmp 10 (gd rfl) rfl (fun z139x8x9 e139x8x9 => ?_)
                    have i139x8x9 := lc_in e139x8x9
                    refine g_if_gt 13 17 (gd rfl) rfl rfl (fun c139x8x10 => ?_) (fun c139x8x10 => ?_)
                    · skip
                      have i139x8x10 := z_gt 1 1 c139x8x10 i139x8x9 rfl
                      have c139x8x10a := lc_gt e139x8x9 c139x8x10
                      have i139x8x10a := lr_lt2 1000001 2147483647 c139x8x10a (l_c 1000000 rfl) i139x8x3a rfl
                      have i139x8x10b := l_b e139x1 i139x8x10a
                      refine g_iconst 0 18 (gd rfl) rfl rfl ?_
                      refine g_ireturn (gd rfl) rfl (nb01 (in_w 0 1 (in_c 0 rfl) rfl)) (hp139x8 _ _ ?_)
                      show GG _ _ _ _ _ _ _ _ [.int (Int32.ofInt 0)] _ _ _
                      refine g_ireturn (gd rfl) rfl (nb01 (in_w 0 1 (in_c 0 rfl) rfl)) (hp139 _ _ ?_)
                      show GG _ _ _ _ _ _ _ _ [.int (Int32.ofInt 0)] _ _ _
                      refine g_if_eq 145 168 (gd rfl) rfl rfl (fun c142 => ?_) (fun c142 => ?_)
                      · skip
                        have n168 : s = s := by rfl
                        exact gg_w (by omega) (gg_f (gf_cons rfl (gf_cons rfl (gf_cons rfl (gf_cons rfl (gf_cons rfl (gf_cons rfl gf_nil)))))) (ct168 s z5 z14 z81 hI fr_rf (in_w 97 97 i18 rfl) (in_w 0 160 i91 rfl) n168))
                      · skip
                        exact zn_ne c142 (in_c 0 rfl) rfl
                    · skip
                      have i139x8x10 := z_le (-1) 0 c139x8x10 i139x8x9 rfl
                      have c139x8x10a := lc_le e139x8x9 c139x8x10
                      have i139x8x10a := lr_le1 (-1000000) 1000000 c139x8x10a i139x8x3a (l_c 1000000 rfl) rfl
                      have i139x8x10b := l_b e139x1 i139x8x10a
                      refine g_iconst 1 14 (gd rfl) rfl rfl ?_
                      refine g_goto 18 (gd rfl) rfl ?_
                      refine g_ireturn (gd rfl) rfl (nb01 (in_w 0 1 (in_c 1 rfl) rfl)) (hp139x8 _ _ ?_)
                      show GG _ _ _ _ _ _ _ _ [.int (Int32.ofInt 1)] _ _ _
                      refine g_ireturn (gd rfl) rfl (nb01 (in_w 0 1 (in_c 1 rfl) rfl)) (hp139 _ _ ?_)
                      show GG _ _ _ _ _ _ _ _ [.int (Int32.ofInt 1)] _ _ _
                      refine g_if_eq 145 168 (gd rfl) rfl rfl (fun c142 => ?_) (fun c142 => ?_)
                      · skip
                        exact zn_eq c142 (in_c 1 rfl) rfl
                      · skip
                        refine g_aload_n 146 (gd rfl) rfl rfl ?_
                        refine g_getA (q2 := 128) 149 (gd rfl) rfl rfl rfl rfl ?_
                        refine g_iload_n 150 (gd rfl) rfl rfl ?_
                        refine g_iconst 3 151 (gd rfl) rfl rfl ?_
                        refine g_iadd 152 (gd rfl) rfl (fun z151 e151 => ?_)
                        have i151 := in_add 3 2498 e151 h2 (in_c 3 rfl) rfl rfl
                        refine g_iaload 153 (gd rfl) rfl (n := 2500) rfl (in_ix i151 rfl) (fun z152 e152 => ?_)
                        refine g_i2l 154 (gd rfl) rfl (fun z153 e153 => ?_)
                        have i153 := l_i e153 (i_rng z152)
                        refine g_lconst 0 155 (gd rfl) rfl rfl ?_
                        refine g_ldc2_w 1000000 158 (gd rfl) rfl rfl ?_
                        refine g_calls (As := [.long z153, .long (Int64.ofInt 0), .long (Int64.ofInt 1000000)]) (r := []) 161 (gd rfl) rfl rfl rfl rfl rfl (Nat.le_of_ble_eq_true rfl) (mc := 0) (ms := 0) (Nat.zero_le _) (Nat.zero_le _) (P := fun v u => _) ?_ (fun v u h => h)
                        intro po158 xx158 hp158 hx158
                        refine g_enter2 (k := 269) (N := 300) (by omega) rfl (Nat.le_of_ble_eq_true rfl) ?_
                        refine g_lload_n 1 (gd rfl) rfl rfl ?_
                        refine g_lload_n 2 (gd rfl) rfl rfl ?_
                        refine g_lcmp 3 (gd rfl) rfl (fun z158x2 e158x2 => ?_)
                        have i158x2 := lc_in e158x2
                        refine g_if_lt 6 17 (gd rfl) rfl rfl (fun c158x3 => ?_) (fun c158x3 => ?_)
                        · skip
                          have i158x3 := z_lt (-1) (-1) c158x3 i158x2 rfl
                          have c158x3a := lc_lt e158x2 c158x3
                          have i158x3a := lr_lt1 (-2147483648) (-1) c158x3a i153 (l_c 0 rfl) rfl
                          have i158x3b := l_b e153 i158x3a
                          refine g_iconst 0 18 (gd rfl) rfl rfl ?_
                          refine g_ireturn (gd rfl) rfl (nb01 (in_w 0 1 (in_c 0 rfl) rfl)) (hp158 _ _ ?_)
                          show GG _ _ _ _ _ _ _ _ [.int (Int32.ofInt 0)] _ _ _
                          refine g_if_eq 164 168 (gd rfl) rfl rfl (fun c161 => ?_) (fun c161 => ?_)
                          · skip
                            have n168 : s = s := by rfl
                            exact gg_w (by omega) (gg_f (gf_cons rfl (gf_cons rfl (gf_cons rfl (gf_cons rfl (gf_cons rfl (gf_cons rfl gf_nil)))))) (ct168 s z5 z14 z81 hI fr_rf (in_w 97 97 i18 rfl) (in_w 0 160 i91 rfl) n168))
                          · skip
                            exact zn_ne c161 (in_c 0 rfl) rfl
                        · skip
                          have i158x3 := z_ge 0 1 c158x3 i158x2 rfl
                          have c158x3a := lc_ge e158x2 c158x3
                          have i158x3a := lr_le2 0 2147483647 c158x3a (l_c 0 rfl) i153 rfl
                          have i158x3b := l_b e153 i158x3a
                          refine g_lload_n 7 (gd rfl) rfl rfl ?_
                          refine g_lload 9 (gd rfl) rfl rfl ?_
                          refine g_lcmp 10 (gd rfl) rfl (fun z158x9 e158x9 => ?_)
                          have i158x9 := lc_in e158x9
                          refine g_if_gt 13 17 (gd rfl) rfl rfl (fun c158x10 => ?_) (fun c158x10 => ?_)
                          · skip
                            have i158x10 := z_gt 1 1 c158x10 i158x9 rfl
                            have c158x10a := lc_gt e158x9 c158x10
                            have i158x10a := lr_lt2 1000001 2147483647 c158x10a (l_c 1000000 rfl) i158x3a rfl
                            have i158x10b := l_b e153 i158x10a
                            refine g_iconst 0 18 (gd rfl) rfl rfl ?_
                            refine g_ireturn (gd rfl) rfl (nb01 (in_w 0 1 (in_c 0 rfl) rfl)) (hp158 _ _ ?_)
                            show GG _ _ _ _ _ _ _ _ [.int (Int32.ofInt 0)] _ _ _
                            refine g_if_eq 164 168 (gd rfl) rfl rfl (fun c161 => ?_) (fun c161 => ?_)
                            · skip
                              have n168 : s = s := by rfl
                              exact gg_w (by omega) (gg_f (gf_cons rfl (gf_cons rfl (gf_cons rfl (gf_cons rfl (gf_cons rfl (gf_cons rfl gf_nil)))))) (ct168 s z5 z14 z81 hI fr_rf (in_w 97 97 i18 rfl) (in_w 0 160 i91 rfl) n168))
                            · skip
                              exact zn_ne c161 (in_c 0 rfl) rfl
                          · skip
                            have i158x10 := z_le (-1) 0 c158x10 i158x9 rfl
                            have c158x10a := lc_le e158x9 c158x10
                            have i158x10a := lr_le1 0 1000000 c158x10a i158x3a (l_c 1000000 rfl) rfl
                            have i158x10b := l_b e153 i158x10a
                            refine g_iconst 1 14 (gd rfl) rfl rfl ?_
                            refine g_goto 18 (gd rfl) rfl ?_
                            refine g_ireturn (gd rfl) rfl (nb01 (in_w 0 1 (in_c 1 rfl) rfl)) (hp158 _ _ ?_)
                            show GG _ _ _ _ _ _ _ _ [.int (Int32.ofInt 1)] _ _ _
                            refine g_if_eq 164 168 (gd rfl) rfl rfl (fun c161 => ?_) (fun c161 => ?_)
                            · skip
                              exact zn_eq c161 (in_c 1 rfl) rfl
                            · skip
                              refine g_iconst 1 165 (gd rfl) rfl rfl ?_
                              refine g_goto 169 (gd rfl) rfl ?_
                              refine g_istore 171 (gd rfl) rfl (Nat.le_of_ble_eq_true rfl) ?_
                              refine g_iload 173 (gd rfl) rfl rfl ?_
                              refine g_if_eq 176 188 (gd rfl) rfl rfl (fun c173 => ?_) (fun c173 => ?_)
                              · skip
                                exact zn_eq c173 (in_c 1 rfl) rfl
                              · skip
                                refine g_aload_n 177 (gd rfl) rfl rfl ?_
                                refine g_getA (q2 := 112) 180 (gd rfl) rfl rfl rfl rfl ?_
                                refine g_sipush 320 183 (gd rfl) rfl rfl ?_
                                refine g_iload 185 (gd rfl) rfl rfl ?_
                                refine g_iadd 186 (gd rfl) rfl (fun z185 e185 => ?_)
                                have i185 := in_add 320 479 e185 (in_c 320 rfl) i91 rfl rfl
                                refine g_iconst 1 187 (gd rfl) rfl rfl ?_
                                refine g_bastore 188 (gd rfl) rfl (n := 480) rfl (in_ix i185 rfl) ?_
                                have hI187 : Inv (sI s 112 z185.toNatClampNeg (vp_nar .boolean (Int32.ofInt 1))) := by exact inv_t3 hI (by show 320 ≤ (z185).toInt.toNat; have a0 := h2; unfold In at a0; have a1 := i18; unfold In at a1; have a2 := (in_c 1 rfl); unfold In at a2; have a3 := i91; unfold In at a3; have a4 := i125x10b; unfold In at a4; have a5 := i106x10b; unfold In at a5; have a6 := i185; unfold In at a6; have a7 := t_add e185 (in_c 320 rfl) i91 rfl; have a8 := (in_c 320 rfl); unfold In at a8; have a9 := tx_i2l e153; have a10 := i158x10b; unfold In at a10; have a11 := i151; unfold In at a11; have a12 := t_add e151 h2 (in_c 3 rfl) rfl; have a13 := (in_c 3 rfl); unfold In at a13; have a14 := tx_i2l e139x1; have a15 := i139x8x10b; unfold In at a15; have a16 := i137; unfold In at a16; have a17 := t_add e137 h2 (in_c 2 rfl) rfl; have a18 := (in_c 2 rfl); unfold In at a18; have a19 := tx_i2l e124; have a20 := i125x10d; unfold In at a20; have a21 := t_sub e123 i103 (in_c 1 rfl) rfl; have a22 := i103; unfold In at a22; have a23 := tx_i2l e114; have a24 := tx_i2l e105; have a25 := i106x10d; unfold In at a25; have a26 := t_sub e104 i103 (in_c 1 rfl) rfl; have a27 := tx_i2l e95; have a28 := i13; unfold In at a28; have a29 := t_add e13 h2 (in_c 1 rfl) rfl; omega) (in_w 0 1 (nar01 (in_w 0 1 (in_c 1 rfl) rfl)) rfl)
                                have n188 : DNE s (sI s 112 z185.toNatClampNeg (vp_nar .boolean (Int32.ofInt 1))) (x1).toInt (x2).toNatClampNeg ((Int32.ofInt 1)).toInt := by exact dne_a (p := z81.toNatClampNeg) (by have a0 := h2; unfold In at a0; have a1 := i18; unfold In at a1; have a2 := (in_c 1 rfl); unfold In at a2; have a3 := i91; unfold In at a3; have a4 := i125x10b; unfold In at a4; have a5 := i106x10b; unfold In at a5; have a6 := i185; unfold In at a6; have a7 := t_add e185 (in_c 320 rfl) i91 rfl; have a8 := (in_c 320 rfl); unfold In at a8; have a9 := tx_i2l e153; have a10 := i158x10b; unfold In at a10; have a11 := i151; unfold In at a11; have a12 := t_add e151 h2 (in_c 3 rfl) rfl; have a13 := (in_c 3 rfl); unfold In at a13; have a14 := tx_i2l e139x1; have a15 := i139x8x10b; unfold In at a15; have a16 := i137; unfold In at a16; have a17 := t_add e137 h2 (in_c 2 rfl) rfl; have a18 := (in_c 2 rfl); unfold In at a18; have a19 := tx_i2l e124; have a20 := i125x10d; unfold In at a20; have a21 := t_sub e123 i103 (in_c 1 rfl) rfl; have a22 := i103; unfold In at a22; have a23 := tx_i2l e114; have a24 := tx_i2l e105; have a25 := i106x10d; unfold In at a25; have a26 := t_sub e104 i103 (in_c 1 rfl) rfl; have a27 := tx_i2l e95; have a28 := i13; unfold In at a28; have a29 := t_add e13 h2 (in_c 1 rfl) rfl; omega) p81 (by show z81.toInt.toNat < 160; have a0 := h2; unfold In at a0; have a1 := i18; unfold In at a1; have a2 := (in_c 1 rfl); unfold In at a2; have a3 := i91; unfold In at a3; have a4 := i125x10b; unfold In at a4; have a5 := i106x10b; unfold In at a5; have a6 := i185; unfold In at a6; have a7 := t_add e185 (in_c 320 rfl) i91 rfl; have a8 := (in_c 320 rfl); unfold In at a8; have a9 := tx_i2l e153; have a10 := i158x10b; unfold In at a10; have a11 := i151; unfold In at a11; have a12 := t_add e151 h2 (in_c 3 rfl) rfl; have a13 := (in_c 3 rfl); unfold In at a13; have a14 := tx_i2l e139x1; have a15 := i139x8x10b; unfold In at a15; have a16 := i137; unfold In at a16; have a17 := t_add e137 h2 (in_c 2 rfl) rfl; have a18 := (in_c 2 rfl); unfold In at a18; have a19 := tx_i2l e124; have a20 := i125x10d; unfold In at a20; have a21 := t_sub e123 i103 (in_c 1 rfl) rfl; have a22 := i103; unfold In at a22; have a23 := tx_i2l e114; have a24 := tx_i2l e105; have a25 := i106x10d; unfold In at a25; have a26 := t_sub e104 i103 (in_c 1 rfl) rfl; have a27 := tx_i2l e95; have a28 := i13; unfold In at a28; have a29 := t_add e13 h2 (in_c 1 rfl) rfl; omega) (by show z185.toInt.toNat = 320 + z81.toInt.toNat; have a0 := h2; unfold In at a0; have a1 := i18; unfold In at a1; have a2 := (in_c 1 rfl); unfold In at a2; have a3 := i91; unfold In at a3; have a4 := i125x10b; unfold In at a4; have a5 := i106x10b; unfold In at a5; have a6 := i185; unfold In at a6; have a7 := t_add e185 (in_c 320 rfl) i91 rfl; have a8 := (in_c 320 rfl); unfold In at a8; have a9 := tx_i2l e153; have a10 := i158x10b; unfold In at a10; have a11 := i151; unfold In at a11; have a12 := t_add e151 h2 (in_c 3 rfl) rfl; have a13 := (in_c 3 rfl); unfold In at a13; have a14 := tx_i2l e139x1; have a15 := i139x8x10b; unfold In at a15; have a16 := i137; unfold In at a16; have a17 := t_add e137 h2 (in_c 2 rfl) rfl; have a18 := (in_c 2 rfl); unfold In at a18; have a19 := tx_i2l e124; have a20 := i125x10d; unfold In at a20; have a21 := t_sub e123 i103 (in_c 1 rfl) rfl; have a22 := i103; unfold In at a22; have a23 := tx_i2l e114; have a24 := tx_i2l e105; have a25 := i106x10d; unfold In at a25; have a26 := t_sub e104 i103 (in_c 1 rfl) rfl; have a27 := tx_i2l e95; have a28 := i13; unfold In at a28; have a29 := t_add e13 h2 (in_c 1 rfl) rfl; omega) ⟨by rw [← e5]; have h := i106x3b.1; omega, by rw [← e5]; have ha := c106x10a; have hb := tx_i2l e95; have hc := tx_i2l e105; have he : z102 = s.1 110 2 := e102; rw [← he]; have a0 := h2; unfold In at a0; have a1 := i18; unfold In at a1; have a2 := (in_c 1 rfl); unfold In at a2; have a3 := i91; unfold In at a3; have a4 := i125x10b; unfold In at a4; have a5 := i106x10b; unfold In at a5; have a6 := i185; unfold In at a6; have a7 := t_add e185 (in_c 320 rfl) i91 rfl; have a8 := (in_c 320 rfl); unfold In at a8; have a9 := tx_i2l e153; have a10 := i158x10b; unfold In at a10; have a11 := i151; unfold In at a11; have a12 := t_add e151 h2 (in_c 3 rfl) rfl; have a13 := (in_c 3 rfl); unfold In at a13; have a14 := tx_i2l e139x1; have a15 := i139x8x10b; unfold In at a15; have a16 := i137; unfold In at a16; have a17 := t_add e137 h2 (in_c 2 rfl) rfl; have a18 := (in_c 2 rfl); unfold In at a18; have a19 := tx_i2l e124; have a20 := i125x10d; unfold In at a20; have a21 := t_sub e123 i103 (in_c 1 rfl) rfl; have a22 := i103; unfold In at a22; have a23 := tx_i2l e114; have a24 := tx_i2l e105; have a25 := i106x10d; unfold In at a25; have a26 := t_sub e104 i103 (in_c 1 rfl) rfl; have a27 := tx_i2l e95; have a28 := i13; unfold In at a28; have a29 := t_add e13 h2 (in_c 1 rfl) rfl; omega⟩ ⟨by rw [show x2.toNatClampNeg + 1 = z13.toNatClampNeg from (by show x2.toInt.toNat + 1 = z13.toInt.toNat; have a0 := h2; unfold In at a0; have a1 := i18; unfold In at a1; have a2 := (in_c 1 rfl); unfold In at a2; have a3 := i91; unfold In at a3; have a4 := i125x10b; unfold In at a4; have a5 := i106x10b; unfold In at a5; have a6 := i185; unfold In at a6; have a7 := t_add e185 (in_c 320 rfl) i91 rfl; have a8 := (in_c 320 rfl); unfold In at a8; have a9 := tx_i2l e153; have a10 := i158x10b; unfold In at a10; have a11 := i151; unfold In at a11; have a12 := t_add e151 h2 (in_c 3 rfl) rfl; have a13 := (in_c 3 rfl); unfold In at a13; have a14 := tx_i2l e139x1; have a15 := i139x8x10b; unfold In at a15; have a16 := i137; unfold In at a16; have a17 := t_add e137 h2 (in_c 2 rfl) rfl; have a18 := (in_c 2 rfl); unfold In at a18; have a19 := tx_i2l e124; have a20 := i125x10d; unfold In at a20; have a21 := t_sub e123 i103 (in_c 1 rfl) rfl; have a22 := i103; unfold In at a22; have a23 := tx_i2l e114; have a24 := tx_i2l e105; have a25 := i106x10d; unfold In at a25; have a26 := t_sub e104 i103 (in_c 1 rfl) rfl; have a27 := tx_i2l e95; have a28 := i13; unfold In at a28; have a29 := t_add e13 h2 (in_c 1 rfl) rfl; omega), ← e14]; have h := i125x3b.1; omega, by rw [show x2.toNatClampNeg + 1 = z13.toNatClampNeg from (by show x2.toInt.toNat + 1 = z13.toInt.toNat; have a0 := h2; unfold In at a0; have a1 := i18; unfold In at a1; have a2 := (in_c 1 rfl); unfold In at a2; have a3 := i91; unfold In at a3; have a4 := i125x10b; unfold In at a4; have a5 := i106x10b; unfold In at a5; have a6 := i185; unfold In at a6; have a7 := t_add e185 (in_c 320 rfl) i91 rfl; have a8 := (in_c 320 rfl); unfold In at a8; have a9 := tx_i2l e153; have a10 := i158x10b; unfold In at a10; have a11 := i151; unfold In at a11; have a12 := t_add e151 h2 (in_c 3 rfl) rfl; have a13 := (in_c 3 rfl); unfold In at a13; have a14 := tx_i2l e139x1; have a15 := i139x8x10b; unfold In at a15; have a16 := i137; unfold In at a16; have a17 := t_add e137 h2 (in_c 2 rfl) rfl; have a18 := (in_c 2 rfl); unfold In at a18; have a19 := tx_i2l e124; have a20 := i125x10d; unfold In at a20; have a21 := t_sub e123 i103 (in_c 1 rfl) rfl; have a22 := i103; unfold In at a22; have a23 := tx_i2l e114; have a24 := tx_i2l e105; have a25 := i106x10d; unfold In at a25; have a26 := t_sub e104 i103 (in_c 1 rfl) rfl; have a27 := tx_i2l e95; have a28 := i13; unfold In at a28; have a29 := t_add e13 h2 (in_c 1 rfl) rfl; omega), ← e14]; have ha := c125x10a; have hb := tx_i2l e114; have hc := tx_i2l e124; have he : z102 = s.1 110 2 := e102; rw [← he]; have a0 := h2; unfold In at a0; have a1 := i18; unfold In at a1; have a2 := (in_c 1 rfl); unfold In at a2; have a3 := i91; unfold In at a3; have a4 := i125x10b; unfold In at a4; have a5 := i106x10b; unfold In at a5; have a6 := i185; unfold In at a6; have a7 := t_add e185 (in_c 320 rfl) i91 rfl; have a8 := (in_c 320 rfl); unfold In at a8; have a9 := tx_i2l e153; have a10 := i158x10b; unfold In at a10; have a11 := i151; unfold In at a11; have a12 := t_add e151 h2 (in_c 3 rfl) rfl; have a13 := (in_c 3 rfl); unfold In at a13; have a14 := tx_i2l e139x1; have a15 := i139x8x10b; unfold In at a15; have a16 := i137; unfold In at a16; have a17 := t_add e137 h2 (in_c 2 rfl) rfl; have a18 := (in_c 2 rfl); unfold In at a18; have a19 := tx_i2l e124; have a20 := i125x10d; unfold In at a20; have a21 := t_sub e123 i103 (in_c 1 rfl) rfl; have a22 := i103; unfold In at a22; have a23 := tx_i2l e114; have a24 := tx_i2l e105; have a25 := i106x10d; unfold In at a25; have a26 := t_sub e104 i103 (in_c 1 rfl) rfl; have a27 := tx_i2l e95; have a28 := i13; unfold In at a28; have a29 := t_add e13 h2 (in_c 1 rfl) rfl; omega⟩ (by rw [show x2.toNatClampNeg + 2 = z137.toNatClampNeg from (by show x2.toInt.toNat + 2 = z137.toInt.toNat; have a0 := h2; unfold In at a0; have a1 := i18; unfold In at a1; have a2 := (in_c 1 rfl); unfold In at a2; have a3 := i91; unfold In at a3; have a4 := i125x10b; unfold In at a4; have a5 := i106x10b; unfold In at a5; have a6 := i185; unfold In at a6; have a7 := t_add e185 (in_c 320 rfl) i91 rfl; have a8 := (in_c 320 rfl); unfold In at a8; have a9 := tx_i2l e153; have a10 := i158x10b; unfold In at a10; have a11 := i151; unfold In at a11; have a12 := t_add e151 h2 (in_c 3 rfl) rfl; have a13 := (in_c 3 rfl); unfold In at a13; have a14 := tx_i2l e139x1; have a15 := i139x8x10b; unfold In at a15; have a16 := i137; unfold In at a16; have a17 := t_add e137 h2 (in_c 2 rfl) rfl; have a18 := (in_c 2 rfl); unfold In at a18; have a19 := tx_i2l e124; have a20 := i125x10d; unfold In at a20; have a21 := t_sub e123 i103 (in_c 1 rfl) rfl; have a22 := i103; unfold In at a22; have a23 := tx_i2l e114; have a24 := tx_i2l e105; have a25 := i106x10d; unfold In at a25; have a26 := t_sub e104 i103 (in_c 1 rfl) rfl; have a27 := tx_i2l e95; have a28 := i13; unfold In at a28; have a29 := t_add e13 h2 (in_c 1 rfl) rfl; omega), ← e138]; exact i139x8x10b) (by rw [show x2.toNatClampNeg + 3 = z151.toNatClampNeg from (by show x2.toInt.toNat + 3 = z151.toInt.toNat; have a0 := h2; unfold In at a0; have a1 := i18; unfold In at a1; have a2 := (in_c 1 rfl); unfold In at a2; have a3 := i91; unfold In at a3; have a4 := i125x10b; unfold In at a4; have a5 := i106x10b; unfold In at a5; have a6 := i185; unfold In at a6; have a7 := t_add e185 (in_c 320 rfl) i91 rfl; have a8 := (in_c 320 rfl); unfold In at a8; have a9 := tx_i2l e153; have a10 := i158x10b; unfold In at a10; have a11 := i151; unfold In at a11; have a12 := t_add e151 h2 (in_c 3 rfl) rfl; have a13 := (in_c 3 rfl); unfold In at a13; have a14 := tx_i2l e139x1; have a15 := i139x8x10b; unfold In at a15; have a16 := i137; unfold In at a16; have a17 := t_add e137 h2 (in_c 2 rfl) rfl; have a18 := (in_c 2 rfl); unfold In at a18; have a19 := tx_i2l e124; have a20 := i125x10d; unfold In at a20; have a21 := t_sub e123 i103 (in_c 1 rfl) rfl; have a22 := i103; unfold In at a22; have a23 := tx_i2l e114; have a24 := tx_i2l e105; have a25 := i106x10d; unfold In at a25; have a26 := t_sub e104 i103 (in_c 1 rfl) rfl; have a27 := tx_i2l e95; have a28 := i13; unfold In at a28; have a29 := t_add e13 h2 (in_c 1 rfl) rfl; omega), ← e152]; exact i158x10b)
                                exact gg_w (by omega) (gg_f (gf_cons rfl (gf_cons rfl (gf_cons rfl (gf_cons rfl (gf_cons rfl (gf_cons rfl (gf_cons rfl gf_nil))))))) (ct188 (sI s 112 z185.toNatClampNeg (vp_nar .boolean (Int32.ofInt 1))) z5 z14 z81 (Int32.ofInt 1) hI187 (fr_sI rfl fr_rf) (in_w 97 97 i18 rfl) (in_w 0 160 i91 rfl) (in_w 0 1 (in_c 1 rfl) rfl) n188))
  · skip
    have i18 := sw_eq c18
    refine g_aload_n 53 (gd rfl) rfl rfl ?_
    refine g_getA (q2 := 110) 56 (gd rfl) rfl rfl rfl rfl ?_
    refine g_iconst 2 57 (gd rfl) rfl rfl ?_
    refine g_dup2 58 (gd rfl) rfl rfl rfl ?_
    refine g_iaload 59 (gd rfl) rfl (n := 3) rfl (in_ix (in_c 2 rfl) rfl) (fun z58 e58 => ?_)
    have i59 : In z58 0 32 := by rw [e58]; exact q_0
    refine g_iconst 1 60 (gd rfl) rfl rfl ?_
    refine g_iadd 61 (gd rfl) rfl (fun z60 e60 => ?_)
    have i60 := in_add 1 33 e60 i59 (in_c 1 rfl) rfl rfl
    refine g_iastore 62 (gd rfl) rfl (n := 3) rfl (in_ix (in_c 2 rfl) rfl) ?_
    have hI61 : Inv (sI s 110 (Int32.ofInt 2).toNatClampNeg z60) := by exact inv_n2 hI (Nat.le_refl 2)
    refine g_aload_n 63 (gd rfl) rfl rfl ?_
    refine g_getA (q2 := 110) 66 (gd rfl) rfl rfl rfl rfl ?_
    refine g_iconst 2 67 (gd rfl) rfl rfl ?_
    refine g_iaload 68 (gd rfl) rfl (n := 3) rfl (in_ix (in_c 2 rfl) rfl) (fun z67 e67 => ?_)
    have q67 : z60 = z67 := (sI_get).trans e67.symm
    subst q67
    refine g_bipush 32 70 (gd rfl) rfl rfl ?_
    refine g_cmp_gt 73 77 (gd rfl) rfl rfl (fun c70 => ?_) (fun c70 => ?_)
    · skip
      have i70 := r_lt2 33 33 c70 (in_c 32 rfl) i60 rfl
      refine g_iconst 0 78 (gd rfl) rfl rfl ?_
      have n78 : DNE s (sI s 110 (Int32.ofInt 2).toNatClampNeg z60) (x1).toInt (x2).toNatClampNeg ((Int32.ofInt 0)).toInt := by exact dne_n (by have a0 := h2; unfold In at a0; have a1 := i18; unfold In at a1; have a2 := i70; unfold In at a2; have a3 := t_add e60 i59 (in_c 1 rfl) rfl; have a4 := (in_c 1 rfl); unfold In at a4; have a5 := i59; unfold In at a5; have a6 := i13; unfold In at a6; have a7 := t_add e13 h2 (in_c 1 rfl) rfl; omega) e58 (by have a0 := h2; unfold In at a0; have a1 := i18; unfold In at a1; have a2 := i70; unfold In at a2; have a3 := t_add e60 i59 (in_c 1 rfl) rfl; have a4 := (in_c 1 rfl); unfold In at a4; have a5 := i59; unfold In at a5; have a6 := i13; unfold In at a6; have a7 := t_add e13 h2 (in_c 1 rfl) rfl; omega) (fun hz => by first | (exact absurd (by decide) hz) | (have h := i70; unfold In at h; omega))
      exact g_ireturn (gd rfl) rfl (nb01 (in_w 0 1 (in_c 0 rfl) rfl)) (hP _ _ ⟨(sI s 110 (Int32.ofInt 2).toNatClampNeg z60), hI61, (fr_sI rfl fr_rf), (Int32.ofInt 0), rfl, rfl, in_w 0 1 (in_c 0 rfl) rfl, n78⟩)
    · skip
      have i70 := r_le1 1 32 c70 i60 (in_c 32 rfl) rfl
      refine g_iconst 1 74 (gd rfl) rfl rfl ?_
      refine g_goto 78 (gd rfl) rfl ?_
      have n78 : DNE s (sI s 110 (Int32.ofInt 2).toNatClampNeg z60) (x1).toInt (x2).toNatClampNeg ((Int32.ofInt 1)).toInt := by exact dne_n (by have a0 := h2; unfold In at a0; have a1 := i18; unfold In at a1; have a2 := i70; unfold In at a2; have a3 := t_add e60 i59 (in_c 1 rfl) rfl; have a4 := (in_c 1 rfl); unfold In at a4; have a5 := i59; unfold In at a5; have a6 := i13; unfold In at a6; have a7 := t_add e13 h2 (in_c 1 rfl) rfl; omega) e58 (by have a0 := h2; unfold In at a0; have a1 := i18; unfold In at a1; have a2 := i70; unfold In at a2; have a3 := t_add e60 i59 (in_c 1 rfl) rfl; have a4 := (in_c 1 rfl); unfold In at a4; have a5 := i59; unfold In at a5; have a6 := i13; unfold In at a6; have a7 := t_add e13 h2 (in_c 1 rfl) rfl; omega) (fun hz => by first | (exact absurd (by decide) hz) | (have h := i70; unfold In at h; omega))
      exact g_ireturn (gd rfl) rfl (nb01 (in_w 0 1 (in_c 1 rfl) rfl)) (hP _ _ ⟨(sI s 110 (Int32.ofInt 2).toNatClampNeg z60), hI61, (fr_sI rfl fr_rf), (Int32.ofInt 1), rfl, rfl, in_w 0 1 (in_c 1 rfl) rfl, n78⟩)
  · skip
    have i18 := sw_eq c18
    refine g_iload_n 192 (gd rfl) rfl rfl ?_
    refine g_i2l 193 (gd rfl) rfl (fun z192 e192 => ?_)
    have i192 := l_i e192 (i_rng z5)
    refine g_lconst 0 194 (gd rfl) rfl rfl ?_
    refine g_ldc2_w 159 197 (gd rfl) rfl rfl ?_
    refine g_calls (As := [.long z192, .long (Int64.ofInt 0), .long (Int64.ofInt 159)]) (r := []) 200 (gd rfl) rfl rfl rfl rfl rfl (Nat.le_of_ble_eq_true rfl) (mc := 0) (ms := 0) (Nat.zero_le _) (Nat.zero_le _) (P := fun v u => _) ?_ (fun v u h => h)
    intro po197 xx197 hp197 hx197
    refine g_enter2 (k := 269) (N := 300) (by omega) rfl (Nat.le_of_ble_eq_true rfl) ?_
    refine g_lload_n 1 (gd rfl) rfl rfl ?_
    refine g_lload_n 2 (gd rfl) rfl rfl ?_
    refine g_lcmp 3 (gd rfl) rfl (fun z197x2 e197x2 => ?_)
    have i197x2 := lc_in e197x2
    refine g_if_lt 6 17 (gd rfl) rfl rfl (fun c197x3 => ?_) (fun c197x3 => ?_)
    · skip
      have i197x3 := z_lt (-1) (-1) c197x3 i197x2 rfl
      have c197x3a := lc_lt e197x2 c197x3
      have i197x3a := lr_lt1 (-2147483648) (-1) c197x3a i192 (l_c 0 rfl) rfl
      have i197x3b := l_b e192 i197x3a
      refine g_iconst 0 18 (gd rfl) rfl rfl ?_
      refine g_ireturn (gd rfl) rfl (nb01 (in_w 0 1 (in_c 0 rfl) rfl)) (hp197 _ _ ?_)
      show GG _ _ _ _ _ _ _ _ [.int (Int32.ofInt 0)] _ _ _
      refine g_if_eq 203 236 (gd rfl) rfl rfl (fun c200 => ?_) (fun c200 => ?_)
      · skip
        have n236 : s = s := by rfl
        exact gg_w (by omega) (gg_f (gf_cons rfl (gf_cons rfl (gf_cons rfl (gf_cons rfl (gf_cons rfl gf_nil))))) (ct236 s z5 z14 hI fr_rf (in_w 116 116 i18 rfl) n236))
      · skip
        exact zn_ne c200 (in_c 0 rfl) rfl
    · skip
      have i197x3 := z_ge 0 1 c197x3 i197x2 rfl
      have c197x3a := lc_ge e197x2 c197x3
      have i197x3a := lr_le2 0 2147483647 c197x3a (l_c 0 rfl) i192 rfl
      have i197x3b := l_b e192 i197x3a
      refine g_lload_n 7 (gd rfl) rfl rfl ?_
      refine g_lload 9 (gd rfl) rfl rfl ?_
      refine g_lcmp 10 (gd rfl) rfl (fun z197x9 e197x9 => ?_)
      have i197x9 := lc_in e197x9
      refine g_if_gt 13 17 (gd rfl) rfl rfl (fun c197x10 => ?_) (fun c197x10 => ?_)
      · skip
        have i197x10 := z_gt 1 1 c197x10 i197x9 rfl
        have c197x10a := lc_gt e197x9 c197x10
        have i197x10a := lr_lt2 160 2147483647 c197x10a (l_c 159 rfl) i197x3a rfl
        have i197x10b := l_b e192 i197x10a
        refine g_iconst 0 18 (gd rfl) rfl rfl ?_
        refine g_ireturn (gd rfl) rfl (nb01 (in_w 0 1 (in_c 0 rfl) rfl)) (hp197 _ _ ?_)
        show GG _ _ _ _ _ _ _ _ [.int (Int32.ofInt 0)] _ _ _
        refine g_if_eq 203 236 (gd rfl) rfl rfl (fun c200 => ?_) (fun c200 => ?_)
        · skip
          have n236 : s = s := by rfl
          exact gg_w (by omega) (gg_f (gf_cons rfl (gf_cons rfl (gf_cons rfl (gf_cons rfl (gf_cons rfl gf_nil))))) (ct236 s z5 z14 hI fr_rf (in_w 116 116 i18 rfl) n236))
        · skip
          exact zn_ne c200 (in_c 0 rfl) rfl
      · skip
        have i197x10 := z_le (-1) 0 c197x10 i197x9 rfl
        have c197x10a := lc_le e197x9 c197x10
        have i197x10a := lr_le1 0 159 c197x10a i197x3a (l_c 159 rfl) rfl
        have i197x10b := l_b e192 i197x10a
        refine g_iconst 1 14 (gd rfl) rfl rfl ?_
        refine g_goto 18 (gd rfl) rfl ?_
        refine g_ireturn (gd rfl) rfl (nb01 (in_w 0 1 (in_c 1 rfl) rfl)) (hp197 _ _ ?_)
        show GG _ _ _ _ _ _ _ _ [.int (Int32.ofInt 1)] _ _ _
        refine g_if_eq 203 236 (gd rfl) rfl rfl (fun c200 => ?_) (fun c200 => ?_)
        · skip
          exact zn_eq c200 (in_c 1 rfl) rfl
        · skip
          refine g_aload_n 204 (gd rfl) rfl rfl ?_
          refine g_getA (q2 := 112) 207 (gd rfl) rfl rfl rfl rfl ?_
          refine g_sipush 320 210 (gd rfl) rfl rfl ?_
          refine g_iload_n 211 (gd rfl) rfl rfl ?_
          refine g_i2l 212 (gd rfl) rfl (fun z211 e211 => ?_)
          have i211 := l_i e211 i197x10b
          refine g_lconst 0 213 (gd rfl) rfl rfl ?_
          refine g_ldc2_w 159 216 (gd rfl) rfl rfl ?_
          refine g_calls (As := [.long z211, .long (Int64.ofInt 0), .long (Int64.ofInt 159)]) (r := [.int (Int32.ofInt 320), .ref (A 112)]) 219 (gd rfl) rfl rfl rfl rfl rfl (Nat.le_of_ble_eq_true rfl) (mc := 0) (ms := 0) (Nat.zero_le _) (Nat.zero_le _) (P := fun v u => _) ?_ (fun v u h => h)
          intro po216 xx216 hp216 hx216
          refine g_enter2 (k := 269) (N := 300) (by omega) rfl (Nat.le_of_ble_eq_true rfl) ?_
          refine g_lload_n 1 (gd rfl) rfl rfl ?_
          refine g_lload_n 2 (gd rfl) rfl rfl ?_
          refine g_lcmp 3 (gd rfl) rfl (fun z216x2 e216x2 => ?_)
          have i216x2 := lc_in e216x2
          refine g_if_lt 6 17 (gd rfl) rfl rfl (fun c216x3 => ?_) (fun c216x3 => ?_)
          · skip
            have i216x3 := z_lt (-1) (-1) c216x3 i216x2 rfl
            have c216x3a := lc_lt e216x2 c216x3
            exact ln_lt c216x3a i211 (l_c 0 rfl) rfl
          · skip
            have i216x3 := z_ge 0 1 c216x3 i216x2 rfl
            have c216x3a := lc_ge e216x2 c216x3
            refine g_lload_n 7 (gd rfl) rfl rfl ?_
            refine g_lload 9 (gd rfl) rfl rfl ?_
            refine g_lcmp 10 (gd rfl) rfl (fun z216x9 e216x9 => ?_)
            have i216x9 := lc_in e216x9
            refine g_if_gt 13 17 (gd rfl) rfl rfl (fun c216x10 => ?_) (fun c216x10 => ?_)
            · skip
              have i216x10 := z_gt 1 1 c216x10 i216x9 rfl
              have c216x10a := lc_gt e216x9 c216x10
              exact ln_lt c216x10a (l_c 159 rfl) i211 rfl
            · skip
              have i216x10 := z_le (-1) 0 c216x10 i216x9 rfl
              have c216x10a := lc_le e216x9 c216x10
              refine g_iconst 1 14 (gd rfl) rfl rfl ?_
              refine g_goto 18 (gd rfl) rfl ?_
              refine g_ireturn (gd rfl) rfl (nb01 (in_w 0 1 (in_c 1 rfl) rfl)) (hp216 _ _ ?_)
              show GG _ _ _ _ _ _ _ _ [.int (Int32.ofInt 1), .int (Int32.ofInt 320), .ref (A 112)] _ _ _
              refine g_if_eq 222 226 (gd rfl) rfl rfl (fun c219 => ?_) (fun c219 => ?_)
              · skip
                exact zn_eq c219 (in_c 1 rfl) rfl
              · skip
                refine g_iload_n 223 (gd rfl) rfl rfl ?_
                refine g_goto 227 (gd rfl) rfl ?_
                refine g_iadd 228 (gd rfl) rfl (fun z227 e227 => ?_)
                have i227 := in_add 320 479 e227 (in_c 320 rfl) i197x10b rfl rfl
                refine g_baload 229 (gd rfl) rfl (n := 480) rfl (in_ix i227 rfl) (fun z228 e228 => ?_)
                have i228 := inv_I hI (n := 480) (t := 3) 0 1 rfl (in_ix i227 rfl) rfl e228
                refine g_if_eq 232 236 (gd rfl) rfl rfl (fun c229 => ?_) (fun c229 => ?_)
                · skip
                  have i229 := z_eq 0 0 c229 i228 rfl
                  have n236 : s = s := by rfl
                  exact gg_w (by omega) (gg_f (gf_cons rfl (gf_cons rfl (gf_cons rfl (gf_cons rfl (gf_cons rfl gf_nil))))) (ct236 s z5 z14 hI fr_rf (in_w 116 116 i18 rfl) n236))
                · skip
                  have i229 := z_ne 1 1 c229 i228 rfl
                  refine g_iconst 1 233 (gd rfl) rfl rfl ?_
                  refine g_goto 237 (gd rfl) rfl ?_
                  refine g_istore 239 (gd rfl) rfl (Nat.le_of_ble_eq_true rfl) ?_
                  refine g_iload 241 (gd rfl) rfl rfl ?_
                  refine g_if_eq 244 255 (gd rfl) rfl rfl (fun c241 => ?_) (fun c241 => ?_)
                  · skip
                    exact zn_eq c241 (in_c 1 rfl) rfl
                  · skip
                    refine g_aload_n 245 (gd rfl) rfl rfl ?_
                    refine g_getA (q2 := 112) 248 (gd rfl) rfl rfl rfl rfl ?_
                    refine g_sipush 320 251 (gd rfl) rfl rfl ?_
                    refine g_iload_n 252 (gd rfl) rfl rfl ?_
                    refine g_iadd 253 (gd rfl) rfl (fun z252 e252 => ?_)
                    have i252 := in_add 320 479 e252 (in_c 320 rfl) i197x10b rfl rfl
                    refine g_iconst 0 254 (gd rfl) rfl rfl ?_
                    refine g_bastore 255 (gd rfl) rfl (n := 480) rfl (in_ix i252 rfl) ?_
                    have hI254 : Inv (sI s 112 z252.toNatClampNeg (vp_nar .boolean (Int32.ofInt 0))) := by exact inv_t3 hI (by show 320 ≤ (z252).toInt.toNat; have a0 := h2; unfold In at a0; have a1 := i18; unfold In at a1; have a2 := (in_c 1 rfl); unfold In at a2; have a3 := i197x10b; unfold In at a3; have a4 := i252; unfold In at a4; have a5 := t_add e252 (in_c 320 rfl) i197x10b rfl; have a6 := (in_c 320 rfl); unfold In at a6; have a7 := i227; unfold In at a7; have a8 := t_add e227 (in_c 320 rfl) i197x10b rfl; have a9 := tx_i2l e211; have a10 := tx_i2l e192; have a11 := i13; unfold In at a11; have a12 := t_add e13 h2 (in_c 1 rfl) rfl; omega) (in_w 0 1 (nar01 (in_w 0 1 (in_c 0 rfl) rfl)) rfl)
                    have n255 : DNE s (sI s 112 z252.toNatClampNeg (vp_nar .boolean (Int32.ofInt 0))) (x1).toInt (x2).toNatClampNeg ((Int32.ofInt 1)).toInt := by exact dne_t (by have a0 := h2; unfold In at a0; have a1 := i18; unfold In at a1; have a2 := (in_c 1 rfl); unfold In at a2; have a3 := i197x10b; unfold In at a3; have a4 := i252; unfold In at a4; have a5 := t_add e252 (in_c 320 rfl) i197x10b rfl; have a6 := (in_c 320 rfl); unfold In at a6; have a7 := i227; unfold In at a7; have a8 := t_add e227 (in_c 320 rfl) i197x10b rfl; have a9 := tx_i2l e211; have a10 := tx_i2l e192; have a11 := i13; unfold In at a11; have a12 := t_add e13 h2 (in_c 1 rfl) rfl; omega) (by rw [← e5]; exact i197x10b) (by rw [← e5]; show z252.toInt.toNat = 320 + z5.toInt.toNat; have a0 := h2; unfold In at a0; have a1 := i18; unfold In at a1; have a2 := (in_c 1 rfl); unfold In at a2; have a3 := i197x10b; unfold In at a3; have a4 := i252; unfold In at a4; have a5 := t_add e252 (in_c 320 rfl) i197x10b rfl; have a6 := (in_c 320 rfl); unfold In at a6; have a7 := i227; unfold In at a7; have a8 := t_add e227 (in_c 320 rfl) i197x10b rfl; have a9 := tx_i2l e211; have a10 := tx_i2l e192; have a11 := i13; unfold In at a11; have a12 := t_add e13 h2 (in_c 1 rfl) rfl; omega)
                    exact gg_w (by omega) (gg_f (gf_cons rfl (gf_cons rfl (gf_cons rfl (gf_cons rfl (gf_cons rfl (gf_cons rfl gf_nil)))))) (ct255 (sI s 112 z252.toNatClampNeg (vp_nar .boolean (Int32.ofInt 0))) z5 z14 (Int32.ofInt 1) hI254 (fr_sI rfl fr_rf) (in_w 116 116 i18 rfl) (in_w 0 1 (in_c 1 rfl) rfl) n255))
  · skip
    refine g_iload_n 259 (gd rfl) rfl rfl ?_
    refine g_i2l 260 (gd rfl) rfl (fun z259 e259 => ?_)
    have i259 := l_i e259 (i_rng z5)
    refine g_lconst 0 261 (gd rfl) rfl rfl ?_
    refine g_ldc2_w 159 264 (gd rfl) rfl rfl ?_
    refine g_calls (As := [.long z259, .long (Int64.ofInt 0), .long (Int64.ofInt 159)]) (r := []) 267 (gd rfl) rfl rfl rfl rfl rfl (Nat.le_of_ble_eq_true rfl) (mc := 0) (ms := 0) (Nat.zero_le _) (Nat.zero_le _) (P := fun v u => _) ?_ (fun v u h => h)
    intro po264 xx264 hp264 hx264
    refine g_enter2 (k := 269) (N := 300) (by omega) rfl (Nat.le_of_ble_eq_true rfl) ?_
    refine g_lload_n 1 (gd rfl) rfl rfl ?_
    refine g_lload_n 2 (gd rfl) rfl rfl ?_
    refine g_lcmp 3 (gd rfl) rfl (fun z264x2 e264x2 => ?_)
    have i264x2 := lc_in e264x2
    refine g_if_lt 6 17 (gd rfl) rfl rfl (fun c264x3 => ?_) (fun c264x3 => ?_)
    · skip
      have i264x3 := z_lt (-1) (-1) c264x3 i264x2 rfl
      have c264x3a := lc_lt e264x2 c264x3
      have i264x3a := lr_lt1 (-2147483648) (-1) c264x3a i259 (l_c 0 rfl) rfl
      have i264x3b := l_b e259 i264x3a
      refine g_iconst 0 18 (gd rfl) rfl rfl ?_
      refine g_ireturn (gd rfl) rfl (nb01 (in_w 0 1 (in_c 0 rfl) rfl)) (hp264 _ _ ?_)
      show GG _ _ _ _ _ _ _ _ [.int (Int32.ofInt 0)] _ _ _
      refine g_if_eq 270 311 (gd rfl) rfl rfl (fun c267 => ?_) (fun c267 => ?_)
      · skip
        have n311 : s = s := by rfl
        exact gg_w (by omega) (gg_f (gf_cons rfl (gf_cons rfl (gf_cons rfl (gf_cons rfl (gf_cons rfl gf_nil))))) (ct311 s z5 z14 hI fr_rf n311))
      · skip
        exact zn_ne c267 (in_c 0 rfl) rfl
    · skip
      have i264x3 := z_ge 0 1 c264x3 i264x2 rfl
      have c264x3a := lc_ge e264x2 c264x3
      have i264x3a := lr_le2 0 2147483647 c264x3a (l_c 0 rfl) i259 rfl
      have i264x3b := l_b e259 i264x3a
      refine g_lload_n 7 (gd rfl) rfl rfl ?_
      refine g_lload 9 (gd rfl) rfl rfl ?_
      refine g_lcmp 10 (gd rfl) rfl (fun z264x9 e264x9 => ?_)
      have i264x9 := lc_in e264x9
      refine g_if_gt 13 17 (gd rfl) rfl rfl (fun c264x10 => ?_) (fun c264x10 => ?_)
      · skip
        have i264x10 := z_gt 1 1 c264x10 i264x9 rfl
        have c264x10a := lc_gt e264x9 c264x10
        have i264x10a := lr_lt2 160 2147483647 c264x10a (l_c 159 rfl) i264x3a rfl
        have i264x10b := l_b e259 i264x10a
        refine g_iconst 0 18 (gd rfl) rfl rfl ?_
        refine g_ireturn (gd rfl) rfl (nb01 (in_w 0 1 (in_c 0 rfl) rfl)) (hp264 _ _ ?_)
        show GG _ _ _ _ _ _ _ _ [.int (Int32.ofInt 0)] _ _ _
        refine g_if_eq 270 311 (gd rfl) rfl rfl (fun c267 => ?_) (fun c267 => ?_)
        · skip
          have n311 : s = s := by rfl
          exact gg_w (by omega) (gg_f (gf_cons rfl (gf_cons rfl (gf_cons rfl (gf_cons rfl (gf_cons rfl gf_nil))))) (ct311 s z5 z14 hI fr_rf n311))
        · skip
          exact zn_ne c267 (in_c 0 rfl) rfl
      · skip
        have i264x10 := z_le (-1) 0 c264x10 i264x9 rfl
        have c264x10a := lc_le e264x9 c264x10
        have i264x10a := lr_le1 0 159 c264x10a i264x3a (l_c 159 rfl) rfl
        have i264x10b := l_b e259 i264x10a
        refine g_iconst 1 14 (gd rfl) rfl rfl ?_
        refine g_goto 18 (gd rfl) rfl ?_
        refine g_ireturn (gd rfl) rfl (nb01 (in_w 0 1 (in_c 1 rfl) rfl)) (hp264 _ _ ?_)
        show GG _ _ _ _ _ _ _ _ [.int (Int32.ofInt 1)] _ _ _
        refine g_if_eq 270 311 (gd rfl) rfl rfl (fun c267 => ?_) (fun c267 => ?_)
        · skip
          exact zn_eq c267 (in_c 1 rfl) rfl
        · skip
          refine g_aload_n 271 (gd rfl) rfl rfl ?_
          refine g_getA (q2 := 112) 274 (gd rfl) rfl rfl rfl rfl ?_
          refine g_sipush 320 277 (gd rfl) rfl rfl ?_
          refine g_iload_n 278 (gd rfl) rfl rfl ?_
          refine g_i2l 279 (gd rfl) rfl (fun z278 e278 => ?_)
          have i278 := l_i e278 i264x10b
          refine g_lconst 0 280 (gd rfl) rfl rfl ?_
          refine g_ldc2_w 159 283 (gd rfl) rfl rfl ?_
          refine g_calls (As := [.long z278, .long (Int64.ofInt 0), .long (Int64.ofInt 159)]) (r := [.int (Int32.ofInt 320), .ref (A 112)]) 286 (gd rfl) rfl rfl rfl rfl rfl (Nat.le_of_ble_eq_true rfl) (mc := 0) (ms := 0) (Nat.zero_le _) (Nat.zero_le _) (P := fun v u => _) ?_ (fun v u h => h)
          intro po283 xx283 hp283 hx283
          refine g_enter2 (k := 269) (N := 300) (by omega) rfl (Nat.le_of_ble_eq_true rfl) ?_
          refine g_lload_n 1 (gd rfl) rfl rfl ?_
          refine g_lload_n 2 (gd rfl) rfl rfl ?_
          refine g_lcmp 3 (gd rfl) rfl (fun z283x2 e283x2 => ?_)
          have i283x2 := lc_in e283x2
          refine g_if_lt 6 17 (gd rfl) rfl rfl (fun c283x3 => ?_) (fun c283x3 => ?_)
          · skip
            have i283x3 := z_lt (-1) (-1) c283x3 i283x2 rfl
            have c283x3a := lc_lt e283x2 c283x3
            exact ln_lt c283x3a i278 (l_c 0 rfl) rfl
          · skip
            have i283x3 := z_ge 0 1 c283x3 i283x2 rfl
            have c283x3a := lc_ge e283x2 c283x3
            refine g_lload_n 7 (gd rfl) rfl rfl ?_
            refine g_lload 9 (gd rfl) rfl rfl ?_
            refine g_lcmp 10 (gd rfl) rfl (fun z283x9 e283x9 => ?_)
            have i283x9 := lc_in e283x9
            refine g_if_gt 13 17 (gd rfl) rfl rfl (fun c283x10 => ?_) (fun c283x10 => ?_)
            · skip
              have i283x10 := z_gt 1 1 c283x10 i283x9 rfl
              have c283x10a := lc_gt e283x9 c283x10
              exact ln_lt c283x10a (l_c 159 rfl) i278 rfl
            · skip
              have i283x10 := z_le (-1) 0 c283x10 i283x9 rfl
              have c283x10a := lc_le e283x9 c283x10
              refine g_iconst 1 14 (gd rfl) rfl rfl ?_
              refine g_goto 18 (gd rfl) rfl ?_
              refine g_ireturn (gd rfl) rfl (nb01 (in_w 0 1 (in_c 1 rfl) rfl)) (hp283 _ _ ?_)
              show GG _ _ _ _ _ _ _ _ [.int (Int32.ofInt 1), .int (Int32.ofInt 320), .ref (A 112)] _ _ _
              refine g_if_eq 289 293 (gd rfl) rfl rfl (fun c286 => ?_) (fun c286 => ?_)
              · skip
                exact zn_eq c286 (in_c 1 rfl) rfl
              · skip
                refine g_iload_n 290 (gd rfl) rfl rfl ?_
                refine g_goto 294 (gd rfl) rfl ?_
                refine g_iadd 295 (gd rfl) rfl (fun z294 e294 => ?_)
                have i294 := in_add 320 479 e294 (in_c 320 rfl) i264x10b rfl rfl
                refine g_baload 296 (gd rfl) rfl (n := 480) rfl (in_ix i294 rfl) (fun z295 e295 => ?_)
                have i295 := inv_I hI (n := 480) (t := 3) 0 1 rfl (in_ix i294 rfl) rfl e295
                refine g_if_eq 299 311 (gd rfl) rfl rfl (fun c296 => ?_) (fun c296 => ?_)
                · skip
                  have i296 := z_eq 0 0 c296 i295 rfl
                  have n311 : s = s := by rfl
                  exact gg_w (by omega) (gg_f (gf_cons rfl (gf_cons rfl (gf_cons rfl (gf_cons rfl (gf_cons rfl gf_nil))))) (ct311 s z5 z14 hI fr_rf n311))
                · skip
                  have i296 := z_ne 1 1 c296 i295 rfl
                  refine g_iload 301 (gd rfl) rfl rfl ?_
                  refine g_calls (As := [.int z14]) (r := []) 304 (gd rfl) rfl rfl rfl rfl rfl (Nat.le_of_ble_eq_true rfl) (mc := 0) (ms := 0) (Nat.zero_le _) (Nat.zero_le _) (P := fun v u => _) ?_ (fun v u h => h)
                  intro po301 xx301 hp301 hx301
                  refine g_enter2 (k := 279) (N := 300) (by omega) rfl (Nat.le_of_ble_eq_true rfl) ?_
                  refine g_iload_n 1 (gd rfl) rfl rfl ?_
                  refine g_i2l 2 (gd rfl) rfl (fun z301x1 e301x1 => ?_)
                  have i301x1 := l_i e301x1 (i_rng z14)
                  refine g_ldc2_w (-1000000) 5 (gd rfl) rfl rfl ?_
                  refine g_ldc2_w 1000000 8 (gd rfl) rfl rfl ?_
                  refine g_calls (As := [.long z301x1, .long (Int64.ofInt (-1000000)), .long (Int64.ofInt 1000000)]) (r := []) 11 (gd rfl) rfl rfl rfl rfl rfl (Nat.le_of_ble_eq_true rfl) (mc := 0) (ms := 0) (Nat.zero_le _) (Nat.zero_le _) (P := fun v u => _) ?_ (fun v u h => h)
                  intro po301x8 xx301x8 hp301x8 hx301x8
                  refine g_enter2 (k := 269) (N := 300) (by omega) rfl (Nat.le_of_ble_eq_true rfl) ?_
                  refine g_lload_n 1 (gd rfl) rfl rfl ?_
                  refine g_lload_n 2 (gd rfl) rfl rfl ?_
                  refine g_lcmp 3 (gd rfl) rfl (fun z301x8x2 e301x8x2 => ?_)
                  have i301x8x2 := lc_in e301x8x2
                  refine g_if_lt 6 17 (gd rfl) rfl rfl (fun c301x8x3 => ?_) (fun c301x8x3 => ?_)
                  · skip
                    have i301x8x3 := z_lt (-1) (-1) c301x8x3 i301x8x2 rfl
                    have c301x8x3a := lc_lt e301x8x2 c301x8x3
                    have i301x8x3a := lr_lt1 (-2147483648) (-1000001) c301x8x3a i301x1 (l_c (-1000000) rfl) rfl
                    have i301x8x3b := l_b e301x1 i301x8x3a
                    refine g_iconst 0 18 (gd rfl) rfl rfl ?_
                    refine g_ireturn (gd rfl) rfl (nb01 (in_w 0 1 (in_c 0 rfl) rfl)) (hp301x8 _ _ ?_)
                    show GG _ _ _ _ _ _ _ _ [.int (Int32.ofInt 0)] _ _ _
                    refine g_ireturn (gd rfl) rfl (nb01 (in_w 0 1 (in_c 0 rfl) rfl)) (hp301 _ _ ?_)
                    show GG _ _ _ _ _ _ _ _ [.int (Int32.ofInt 0)] _ _ _
                    refine g_if_eq 307 311 (gd rfl) rfl rfl (fun c304 => ?_) (fun c304 => ?_)
                    · skip
                      have n311 : s = s := by rfl
                      exact gg_w (by omega) (gg_f (gf_cons rfl (gf_cons rfl (gf_cons rfl (gf_cons rfl (gf_cons rfl gf_nil))))) (ct311 s z5 z14 hI fr_rf n311))
                    · skip
                      exact zn_ne c304 (in_c 0 rfl) rfl
                  · skip
                    have i301x8x3 := z_ge 0 1 c301x8x3 i301x8x2 rfl
                    have c301x8x3a := lc_ge e301x8x2 c301x8x3
                    have i301x8x3a := lr_le2 (-1000000) 2147483647 c301x8x3a (l_c (-1000000) rfl) i301x1 rfl
                    have i301x8x3b := l_b e301x1 i301x8x3a
                    refine g_lload_n 7 (gd rfl) rfl rfl ?_
                    refine g_lload 9 (gd rfl) rfl rfl ?_
                    refine g_lcmp 10 (gd rfl) rfl (fun z301x8x9 e301x8x9 => ?_)
                    have i301x8x9 := lc_in e301x8x9
                    refine g_if_gt 13 17 (gd rfl) rfl rfl (fun c301x8x10 => ?_) (fun c301x8x10 => ?_)
                    · skip
                      have i301x8x10 := z_gt 1 1 c301x8x10 i301x8x9 rfl
                      have c301x8x10a := lc_gt e301x8x9 c301x8x10
                      have i301x8x10a := lr_lt2 1000001 2147483647 c301x8x10a (l_c 1000000 rfl) i301x8x3a rfl
                      have i301x8x10b := l_b e301x1 i301x8x10a
                      refine g_iconst 0 18 (gd rfl) rfl rfl ?_
                      refine g_ireturn (gd rfl) rfl (nb01 (in_w 0 1 (in_c 0 rfl) rfl)) (hp301x8 _ _ ?_)
                      show GG _ _ _ _ _ _ _ _ [.int (Int32.ofInt 0)] _ _ _
                      refine g_ireturn (gd rfl) rfl (nb01 (in_w 0 1 (in_c 0 rfl) rfl)) (hp301 _ _ ?_)
                      show GG _ _ _ _ _ _ _ _ [.int (Int32.ofInt 0)] _ _ _
                      refine g_if_eq 307 311 (gd rfl) rfl rfl (fun c304 => ?_) (fun c304 => ?_)
                      · skip
                        have n311 : s = s := by rfl
                        exact gg_w (by omega) (gg_f (gf_cons rfl (gf_cons rfl (gf_cons rfl (gf_cons rfl (gf_cons rfl gf_nil))))) (ct311 s z5 z14 hI fr_rf n311))
                      · skip
                        exact zn_ne c304 (in_c 0 rfl) rfl
                    · skip
                      have i301x8x10 := z_le (-1) 0 c301x8x10 i301x8x9 rfl
                      have c301x8x10a := lc_le e301x8x9 c301x8x10
                      have i301x8x10a := lr_le1 (-1000000) 1000000 c301x8x10a i301x8x3a (l_c 1000000 rfl) rfl
                      have i301x8x10b := l_b e301x1 i301x8x10a
                      refine g_iconst 1 14 (gd rfl) rfl rfl ?_
                      refine g_goto 18 (gd rfl) rfl ?_
                      refine g_ireturn (gd rfl) rfl (nb01 (in_w 0 1 (in_c 1 rfl) rfl)) (hp301x8 _ _ ?_)
                      show GG _ _ _ _ _ _ _ _ [.int (Int32.ofInt 1)] _ _ _
                      refine g_ireturn (gd rfl) rfl (nb01 (in_w 0 1 (in_c 1 rfl) rfl)) (hp301 _ _ ?_)
                      show GG _ _ _ _ _ _ _ _ [.int (Int32.ofInt 1)] _ _ _
                      refine g_if_eq 307 311 (gd rfl) rfl rfl (fun c304 => ?_) (fun c304 => ?_)
                      · skip
                        exact zn_eq c304 (in_c 1 rfl) rfl
                      · skip
                        refine g_iconst 1 308 (gd rfl) rfl rfl ?_
                        refine g_goto 312 (gd rfl) rfl ?_
                        have n312 : DNE s s (x1).toInt (x2).toNatClampNeg ((Int32.ofInt 1)).toInt := by exact dne_d (by have a0 := h2; unfold In at a0; have a1 := h1; unfold In at a1; have a2 := i301x8x10b; unfold In at a2; have a3 := i264x10b; unfold In at a3; have a4 := tx_i2l e301x1; have a5 := i294; unfold In at a5; have a6 := t_add e294 (in_c 320 rfl) i264x10b rfl; have a7 := (in_c 320 rfl); unfold In at a7; have a8 := tx_i2l e278; have a9 := tx_i2l e259; have a10 := i13; unfold In at a10; have a11 := t_add e13 h2 (in_c 1 rfl) rfl; have a12 := (in_c 1 rfl); unfold In at a12; omega) (by have a0 := h2; unfold In at a0; have a1 := h1; unfold In at a1; have a2 := i301x8x10b; unfold In at a2; have a3 := i264x10b; unfold In at a3; have a4 := tx_i2l e301x1; have a5 := i294; unfold In at a5; have a6 := t_add e294 (in_c 320 rfl) i264x10b rfl; have a7 := (in_c 320 rfl); unfold In at a7; have a8 := tx_i2l e278; have a9 := tx_i2l e259; have a10 := i13; unfold In at a10; have a11 := t_add e13 h2 (in_c 1 rfl) rfl; have a12 := (in_c 1 rfl); unfold In at a12; omega) (by have a0 := h2; unfold In at a0; have a1 := h1; unfold In at a1; have a2 := i301x8x10b; unfold In at a2; have a3 := i264x10b; unfold In at a3; have a4 := tx_i2l e301x1; have a5 := i294; unfold In at a5; have a6 := t_add e294 (in_c 320 rfl) i264x10b rfl; have a7 := (in_c 320 rfl); unfold In at a7; have a8 := tx_i2l e278; have a9 := tx_i2l e259; have a10 := i13; unfold In at a10; have a11 := t_add e13 h2 (in_c 1 rfl) rfl; have a12 := (in_c 1 rfl); unfold In at a12; omega) (by rw [← e5]; exact i264x10b) (by rw [show x2.toNatClampNeg + 1 = z13.toNatClampNeg from (by show x2.toInt.toNat + 1 = z13.toInt.toNat; have a0 := h2; unfold In at a0; have a1 := h1; unfold In at a1; have a2 := i301x8x10b; unfold In at a2; have a3 := i264x10b; unfold In at a3; have a4 := tx_i2l e301x1; have a5 := i294; unfold In at a5; have a6 := t_add e294 (in_c 320 rfl) i264x10b rfl; have a7 := (in_c 320 rfl); unfold In at a7; have a8 := tx_i2l e278; have a9 := tx_i2l e259; have a10 := i13; unfold In at a10; have a11 := t_add e13 h2 (in_c 1 rfl) rfl; have a12 := (in_c 1 rfl); unfold In at a12; omega), ← e14]; exact i301x8x10b)
                        exact g_ireturn (gd rfl) rfl (nb01 (in_w 0 1 (in_c 1 rfl) rfl)) (hP _ _ ⟨s, hI, fr_rf, (Int32.ofInt 1), rfl, rfl, in_w 0 1 (in_c 1 rfl) rfl, n312⟩)

/-- GraphHouseModel.shape -/
theorem k_301 {Z : AmZ} {A : Nat → Nat} {s : GS} {ex : va_W} {d : Nat} {X : AmX} {x1 : Int32} {x2 : Int32} (hd : 1 ≤ d) (hI : Inv s) (h1 : In x1 97 119) (h2 : In x2 0 5) : GC Z d 301 [.ref (A 109), .int x1, .int x2] (WW Z A s ++ ex) 0 0 (fun v u => ∃ z : Int32, v = some (.int z) ∧ u = WW Z A s ++ ex ∧ In z 1 3 ∧ (SHP (x1).toInt (x2).toInt (z).toInt)) X := by
  intro post xp hP hX
  refine g_enter2 (k := 301) (N := 900) (by omega) rfl (Nat.le_of_ble_eq_true rfl) ?_
  refine g_iload_n 1 (gd rfl) rfl rfl ?_
  refine g_lsw [(97, 46), (110, 36), (116, 66)] 77 (gd rfl) rfl rfl rfl ⟨fun c1 => ?_, fun c1_0 => ⟨fun c1 => ?_, fun c1_1 => ⟨fun c1 => ?_, fun c1_2 => ?_⟩⟩⟩
  · skip
    have i1 := sw_eq c1
    refine g_iload_n 47 (gd rfl) rfl rfl ?_
    refine g_iconst 4 48 (gd rfl) rfl rfl ?_
    refine g_cmp_ge 51 55 (gd rfl) rfl rfl (fun c48 => ?_) (fun c48 => ?_)
    · skip
      have i48 := r_le2 4 5 c48 (in_c 4 rfl) h2 rfl
      refine g_iload_n 56 (gd rfl) rfl rfl ?_
      refine g_iconst 4 57 (gd rfl) rfl rfl ?_
      refine g_cmp_ne 60 64 (gd rfl) rfl rfl (fun c57 => ?_) (fun c57 => ?_)
      · skip
        have i57 := r_ne1 5 5 c57 i48 (in_c 4 rfl) rfl
        refine g_iconst 3 65 (gd rfl) rfl rfl ?_
        have n65 : SHP (x1).toInt (x2).toInt ((Int32.ofInt 3)).toInt := by unfold SHP; refine ⟨fun h => ⟨fun h2 => ?_, fun h2 => ?_⟩, fun h => ⟨fun h2 => ?_, fun h2 => ?_, fun h2 => ?_⟩, fun h h2 => ⟨?_, fun h3 => ?_, fun h3 => ?_⟩⟩ <;> first | decide | (exfalso; have a0 := i57; unfold In at a0; have a1 := i1; unfold In at a1; omega) | (have a0 := i57; unfold In at a0; have a1 := i1; unfold In at a1; omega)
        exact g_ireturn (gd rfl) rfl rfl (hP _ _ ⟨(Int32.ofInt 3), rfl, rfl, in_w 1 3 (in_c 3 rfl) rfl, n65⟩)
      · skip
        have i57 := r_eq1 4 4 c57 i48 (in_c 4 rfl) rfl
        refine g_iconst 1 61 (gd rfl) rfl rfl ?_
        refine g_goto 65 (gd rfl) rfl ?_
        have n65 : SHP (x1).toInt (x2).toInt ((Int32.ofInt 1)).toInt := by unfold SHP; refine ⟨fun h => ⟨fun h2 => ?_, fun h2 => ?_⟩, fun h => ⟨fun h2 => ?_, fun h2 => ?_, fun h2 => ?_⟩, fun h h2 => ⟨?_, fun h3 => ?_, fun h3 => ?_⟩⟩ <;> first | decide | (exfalso; have a0 := i57; unfold In at a0; have a1 := i1; unfold In at a1; omega) | (have a0 := i57; unfold In at a0; have a1 := i1; unfold In at a1; omega)
        exact g_ireturn (gd rfl) rfl rfl (hP _ _ ⟨(Int32.ofInt 1), rfl, rfl, in_w 1 3 (in_c 1 rfl) rfl, n65⟩)
    · skip
      have i48 := r_lt1 0 3 c48 h2 (in_c 4 rfl) rfl
      refine g_iconst 2 52 (gd rfl) rfl rfl ?_
      refine g_goto 65 (gd rfl) rfl ?_
      have n65 : SHP (x1).toInt (x2).toInt ((Int32.ofInt 2)).toInt := by unfold SHP; refine ⟨fun h => ⟨fun h2 => ?_, fun h2 => ?_⟩, fun h => ⟨fun h2 => ?_, fun h2 => ?_, fun h2 => ?_⟩, fun h h2 => ⟨?_, fun h3 => ?_, fun h3 => ?_⟩⟩ <;> first | decide | (exfalso; have a0 := i48; unfold In at a0; have a1 := i1; unfold In at a1; omega) | (have a0 := i48; unfold In at a0; have a1 := i1; unfold In at a1; omega)
      exact g_ireturn (gd rfl) rfl rfl (hP _ _ ⟨(Int32.ofInt 2), rfl, rfl, in_w 1 3 (in_c 2 rfl) rfl, n65⟩)
  · skip
    have i1 := sw_eq c1
    refine g_iload_n 37 (gd rfl) rfl rfl ?_
    refine g_if_ne 40 44 (gd rfl) rfl rfl (fun c37 => ?_) (fun c37 => ?_)
    · skip
      have i37 := z_ne 1 5 c37 h2 rfl
      refine g_iconst 3 45 (gd rfl) rfl rfl ?_
      have n45 : SHP (x1).toInt (x2).toInt ((Int32.ofInt 3)).toInt := by unfold SHP; refine ⟨fun h => ⟨fun h2 => ?_, fun h2 => ?_⟩, fun h => ⟨fun h2 => ?_, fun h2 => ?_, fun h2 => ?_⟩, fun h h2 => ⟨?_, fun h3 => ?_, fun h3 => ?_⟩⟩ <;> first | decide | (exfalso; have a0 := i37; unfold In at a0; have a1 := i1; unfold In at a1; omega) | (have a0 := i37; unfold In at a0; have a1 := i1; unfold In at a1; omega)
      exact g_ireturn (gd rfl) rfl rfl (hP _ _ ⟨(Int32.ofInt 3), rfl, rfl, in_w 1 3 (in_c 3 rfl) rfl, n45⟩)
    · skip
      have i37 := z_eq 0 0 c37 h2 rfl
      refine g_iconst 1 41 (gd rfl) rfl rfl ?_
      refine g_goto 45 (gd rfl) rfl ?_
      have n45 : SHP (x1).toInt (x2).toInt ((Int32.ofInt 1)).toInt := by unfold SHP; refine ⟨fun h => ⟨fun h2 => ?_, fun h2 => ?_⟩, fun h => ⟨fun h2 => ?_, fun h2 => ?_, fun h2 => ?_⟩, fun h h2 => ⟨?_, fun h3 => ?_, fun h3 => ?_⟩⟩ <;> first | decide | (exfalso; have a0 := i37; unfold In at a0; have a1 := i1; unfold In at a1; omega) | (have a0 := i37; unfold In at a0; have a1 := i1; unfold In at a1; omega)
      exact g_ireturn (gd rfl) rfl rfl (hP _ _ ⟨(Int32.ofInt 1), rfl, rfl, in_w 1 3 (in_c 1 rfl) rfl, n45⟩)
  · skip
    have i1 := sw_eq c1
    refine g_iload_n 67 (gd rfl) rfl rfl ?_
    refine g_iconst 1 68 (gd rfl) rfl rfl ?_
    refine g_cmp_ge 71 75 (gd rfl) rfl rfl (fun c68 => ?_) (fun c68 => ?_)
    · skip
      have i68 := r_le2 1 5 c68 (in_c 1 rfl) h2 rfl
      refine g_iconst 3 76 (gd rfl) rfl rfl ?_
      have n76 : SHP (x1).toInt (x2).toInt ((Int32.ofInt 3)).toInt := by unfold SHP; refine ⟨fun h => ⟨fun h2 => ?_, fun h2 => ?_⟩, fun h => ⟨fun h2 => ?_, fun h2 => ?_, fun h2 => ?_⟩, fun h h2 => ⟨?_, fun h3 => ?_, fun h3 => ?_⟩⟩ <;> first | decide | (exfalso; have a0 := i68; unfold In at a0; have a1 := i1; unfold In at a1; omega) | (have a0 := i68; unfold In at a0; have a1 := i1; unfold In at a1; omega)
      exact g_ireturn (gd rfl) rfl rfl (hP _ _ ⟨(Int32.ofInt 3), rfl, rfl, in_w 1 3 (in_c 3 rfl) rfl, n76⟩)
    · skip
      have i68 := r_lt1 0 0 c68 h2 (in_c 1 rfl) rfl
      refine g_iconst 2 72 (gd rfl) rfl rfl ?_
      refine g_goto 76 (gd rfl) rfl ?_
      have n76 : SHP (x1).toInt (x2).toInt ((Int32.ofInt 2)).toInt := by unfold SHP; refine ⟨fun h => ⟨fun h2 => ?_, fun h2 => ?_⟩, fun h => ⟨fun h2 => ?_, fun h2 => ?_, fun h2 => ?_⟩, fun h h2 => ⟨?_, fun h3 => ?_, fun h3 => ?_⟩⟩ <;> first | decide | (exfalso; have a0 := i68; unfold In at a0; have a1 := i1; unfold In at a1; omega) | (have a0 := i68; unfold In at a0; have a1 := i1; unfold In at a1; omega)
      exact g_ireturn (gd rfl) rfl rfl (hP _ _ ⟨(Int32.ofInt 2), rfl, rfl, in_w 1 3 (in_c 2 rfl) rfl, n76⟩)
  · skip
    refine g_iload_n 78 (gd rfl) rfl rfl ?_
    refine g_iconst 2 79 (gd rfl) rfl rfl ?_
    refine g_cmp_ge 82 86 (gd rfl) rfl rfl (fun c79 => ?_) (fun c79 => ?_)
    · skip
      have i79 := r_le2 2 5 c79 (in_c 2 rfl) h2 rfl
      refine g_iconst 3 87 (gd rfl) rfl rfl ?_
      have n87 : SHP (x1).toInt (x2).toInt ((Int32.ofInt 3)).toInt := by unfold SHP; refine ⟨fun h => ⟨fun h2 => ?_, fun h2 => ?_⟩, fun h => ⟨fun h2 => ?_, fun h2 => ?_, fun h2 => ?_⟩, fun h h2 => ⟨?_, fun h3 => ?_, fun h3 => ?_⟩⟩ <;> first | decide | (exfalso; have a0 := i79; unfold In at a0; have a1 := h1; unfold In at a1; omega) | (have a0 := i79; unfold In at a0; have a1 := h1; unfold In at a1; omega)
      exact g_ireturn (gd rfl) rfl rfl (hP _ _ ⟨(Int32.ofInt 3), rfl, rfl, in_w 1 3 (in_c 3 rfl) rfl, n87⟩)
    · skip
      have i79 := r_lt1 0 1 c79 h2 (in_c 2 rfl) rfl
      refine g_iconst 2 83 (gd rfl) rfl rfl ?_
      refine g_goto 87 (gd rfl) rfl ?_
      have n87 : SHP (x1).toInt (x2).toInt ((Int32.ofInt 2)).toInt := by unfold SHP; refine ⟨fun h => ⟨fun h2 => ?_, fun h2 => ?_⟩, fun h => ⟨fun h2 => ?_, fun h2 => ?_, fun h2 => ?_⟩, fun h h2 => ⟨?_, fun h3 => ?_, fun h3 => ?_⟩⟩ <;> first | decide | (exfalso; have a0 := i79; unfold In at a0; have a1 := h1; unfold In at a1; omega) | (have a0 := i79; unfold In at a0; have a1 := h1; unfold In at a1; omega)
      exact g_ireturn (gd rfl) rfl rfl (hP _ _ ⟨(Int32.ofInt 2), rfl, rfl, in_w 1 3 (in_c 2 rfl) rfl, n87⟩)

def fm_274 : FM := ([110, 111, 112, 113, 114, 115, 116, 117, 118, 119, 120, 121, 122, 123, 124], [], [(109, 9), (109, 18), (109, 19), (109, 20)], [])
/-- GraphHouseModel.make -/
theorem k_274 {Z : AmZ} {A : Nat → Nat} {s : GS} {ex : va_W} {d : Nat} {X : AmX} {x1 : Int32} {x2 : Int32} {x3 : Int32} {x4 : Int32} {x5 : Int32} {x6 : Int32} {x7 : Int32} {u_109_9 : Int32} (hd : 2 ≤ d) (hI : Inv s) (h1 : In x1 0 4) (h2 : In x2 0 159) (h3 : In x3 0 31) (h4 : In x4 (-1000000) 1000000) (h5 : In x5 (-1000000) 1000000) (h6 : In x6 0 1000000) (h7 : In x7 0 25) (e_109_9 : u_109_9 = s.2.2.1 109 9) (r_109_9 : In u_109_9 0 3999) (q_0 : MK s x1 x2 x3 x4) : GC Z d 274 [.ref (A 109), .int x1, .int x2, .int x3, .int x4, .int x5, .int x6, .int x7] (WW Z A s ++ ex) 0 0 (fun v u => ∃ t : GS, Inv t ∧ Fr fm_274 s t ∧ ((t.2.2.1 109 9).toInt = (s.2.2.1 109 9).toInt + 1) ∧ v = none ∧ u = WW Z A t ++ ex ∧ (PMK s t (x1).toInt (x2).toNatClampNeg)) X := by
  intro post xp hP hX
  refine g_enter2 (k := 274) (N := 900) (by omega) rfl (Nat.le_of_ble_eq_true rfl) ?_
  refine g_aload_n 1 (gd rfl) rfl rfl ?_
  refine g_getA (q2 := 118) 4 (gd rfl) rfl rfl rfl rfl ?_
  refine g_aload_n 5 (gd rfl) rfl rfl ?_
  refine g_getI 8 (gd rfl) rfl rfl rfl (fun z5 e5 => ?_)
  have q5 : u_109_9 = z5 := (e_109_9).trans e5.symm
  subst q5
  refine g_iload_n 9 (gd rfl) rfl rfl ?_
  refine g_iastore 10 (gd rfl) rfl (n := 4000) rfl (in_ix r_109_9 rfl) ?_
  have hI9 := rng_sI (q := 118) (j := u_109_9.toNatClampNeg) hI.1 rfl (in_w 0 4 h1 rfl)
  refine g_aload_n 11 (gd rfl) rfl rfl ?_
  refine g_getA (q2 := 119) 14 (gd rfl) rfl rfl rfl rfl ?_
  refine g_aload_n 15 (gd rfl) rfl rfl ?_
  refine g_getI 18 (gd rfl) rfl rfl rfl (fun z15 e15 => ?_)
  have q15 : u_109_9 = z15 := (sI_F (e_109_9)).trans e15.symm
  subst q15
  refine g_iload_n 19 (gd rfl) rfl rfl ?_
  refine g_iastore 20 (gd rfl) rfl (n := 4000) rfl (in_ix r_109_9 rfl) ?_
  have hI19 := rng_sI (q := 119) (j := u_109_9.toNatClampNeg) hI9 rfl (in_w 0 159 h2 rfl)
  refine g_aload_n 21 (gd rfl) rfl rfl ?_
  refine g_getA (q2 := 120) 24 (gd rfl) rfl rfl rfl rfl ?_
  refine g_aload_n 25 (gd rfl) rfl rfl ?_
  refine g_getI 28 (gd rfl) rfl rfl rfl (fun z25 e25 => ?_)
  have q25 : u_109_9 = z25 := (sI_F (sI_F (e_109_9))).trans e25.symm
  subst q25
  refine g_iload_n 29 (gd rfl) rfl rfl ?_
  refine g_iastore 30 (gd rfl) rfl (n := 4000) rfl (in_ix r_109_9 rfl) ?_
  have hI29 := rng_sI (q := 120) (j := u_109_9.toNatClampNeg) hI19 rfl (in_w 0 31 h3 rfl)
  refine g_aload_n 31 (gd rfl) rfl rfl ?_
  refine g_getA (q2 := 121) 34 (gd rfl) rfl rfl rfl rfl ?_
  refine g_aload_n 35 (gd rfl) rfl rfl ?_
  refine g_getI 38 (gd rfl) rfl rfl rfl (fun z35 e35 => ?_)
  have q35 : u_109_9 = z35 := (sI_F (sI_F (sI_F (e_109_9)))).trans e35.symm
  subst q35
  refine g_iload 40 (gd rfl) rfl rfl ?_
  refine g_iastore 41 (gd rfl) rfl (n := 4000) rfl (in_ix r_109_9 rfl) ?_
  have hI40 := rng_sI (q := 121) (j := u_109_9.toNatClampNeg) hI29 rfl (in_w (-1000000) 1000000 h4 rfl)
  refine g_aload_n 42 (gd rfl) rfl rfl ?_
  refine g_getA (q2 := 122) 45 (gd rfl) rfl rfl rfl rfl ?_
  refine g_aload_n 46 (gd rfl) rfl rfl ?_
  refine g_getI 49 (gd rfl) rfl rfl rfl (fun z46 e46 => ?_)
  have q46 : u_109_9 = z46 := (sI_F (sI_F (sI_F (sI_F (e_109_9))))).trans e46.symm
  subst q46
  refine g_iload 51 (gd rfl) rfl rfl ?_
  refine g_iastore 52 (gd rfl) rfl (n := 4000) rfl (in_ix r_109_9 rfl) ?_
  have hI51 := rng_sI (q := 122) (j := u_109_9.toNatClampNeg) hI40 rfl (in_w (-1000000) 1000000 h5 rfl)
  refine g_aload_n 53 (gd rfl) rfl rfl ?_
  refine g_getA (q2 := 123) 56 (gd rfl) rfl rfl rfl rfl ?_
  refine g_aload_n 57 (gd rfl) rfl rfl ?_
  refine g_getI 60 (gd rfl) rfl rfl rfl (fun z57 e57 => ?_)
  have q57 : u_109_9 = z57 := (sI_F (sI_F (sI_F (sI_F (sI_F (e_109_9)))))).trans e57.symm
  subst q57
  refine g_iload 62 (gd rfl) rfl rfl ?_
  refine g_iastore 63 (gd rfl) rfl (n := 4000) rfl (in_ix r_109_9 rfl) ?_
  have hI62 := rng_sI (q := 123) (j := u_109_9.toNatClampNeg) hI51 rfl (in_w 0 1000000 h6 rfl)
  refine g_aload_n 64 (gd rfl) rfl rfl ?_
  refine g_getA (q2 := 124) 67 (gd rfl) rfl rfl rfl rfl ?_
  refine g_aload_n 68 (gd rfl) rfl rfl ?_
  refine g_getI 71 (gd rfl) rfl rfl rfl (fun z68 e68 => ?_)
  have q68 : u_109_9 = z68 := (sI_F (sI_F (sI_F (sI_F (sI_F (sI_F (e_109_9))))))).trans e68.symm
  subst q68
  refine g_iload 73 (gd rfl) rfl rfl ?_
  refine g_iastore 74 (gd rfl) rfl (n := 4000) rfl (in_ix r_109_9 rfl) ?_
  have hI73 := rng_sI (q := 124) (j := u_109_9.toNatClampNeg) hI62 rfl (in_w 0 25 h7 rfl)
  refine g_aload_n 75 (gd rfl) rfl rfl ?_
  refine g_aload_n 76 (gd rfl) rfl rfl ?_
  refine g_getI 79 (gd rfl) rfl rfl rfl (fun z76 e76 => ?_)
  have q76 : u_109_9 = z76 := (sI_F (sI_F (sI_F (sI_F (sI_F (sI_F (sI_F (e_109_9)))))))).trans e76.symm
  subst q76
  refine g_iconst 0 80 (gd rfl) rfl rfl ?_
  have p80 : AQ (sI (sI (sI (sI (sI (sI (sI s 118 u_109_9.toNatClampNeg x1) 119 u_109_9.toNatClampNeg x2) 120 u_109_9.toNatClampNeg x3) 121 u_109_9.toNatClampNeg x4) 122 u_109_9.toNatClampNeg x5) 123 u_109_9.toNatClampNeg x6) 124 u_109_9.toNatClampNeg x7) (u_109_9).toNatClampNeg ((Int32.ofInt 0)).toNatClampNeg := by exact mk_aq hI q_0 e_109_9 rfl rfl rfl rfl rfl
  refine g_callv (X := _) (As := [.int u_109_9, .int (Int32.ofInt 0)]) (r := []) (b := A 109) (q := 109) 83 (gd rfl) rfl rfl rfl rfl rfl (ww_o rfl) (Nat.le_of_ble_eq_true rfl) (Nat.zero_le _) (Nat.zero_le _) (k_275 (by omega) hI73 (in_w 0 3999 r_109_9 rfl) (in_w 0 1 (in_c 0 rfl) rfl) p80) (fun e u h => h) (fun v u h => ?_)
  obtain ⟨s80, hI80, hF80, rfl, rfl, p80a, p80b⟩ := h
  show GG _ _ _ _ _ _ _ _ [] _ _ _
  refine g_aload_n 84 (gd rfl) rfl rfl ?_
  refine g_dup 85 (gd rfl) rfl rfl ?_
  refine g_getI 88 (gd rfl) rfl rfl rfl (fun z85 e85 => ?_)
  have q85 : u_109_9 = z85 := (fr_F (s := (sI (sI (sI (sI (sI (sI (sI s 118 u_109_9.toNatClampNeg x1) 119 u_109_9.toNatClampNeg x2) 120 u_109_9.toNatClampNeg x3) 121 u_109_9.toNatClampNeg x4) 122 u_109_9.toNatClampNeg x5) 123 u_109_9.toNatClampNeg x6) 124 u_109_9.toNatClampNeg x7)) (sI_F (sI_F (sI_F (sI_F (sI_F (sI_F (sI_F (e_109_9)))))))) hF80 rfl).trans e85.symm
  subst q85
  refine g_iconst 1 89 (gd rfl) rfl rfl ?_
  refine g_iadd 90 (gd rfl) rfl (fun z89 e89 => ?_)
  have i89 := in_add 1 4000 e89 r_109_9 (in_c 1 rfl) rfl rfl
  refine g_putI 93 (gd rfl) rfl rfl rfl rfl ?_
  have hI90 := rng_sF (q := 109) (j := 9) hI80 rfl (in_w 0 4000 i89 rfl)
  refine g_aload_n 94 (gd rfl) rfl rfl ?_
  have p94 : In ((sF s80 109 9 z89).1 110 0) 0 32 ∧ In ((sF s80 109 9 z89).1 110 1) 0 32 := by exact mk_nn hI p80 p80a rfl
  refine g_callv (X := _) (As := []) (r := []) (b := A 109) (q := 109) 97 (gd rfl) rfl rfl rfl rfl rfl (ww_o rfl) (Nat.le_of_ble_eq_true rfl) (Nat.zero_le _) (Nat.zero_le _) (k_276 (by omega) hI90 p94) (fun e u h => h) (fun v u h => ?_)
  obtain ⟨s94, hI94, hF94, rfl, rfl, p94a⟩ := h
  show GG _ _ _ _ _ _ _ _ [] _ _ _
  have hI97 : Inv s94 := by have hFF : Fr fm_274 s s94 := (fr_tr rfl (fr_sF rfl (fr_tr rfl (fr_sI rfl (fr_sI rfl (fr_sI rfl (fr_sI rfl (fr_sI rfl (fr_sI rfl (fr_sI rfl fr_rf))))))) hF80)) hF94); exact ⟨hI94, kk_g hI.2.1 hFF rfl rfl rfl rfl rfl, kk_g hI.2.2.1 hFF rfl rfl rfl rfl rfl, kk_s hI.2.2.2.1 hFF rfl, mk_kr hI e_109_9 r_109_9 p80 rfl rfl rfl rfl rfl rfl rfl rfl p80a (hF80.1 118 rfl) (hF80.1 119 rfl) (hF80.1 120 rfl) (hF80.1 121 rfl) (funext fun q => hF94.1 q rfl) (fr_F (s := sF s80 109 9 z89) sF_get hF94 rfl) (t_add e89 r_109_9 (in_c 1 rfl) rfl) p94a⟩
  have n97 : PMK s s94 (x1).toInt (x2).toNatClampNeg := by exact pmk_i p80 p80a p80b rfl rfl rfl rfl (funext fun q => hF94.1 q rfl)
  have n97a : (z89).toInt = (u_109_9).toInt + 1 := by have a0 := r_109_9; unfold In at a0; have a1 := h7; unfold In at a1; have a2 := h6; unfold In at a2; have a3 := h5; unfold In at a3; have a4 := h4; unfold In at a4; have a5 := h3; unfold In at a5; have a6 := h2; unfold In at a6; have a7 := h1; unfold In at a7; have a8 := i89; unfold In at a8; have a9 := t_add e89 r_109_9 (in_c 1 rfl) rfl; have a10 := (in_c 1 rfl); unfold In at a10; omega
  have n97b : (s94.2.2.1 109 9).toInt = (s.2.2.1 109 9).toInt + 1 := by have b0 : z89 = s94.2.2.1 109 9 := fr_F (s := (sF s80 109 9 z89)) (sF_get) hF94 rfl; rw [← b0, ← e_109_9]; exact n97a
  exact g_return (gd rfl) rfl (hP _ _ ⟨s94, hI97, (fr_tr rfl (fr_sF rfl (fr_tr rfl (fr_sI rfl (fr_sI rfl (fr_sI rfl (fr_sI rfl (fr_sI rfl (fr_sI rfl (fr_sI rfl fr_rf))))))) hF80)) hF94), n97b, rfl, rfl, n97⟩)

def fm_300 : FM := ([], [], [(109, 23), (109, 24), (109, 27)], [(109, 31)])
/-- GraphHouseModel.readNumber -/
theorem k_300 {Z : AmZ} {A : Nat → Nat} {s : GS} {ex : va_W} {d : Nat} {X : AmX} {x1 : Int32} {u_109_27 : Int32} {u_109_22 : Int32} (hd : 3 ≤ d) (hI : Inv s) (h1 : In x1 6 7) (e_109_27 : u_109_27 = s.2.2.1 109 27) (e_109_22 : u_109_22 = s.2.2.1 109 22) (p_0 : (u_109_27).toInt < (u_109_22).toInt) (q_0 : 48 ≤ (s.1 125 (s.2.2.1 109 27).toNatClampNeg).toInt ∧ (s.1 125 (s.2.2.1 109 27).toNatClampNeg).toInt ≤ 57) : GC Z d 300 [.ref (A 109), .int x1] (WW Z A s ++ ex) 0 0 (fun v u => ∃ t : GS, Inv t ∧ Fr fm_300 s t ∧ ((t.2.2.1 109 27).toInt ≤ (t.2.2.1 109 22).toInt) ∧ ((s.2.2.1 109 27).toInt + 1 ≤ (t.2.2.1 109 27).toInt) ∧ v = none ∧ u = WW Z A t ++ ex) X := by
  intro post xp hP hX
  have ro_109_22 := inv_F hI 0 1000 rfl e_109_22
  obtain ⟨u_109_29, e_109_29⟩ : ∃ w, w = s.2.2.1 109 29 := ⟨_, rfl⟩
  have ro_109_29 := inv_F hI 0 1000 rfl e_109_29
  have ct10 : ∀ (k10 : Nat) (sc10 : GS) (y10_2 : Int32) (w10_109_27 : Int32), Inv sc10 → Fr fm_300 s sc10 → (In y10_2 0 1000) → (w10_109_27 = sc10.2.2.1 109 27) → ((w10_109_27).toInt ≤ (u_109_22).toInt) → ((u_109_27).toInt ≤ (w10_109_27).toInt) → (u_109_22).toInt - (w10_109_27).toInt < (k10 : Int) → GG Z (d - 1) 300 post (gx xp) (1 + k10 * 900) 10 (fun j => xlook j [(0, .ref (A 109)), (1, .int x1), (2, .int y10_2)]) [] (WW Z A sc10 ++ ex) 0 0 := by
    intro k10
    induction k10 with
    | zero => intro sc10 y10_2 w10_109_27 hIc10 hFc10 j10_2 v10_109_27 n10_0 n10_1 mm10; exfalso; have a0 := h1; unfold In at a0; have a1 := ro_109_29; unfold In at a1; have a2 := ro_109_22; unfold In at a2; have a3 := (inv_F hIc10 0 1000 rfl v10_109_27); unfold In at a3; have a4 := j10_2; unfold In at a4; omega
    | succ k10 ih10 =>
      intro sc10 y10_2 w10_109_27 hIc10 hFc10 j10_2 v10_109_27 n10_0 n10_1 mm10
      refine gg_w (M := 1 + k10 * 900 + 900) (by omega) ?_
      refine g_aload_n 11 (gd rfl) rfl rfl ?_
      refine g_getI 14 (gd rfl) rfl rfl rfl (fun z11 e11 => ?_)
      have q11 : w10_109_27 = z11 := (v10_109_27).trans e11.symm
      subst q11
      refine g_aload_n 15 (gd rfl) rfl rfl ?_
      refine g_getI 18 (gd rfl) rfl rfl rfl (fun z15 e15 => ?_)
      have q15 : u_109_22 = z15 := (fr_F e_109_22 hFc10 rfl).trans e15.symm
      subst q15
      refine g_cmp_ge 21 93 (gd rfl) rfl rfl (fun c18 => ?_) (fun c18 => ?_)
      · skip
        have hq93 : (u_109_27).toInt + 1 ≤ (w10_109_27).toInt := (by first | (have a0 := h1; unfold In at a0; have a1 := ro_109_29; unfold In at a1; have a2 := ro_109_22; unfold In at a2; have a3 := (inv_F hIc10 0 1000 rfl v10_109_27); unfold In at a3; have a4 := j10_2; unfold In at a4; omega) | (have hi := i30x3; unfold In at hi; have a0 := h1; unfold In at a0; have a1 := ro_109_29; unfold In at a1; have a2 := ro_109_22; unfold In at a2; have a3 := (inv_F hIc10 0 1000 rfl v10_109_27); unfold In at a3; have a4 := j10_2; unfold In at a4; omega) | (have hi := i30x9; unfold In at hi; have a0 := h1; unfold In at a0; have a1 := ro_109_29; unfold In at a1; have a2 := ro_109_22; unfold In at a2; have a3 := (inv_F hIc10 0 1000 rfl v10_109_27); unfold In at a3; have a4 := j10_2; unfold In at a4; omega))
        refine g_aload_n 94 (gd rfl) rfl rfl ?_
        refine g_getI 97 (gd rfl) rfl rfl rfl (fun z94 e94 => ?_)
        have q94 : w10_109_27 = z94 := (v10_109_27).trans e94.symm
        subst q94
        refine g_iload_n 98 (gd rfl) rfl rfl ?_
        refine g_isub 99 (gd rfl) rfl (fun z98 e98 => ?_)
        have i98 := in_sub (-1000) 1000 e98 (inv_F hIc10 0 1000 rfl v10_109_27) j10_2 rfl rfl
        refine g_iload_n 100 (gd rfl) rfl rfl ?_
        refine g_cmp_le 103 122 (gd rfl) rfl rfl (fun c100 => ?_) (fun c100 => ?_)
        · skip
          have i100 := r_le1 (-1000) 7 c100 i98 h1 rfl
          have n122 : (w10_109_27).toInt ≤ (u_109_22).toInt := by have a0 := h1; unfold In at a0; have a1 := ro_109_29; unfold In at a1; have a2 := ro_109_22; unfold In at a2; have a3 := (inv_F hIc10 0 1000 rfl v10_109_27); unfold In at a3; have a4 := j10_2; unfold In at a4; have a5 := i100; unfold In at a5; have a6 := t_sub e98 (inv_F hIc10 0 1000 rfl v10_109_27) j10_2 rfl; omega
          have n122a : (sc10.2.2.1 109 27).toInt ≤ (sc10.2.2.1 109 22).toInt := by have b0 : w10_109_27 = sc10.2.2.1 109 27 := v10_109_27; have b1 : u_109_22 = sc10.2.2.1 109 22 := fr_F e_109_22 hFc10 rfl; rw [← b0, ← b1]; exact n122
          have n122b : (u_109_27).toInt + 1 ≤ (w10_109_27).toInt := by have a0 := h1; unfold In at a0; have a1 := ro_109_29; unfold In at a1; have a2 := ro_109_22; unfold In at a2; have a3 := (inv_F hIc10 0 1000 rfl v10_109_27); unfold In at a3; have a4 := j10_2; unfold In at a4; have a5 := i100; unfold In at a5; have a6 := t_sub e98 (inv_F hIc10 0 1000 rfl v10_109_27) j10_2 rfl; omega
          have n122c : (s.2.2.1 109 27).toInt + 1 ≤ (sc10.2.2.1 109 27).toInt := by have b0 : w10_109_27 = sc10.2.2.1 109 27 := v10_109_27; rw [← b0, ← e_109_27]; exact n122b
          exact g_return (gd rfl) rfl (hP _ _ ⟨sc10, hIc10, hFc10, n122a, n122c, rfl, rfl⟩)
        · skip
          have i100 := r_lt2 7 1000 c100 h1 i98 rfl
          refine g_aload_n 104 (gd rfl) rfl rfl ?_
          refine g_iload_n 105 (gd rfl) rfl rfl ?_
          refine g_bipush 7 107 (gd rfl) rfl rfl ?_
          refine g_cmp_ne 110 114 (gd rfl) rfl rfl (fun c107 => ?_) (fun c107 => ?_)
          · skip
            have i107 := r_ne1 6 6 c107 h1 (in_c 7 rfl) rfl
            refine g_iconst 4 115 (gd rfl) rfl rfl ?_
            refine g_aload_n 116 (gd rfl) rfl rfl ?_
            refine g_getI 119 (gd rfl) rfl rfl rfl (fun z116 e116 => ?_)
            have q116 : u_109_29 = z116 := (fr_F e_109_29 hFc10 rfl).trans e116.symm
            subst q116
            refine g_callv (X := _) (As := [.int (Int32.ofInt 4), .int u_109_29]) (r := []) (b := A 109) (q := 109) 122 (gd rfl) rfl rfl rfl rfl rfl (ww_o rfl) (Nat.le_of_ble_eq_true rfl) (Nat.zero_le _) (Nat.zero_le _) (k_298 (by omega) hIc10 (in_w 1 5 (in_c 4 rfl) rfl)) (fun e u h => h) (fun v u h => ?_)
            obtain ⟨s119, hI119, hF119, n119, rfl, rfl⟩ := h
            obtain ⟨z119a, e119⟩ : ∃ w, w = s119.2.2.1 109 23 := ⟨_, rfl⟩
            have i119a := inv_F hI119 0 9 rfl e119
            rw [← (show z119a = s119.2.2.1 109 23 from e119)] at n119
            show GG _ _ _ _ _ _ _ _ [] _ _ _
            have n122 : (w10_109_27).toInt ≤ (u_109_22).toInt := by have a0 := i107; unfold In at a0; have a1 := ro_109_29; unfold In at a1; have a2 := ro_109_22; unfold In at a2; have a3 := (inv_F hIc10 0 1000 rfl v10_109_27); unfold In at a3; have a4 := j10_2; unfold In at a4; have a5 := i119a; unfold In at a5; have a6 := i100; unfold In at a6; have a7 := t_sub e98 (inv_F hIc10 0 1000 rfl v10_109_27) j10_2 rfl; omega
            have n122a : (s119.2.2.1 109 27).toInt ≤ (s119.2.2.1 109 22).toInt := by have b0 : w10_109_27 = s119.2.2.1 109 27 := fr_F (v10_109_27) hF119 rfl; have b1 : u_109_22 = s119.2.2.1 109 22 := fr_F (fr_F e_109_22 hFc10 rfl) hF119 rfl; rw [← b0, ← b1]; exact n122
            have n122b : (u_109_27).toInt + 1 ≤ (w10_109_27).toInt := by have a0 := i107; unfold In at a0; have a1 := ro_109_29; unfold In at a1; have a2 := ro_109_22; unfold In at a2; have a3 := (inv_F hIc10 0 1000 rfl v10_109_27); unfold In at a3; have a4 := j10_2; unfold In at a4; have a5 := i119a; unfold In at a5; have a6 := i100; unfold In at a6; have a7 := t_sub e98 (inv_F hIc10 0 1000 rfl v10_109_27) j10_2 rfl; omega
            have n122c : (s.2.2.1 109 27).toInt + 1 ≤ (s119.2.2.1 109 27).toInt := by have b0 : w10_109_27 = s119.2.2.1 109 27 := fr_F (v10_109_27) hF119 rfl; rw [← b0, ← e_109_27]; exact n122b
            exact g_return (gd rfl) rfl (hP _ _ ⟨s119, hI119, (fr_tr rfl hFc10 hF119), n122a, n122c, rfl, rfl⟩)
          · skip
            have i107 := r_eq1 7 7 c107 h1 (in_c 7 rfl) rfl
            refine g_iconst 3 111 (gd rfl) rfl rfl ?_
            refine g_goto 115 (gd rfl) rfl ?_
            refine g_aload_n 116 (gd rfl) rfl rfl ?_
            refine g_getI 119 (gd rfl) rfl rfl rfl (fun z116 e116 => ?_)
            have q116 : u_109_29 = z116 := (fr_F e_109_29 hFc10 rfl).trans e116.symm
            subst q116
            refine g_callv (X := _) (As := [.int (Int32.ofInt 3), .int u_109_29]) (r := []) (b := A 109) (q := 109) 122 (gd rfl) rfl rfl rfl rfl rfl (ww_o rfl) (Nat.le_of_ble_eq_true rfl) (Nat.zero_le _) (Nat.zero_le _) (k_298 (by omega) hIc10 (in_w 1 5 (in_c 3 rfl) rfl)) (fun e u h => h) (fun v u h => ?_)
            obtain ⟨s119, hI119, hF119, n119, rfl, rfl⟩ := h
            obtain ⟨z119a, e119⟩ : ∃ w, w = s119.2.2.1 109 23 := ⟨_, rfl⟩
            have i119a := inv_F hI119 0 9 rfl e119
            rw [← (show z119a = s119.2.2.1 109 23 from e119)] at n119
            show GG _ _ _ _ _ _ _ _ [] _ _ _
            have n122 : (w10_109_27).toInt ≤ (u_109_22).toInt := by have a0 := i107; unfold In at a0; have a1 := ro_109_29; unfold In at a1; have a2 := ro_109_22; unfold In at a2; have a3 := (inv_F hIc10 0 1000 rfl v10_109_27); unfold In at a3; have a4 := j10_2; unfold In at a4; have a5 := i119a; unfold In at a5; have a6 := i100; unfold In at a6; have a7 := t_sub e98 (inv_F hIc10 0 1000 rfl v10_109_27) j10_2 rfl; omega
            have n122a : (s119.2.2.1 109 27).toInt ≤ (s119.2.2.1 109 22).toInt := by have b0 : w10_109_27 = s119.2.2.1 109 27 := fr_F (v10_109_27) hF119 rfl; have b1 : u_109_22 = s119.2.2.1 109 22 := fr_F (fr_F e_109_22 hFc10 rfl) hF119 rfl; rw [← b0, ← b1]; exact n122
            have n122b : (u_109_27).toInt + 1 ≤ (w10_109_27).toInt := by have a0 := i107; unfold In at a0; have a1 := ro_109_29; unfold In at a1; have a2 := ro_109_22; unfold In at a2; have a3 := (inv_F hIc10 0 1000 rfl v10_109_27); unfold In at a3; have a4 := j10_2; unfold In at a4; have a5 := i119a; unfold In at a5; have a6 := i100; unfold In at a6; have a7 := t_sub e98 (inv_F hIc10 0 1000 rfl v10_109_27) j10_2 rfl; omega
            have n122c : (s.2.2.1 109 27).toInt + 1 ≤ (s119.2.2.1 109 27).toInt := by have b0 : w10_109_27 = s119.2.2.1 109 27 := fr_F (v10_109_27) hF119 rfl; rw [← b0, ← e_109_27]; exact n122b
            exact g_return (gd rfl) rfl (hP _ _ ⟨s119, hI119, (fr_tr rfl hFc10 hF119), n122a, n122c, rfl, rfl⟩)
      · skip
        have i18 := r_lt1 0 999 c18 (inv_F hIc10 0 1000 rfl v10_109_27) ro_109_22 rfl
        have i18a := r_lt2 1 1000 c18 (inv_F hIc10 0 1000 rfl v10_109_27) ro_109_22 rfl
        refine g_aload_n 22 (gd rfl) rfl rfl ?_
        refine g_getA (q2 := 125) 25 (gd rfl) rfl rfl rfl rfl ?_
        refine g_aload_n 26 (gd rfl) rfl rfl ?_
        refine g_getI 29 (gd rfl) rfl rfl rfl (fun z26 e26 => ?_)
        have q26 : w10_109_27 = z26 := (v10_109_27).trans e26.symm
        subst q26
        refine g_iaload 30 (gd rfl) rfl (n := 1000) rfl (in_ix i18 rfl) (fun z29 e29 => ?_)
        have i29 := inv_I hIc10 (n := 1000) (t := 0) 0 126 rfl (in_ix i18 rfl) rfl e29
        have hd : w10_109_27.toInt = u_109_27.toInt → 48 ≤ (z29).toInt ∧ (z29).toInt ≤ 57 := (fun h => by rw [e29, Int32.toInt_inj.mp h, hFc10.1 125 rfl, e_109_27]; exact q_0)
        refine g_calls (As := [.int z29]) (r := []) 33 (gd rfl) rfl rfl rfl rfl rfl (Nat.le_of_ble_eq_true rfl) (mc := 0) (ms := 0) (Nat.zero_le _) (Nat.zero_le _) (P := fun v u => _) ?_ (fun v u h => h)
        intro po30 xx30 hp30 hx30
        refine g_enter2 (k := 297) (N := 300) (by omega) rfl (Nat.le_of_ble_eq_true rfl) ?_
        refine g_iload_n 1 (gd rfl) rfl rfl ?_
        refine g_bipush 48 3 (gd rfl) rfl rfl ?_
        refine g_cmp_lt 6 16 (gd rfl) rfl rfl (fun c30x3 => ?_) (fun c30x3 => ?_)
        · skip
          have i30x3 := r_lt1 0 47 c30x3 i29 (in_c 48 rfl) rfl
          refine g_iconst 0 17 (gd rfl) rfl rfl ?_
          refine g_ireturn (gd rfl) rfl (nb01 (in_w 0 1 (in_c 0 rfl) rfl)) (hp30 _ _ ?_)
          show GG _ _ _ _ _ _ _ _ [.int (Int32.ofInt 0)] _ _ _
          refine g_if_eq 36 93 (gd rfl) rfl rfl (fun c33 => ?_) (fun c33 => ?_)
          · skip
            have hq93 : (u_109_27).toInt + 1 ≤ (w10_109_27).toInt := (by first | (have a0 := h1; unfold In at a0; have a1 := ro_109_29; unfold In at a1; have a2 := i18a; unfold In at a2; have a3 := i18; unfold In at a3; have a4 := j10_2; unfold In at a4; omega) | (have hi := i30x3; unfold In at hi; have a0 := h1; unfold In at a0; have a1 := ro_109_29; unfold In at a1; have a2 := i18a; unfold In at a2; have a3 := i18; unfold In at a3; have a4 := j10_2; unfold In at a4; omega) | (have hi := i30x9; unfold In at hi; have a0 := h1; unfold In at a0; have a1 := ro_109_29; unfold In at a1; have a2 := i18a; unfold In at a2; have a3 := i18; unfold In at a3; have a4 := j10_2; unfold In at a4; omega))
            refine g_aload_n 94 (gd rfl) rfl rfl ?_
            refine g_getI 97 (gd rfl) rfl rfl rfl (fun z94 e94 => ?_)
            have q94 : w10_109_27 = z94 := (v10_109_27).trans e94.symm
            subst q94
            refine g_iload_n 98 (gd rfl) rfl rfl ?_
            refine g_isub 99 (gd rfl) rfl (fun z98 e98 => ?_)
            have i98 := in_sub (-1000) 999 e98 i18 j10_2 rfl rfl
            refine g_iload_n 100 (gd rfl) rfl rfl ?_
            refine g_cmp_le 103 122 (gd rfl) rfl rfl (fun c100 => ?_) (fun c100 => ?_)
            · skip
              have i100 := r_le1 (-1000) 7 c100 i98 h1 rfl
              have n122 : (w10_109_27).toInt ≤ (u_109_22).toInt := by have a0 := h1; unfold In at a0; have a1 := ro_109_29; unfold In at a1; have a2 := i18a; unfold In at a2; have a3 := i18; unfold In at a3; have a4 := j10_2; unfold In at a4; have a5 := i100; unfold In at a5; have a6 := t_sub e98 i18 j10_2 rfl; omega
              have n122a : (sc10.2.2.1 109 27).toInt ≤ (sc10.2.2.1 109 22).toInt := by have b0 : w10_109_27 = sc10.2.2.1 109 27 := v10_109_27; have b1 : u_109_22 = sc10.2.2.1 109 22 := fr_F e_109_22 hFc10 rfl; rw [← b0, ← b1]; exact n122
              have n122b : (u_109_27).toInt + 1 ≤ (w10_109_27).toInt := by have a0 := h1; unfold In at a0; have a1 := ro_109_29; unfold In at a1; have a2 := i18a; unfold In at a2; have a3 := i18; unfold In at a3; have a4 := j10_2; unfold In at a4; have a5 := i100; unfold In at a5; have a6 := t_sub e98 i18 j10_2 rfl; omega
              have n122c : (s.2.2.1 109 27).toInt + 1 ≤ (sc10.2.2.1 109 27).toInt := by have b0 : w10_109_27 = sc10.2.2.1 109 27 := v10_109_27; rw [← b0, ← e_109_27]; exact n122b
              exact g_return (gd rfl) rfl (hP _ _ ⟨sc10, hIc10, hFc10, n122a, n122c, rfl, rfl⟩)
            · skip
              have i100 := r_lt2 7 999 c100 h1 i98 rfl
              refine g_aload_n 104 (gd rfl) rfl rfl ?_
              refine g_iload_n 105 (gd rfl) rfl rfl ?_
              refine g_bipush 7 107 (gd rfl) rfl rfl ?_
              refine g_cmp_ne 110 114 (gd rfl) rfl rfl (fun c107 => ?_) (fun c107 => ?_)
              · skip
                have i107 := r_ne1 6 6 c107 h1 (in_c 7 rfl) rfl
                refine g_iconst 4 115 (gd rfl) rfl rfl ?_
                refine g_aload_n 116 (gd rfl) rfl rfl ?_
                refine g_getI 119 (gd rfl) rfl rfl rfl (fun z116 e116 => ?_)
                have q116 : u_109_29 = z116 := (fr_F e_109_29 hFc10 rfl).trans e116.symm
                subst q116
                refine g_callv (X := _) (As := [.int (Int32.ofInt 4), .int u_109_29]) (r := []) (b := A 109) (q := 109) 122 (gd rfl) rfl rfl rfl rfl rfl (ww_o rfl) (Nat.le_of_ble_eq_true rfl) (Nat.zero_le _) (Nat.zero_le _) (k_298 (by omega) hIc10 (in_w 1 5 (in_c 4 rfl) rfl)) (fun e u h => h) (fun v u h => ?_)
                obtain ⟨s119, hI119, hF119, n119, rfl, rfl⟩ := h
                obtain ⟨z119a, e119⟩ : ∃ w, w = s119.2.2.1 109 23 := ⟨_, rfl⟩
                have i119a := inv_F hI119 0 9 rfl e119
                rw [← (show z119a = s119.2.2.1 109 23 from e119)] at n119
                show GG _ _ _ _ _ _ _ _ [] _ _ _
                have n122 : (w10_109_27).toInt ≤ (u_109_22).toInt := by have a0 := i107; unfold In at a0; have a1 := ro_109_29; unfold In at a1; have a2 := i18a; unfold In at a2; have a3 := i18; unfold In at a3; have a4 := j10_2; unfold In at a4; have a5 := i119a; unfold In at a5; have a6 := i100; unfold In at a6; have a7 := t_sub e98 i18 j10_2 rfl; omega
                have n122a : (s119.2.2.1 109 27).toInt ≤ (s119.2.2.1 109 22).toInt := by have b0 : w10_109_27 = s119.2.2.1 109 27 := fr_F (v10_109_27) hF119 rfl; have b1 : u_109_22 = s119.2.2.1 109 22 := fr_F (fr_F e_109_22 hFc10 rfl) hF119 rfl; rw [← b0, ← b1]; exact n122
                have n122b : (u_109_27).toInt + 1 ≤ (w10_109_27).toInt := by have a0 := i107; unfold In at a0; have a1 := ro_109_29; unfold In at a1; have a2 := i18a; unfold In at a2; have a3 := i18; unfold In at a3; have a4 := j10_2; unfold In at a4; have a5 := i119a; unfold In at a5; have a6 := i100; unfold In at a6; have a7 := t_sub e98 i18 j10_2 rfl; omega
                have n122c : (s.2.2.1 109 27).toInt + 1 ≤ (s119.2.2.1 109 27).toInt := by have b0 : w10_109_27 = s119.2.2.1 109 27 := fr_F (v10_109_27) hF119 rfl; rw [← b0, ← e_109_27]; exact n122b
                exact g_return (gd rfl) rfl (hP _ _ ⟨s119, hI119, (fr_tr rfl hFc10 hF119), n122a, n122c, rfl, rfl⟩)
              · skip
                have i107 := r_eq1 7 7 c107 h1 (in_c 7 rfl) rfl
                refine g_iconst 3 111 (gd rfl) rfl rfl ?_
                refine g_goto 115 (gd rfl) rfl ?_
                refine g_aload_n 116 (gd rfl) rfl rfl ?_
                refine g_getI 119 (gd rfl) rfl rfl rfl (fun z116 e116 => ?_)
                have q116 : u_109_29 = z116 := (fr_F e_109_29 hFc10 rfl).trans e116.symm
                subst q116
                refine g_callv (X := _) (As := [.int (Int32.ofInt 3), .int u_109_29]) (r := []) (b := A 109) (q := 109) 122 (gd rfl) rfl rfl rfl rfl rfl (ww_o rfl) (Nat.le_of_ble_eq_true rfl) (Nat.zero_le _) (Nat.zero_le _) (k_298 (by omega) hIc10 (in_w 1 5 (in_c 3 rfl) rfl)) (fun e u h => h) (fun v u h => ?_)
                obtain ⟨s119, hI119, hF119, n119, rfl, rfl⟩ := h
                obtain ⟨z119a, e119⟩ : ∃ w, w = s119.2.2.1 109 23 := ⟨_, rfl⟩
                have i119a := inv_F hI119 0 9 rfl e119
                rw [← (show z119a = s119.2.2.1 109 23 from e119)] at n119
                show GG _ _ _ _ _ _ _ _ [] _ _ _
                have n122 : (w10_109_27).toInt ≤ (u_109_22).toInt := by have a0 := i107; unfold In at a0; have a1 := ro_109_29; unfold In at a1; have a2 := i18a; unfold In at a2; have a3 := i18; unfold In at a3; have a4 := j10_2; unfold In at a4; have a5 := i119a; unfold In at a5; have a6 := i100; unfold In at a6; have a7 := t_sub e98 i18 j10_2 rfl; omega
                have n122a : (s119.2.2.1 109 27).toInt ≤ (s119.2.2.1 109 22).toInt := by have b0 : w10_109_27 = s119.2.2.1 109 27 := fr_F (v10_109_27) hF119 rfl; have b1 : u_109_22 = s119.2.2.1 109 22 := fr_F (fr_F e_109_22 hFc10 rfl) hF119 rfl; rw [← b0, ← b1]; exact n122
                have n122b : (u_109_27).toInt + 1 ≤ (w10_109_27).toInt := by have a0 := i107; unfold In at a0; have a1 := ro_109_29; unfold In at a1; have a2 := i18a; unfold In at a2; have a3 := i18; unfold In at a3; have a4 := j10_2; unfold In at a4; have a5 := i119a; unfold In at a5; have a6 := i100; unfold In at a6; have a7 := t_sub e98 i18 j10_2 rfl; omega
                have n122c : (s.2.2.1 109 27).toInt + 1 ≤ (s119.2.2.1 109 27).toInt := by have b0 : w10_109_27 = s119.2.2.1 109 27 := fr_F (v10_109_27) hF119 rfl; rw [← b0, ← e_109_27]; exact n122b
                exact g_return (gd rfl) rfl (hP _ _ ⟨s119, hI119, (fr_tr rfl hFc10 hF119), n122a, n122c, rfl, rfl⟩)
          · skip
            exact zn_ne c33 (in_c 0 rfl) rfl
        · skip
          have i30x3 := r_le2 48 126 c30x3 (in_c 48 rfl) i29 rfl
          refine g_iload_n 7 (gd rfl) rfl rfl ?_
          refine g_bipush 57 9 (gd rfl) rfl rfl ?_
          refine g_cmp_gt 12 16 (gd rfl) rfl rfl (fun c30x9 => ?_) (fun c30x9 => ?_)
          · skip
            have i30x9 := r_lt2 58 126 c30x9 (in_c 57 rfl) i30x3 rfl
            refine g_iconst 0 17 (gd rfl) rfl rfl ?_
            refine g_ireturn (gd rfl) rfl (nb01 (in_w 0 1 (in_c 0 rfl) rfl)) (hp30 _ _ ?_)
            show GG _ _ _ _ _ _ _ _ [.int (Int32.ofInt 0)] _ _ _
            refine g_if_eq 36 93 (gd rfl) rfl rfl (fun c33 => ?_) (fun c33 => ?_)
            · skip
              have hq93 : (u_109_27).toInt + 1 ≤ (w10_109_27).toInt := (by first | (have a0 := h1; unfold In at a0; have a1 := ro_109_29; unfold In at a1; have a2 := i18a; unfold In at a2; have a3 := i18; unfold In at a3; have a4 := j10_2; unfold In at a4; omega) | (have hi := i30x3; unfold In at hi; have a0 := h1; unfold In at a0; have a1 := ro_109_29; unfold In at a1; have a2 := i18a; unfold In at a2; have a3 := i18; unfold In at a3; have a4 := j10_2; unfold In at a4; omega) | (have hi := i30x9; unfold In at hi; have a0 := h1; unfold In at a0; have a1 := ro_109_29; unfold In at a1; have a2 := i18a; unfold In at a2; have a3 := i18; unfold In at a3; have a4 := j10_2; unfold In at a4; omega))
              refine g_aload_n 94 (gd rfl) rfl rfl ?_
              refine g_getI 97 (gd rfl) rfl rfl rfl (fun z94 e94 => ?_)
              have q94 : w10_109_27 = z94 := (v10_109_27).trans e94.symm
              subst q94
              refine g_iload_n 98 (gd rfl) rfl rfl ?_
              refine g_isub 99 (gd rfl) rfl (fun z98 e98 => ?_)
              have i98 := in_sub (-1000) 999 e98 i18 j10_2 rfl rfl
              refine g_iload_n 100 (gd rfl) rfl rfl ?_
              refine g_cmp_le 103 122 (gd rfl) rfl rfl (fun c100 => ?_) (fun c100 => ?_)
              · skip
                have i100 := r_le1 (-1000) 7 c100 i98 h1 rfl
                have n122 : (w10_109_27).toInt ≤ (u_109_22).toInt := by have a0 := h1; unfold In at a0; have a1 := ro_109_29; unfold In at a1; have a2 := i18a; unfold In at a2; have a3 := i18; unfold In at a3; have a4 := j10_2; unfold In at a4; have a5 := i100; unfold In at a5; have a6 := t_sub e98 i18 j10_2 rfl; omega
                have n122a : (sc10.2.2.1 109 27).toInt ≤ (sc10.2.2.1 109 22).toInt := by have b0 : w10_109_27 = sc10.2.2.1 109 27 := v10_109_27; have b1 : u_109_22 = sc10.2.2.1 109 22 := fr_F e_109_22 hFc10 rfl; rw [← b0, ← b1]; exact n122
                have n122b : (u_109_27).toInt + 1 ≤ (w10_109_27).toInt := by have a0 := h1; unfold In at a0; have a1 := ro_109_29; unfold In at a1; have a2 := i18a; unfold In at a2; have a3 := i18; unfold In at a3; have a4 := j10_2; unfold In at a4; have a5 := i100; unfold In at a5; have a6 := t_sub e98 i18 j10_2 rfl; omega
                have n122c : (s.2.2.1 109 27).toInt + 1 ≤ (sc10.2.2.1 109 27).toInt := by have b0 : w10_109_27 = sc10.2.2.1 109 27 := v10_109_27; rw [← b0, ← e_109_27]; exact n122b
                exact g_return (gd rfl) rfl (hP _ _ ⟨sc10, hIc10, hFc10, n122a, n122c, rfl, rfl⟩)
              · skip
                have i100 := r_lt2 7 999 c100 h1 i98 rfl
                refine g_aload_n 104 (gd rfl) rfl rfl ?_
                refine g_iload_n 105 (gd rfl) rfl rfl ?_
                refine g_bipush 7 107 (gd rfl) rfl rfl ?_
                refine g_cmp_ne 110 114 (gd rfl) rfl rfl (fun c107 => ?_) (fun c107 => ?_)
                · skip
                  have i107 := r_ne1 6 6 c107 h1 (in_c 7 rfl) rfl
                  refine g_iconst 4 115 (gd rfl) rfl rfl ?_
                  refine g_aload_n 116 (gd rfl) rfl rfl ?_
                  refine g_getI 119 (gd rfl) rfl rfl rfl (fun z116 e116 => ?_)
                  have q116 : u_109_29 = z116 := (fr_F e_109_29 hFc10 rfl).trans e116.symm
                  subst q116
                  refine g_callv (X := _) (As := [.int (Int32.ofInt 4), .int u_109_29]) (r := []) (b := A 109) (q := 109) 122 (gd rfl) rfl rfl rfl rfl rfl (ww_o rfl) (Nat.le_of_ble_eq_true rfl) (Nat.zero_le _) (Nat.zero_le _) (k_298 (by omega) hIc10 (in_w 1 5 (in_c 4 rfl) rfl)) (fun e u h => h) (fun v u h => ?_)
                  obtain ⟨s119, hI119, hF119, n119, rfl, rfl⟩ := h
                  obtain ⟨z119a, e119⟩ : ∃ w, w = s119.2.2.1 109 23 := ⟨_, rfl⟩
                  have i119a := inv_F hI119 0 9 rfl e119
                  rw [← (show z119a = s119.2.2.1 109 23 from e119)] at n119
                  show GG _ _ _ _ _ _ _ _ [] _ _ _
                  have n122 : (w10_109_27).toInt ≤ (u_109_22).toInt := by have a0 := i107; unfold In at a0; have a1 := ro_109_29; unfold In at a1; have a2 := i18a; unfold In at a2; have a3 := i18; unfold In at a3; have a4 := j10_2; unfold In at a4; have a5 := i119a; unfold In at a5; have a6 := i100; unfold In at a6; have a7 := t_sub e98 i18 j10_2 rfl; omega
                  have n122a : (s119.2.2.1 109 27).toInt ≤ (s119.2.2.1 109 22).toInt := by have b0 : w10_109_27 = s119.2.2.1 109 27 := fr_F (v10_109_27) hF119 rfl; have b1 : u_109_22 = s119.2.2.1 109 22 := fr_F (fr_F e_109_22 hFc10 rfl) hF119 rfl; rw [← b0, ← b1]; exact n122
                  have n122b : (u_109_27).toInt + 1 ≤ (w10_109_27).toInt := by have a0 := i107; unfold In at a0; have a1 := ro_109_29; unfold In at a1; have a2 := i18a; unfold In at a2; have a3 := i18; unfold In at a3; have a4 := j10_2; unfold In at a4; have a5 := i119a; unfold In at a5; have a6 := i100; unfold In at a6; have a7 := t_sub e98 i18 j10_2 rfl; omega
                  have n122c : (s.2.2.1 109 27).toInt + 1 ≤ (s119.2.2.1 109 27).toInt := by have b0 : w10_109_27 = s119.2.2.1 109 27 := fr_F (v10_109_27) hF119 rfl; rw [← b0, ← e_109_27]; exact n122b
                  exact g_return (gd rfl) rfl (hP _ _ ⟨s119, hI119, (fr_tr rfl hFc10 hF119), n122a, n122c, rfl, rfl⟩)
                · skip
                  have i107 := r_eq1 7 7 c107 h1 (in_c 7 rfl) rfl
                  refine g_iconst 3 111 (gd rfl) rfl rfl ?_
                  refine g_goto 115 (gd rfl) rfl ?_
                  refine g_aload_n 116 (gd rfl) rfl rfl ?_
                  refine g_getI 119 (gd rfl) rfl rfl rfl (fun z116 e116 => ?_)
                  have q116 : u_109_29 = z116 := (fr_F e_109_29 hFc10 rfl).trans e116.symm
                  subst q116
                  refine g_callv (X := _) (As := [.int (Int32.ofInt 3), .int u_109_29]) (r := []) (b := A 109) (q := 109) 122 (gd rfl) rfl rfl rfl rfl rfl (ww_o rfl) (Nat.le_of_ble_eq_true rfl) (Nat.zero_le _) (Nat.zero_le _) (k_298 (by omega) hIc10 (in_w 1 5 (in_c 3 rfl) rfl)) (fun e u h => h) (fun v u h => ?_)
                  obtain ⟨s119, hI119, hF119, n119, rfl, rfl⟩ := h
                  obtain ⟨z119a, e119⟩ : ∃ w, w = s119.2.2.1 109 23 := ⟨_, rfl⟩
                  have i119a := inv_F hI119 0 9 rfl e119
                  rw [← (show z119a = s119.2.2.1 109 23 from e119)] at n119
                  show GG _ _ _ _ _ _ _ _ [] _ _ _
                  have n122 : (w10_109_27).toInt ≤ (u_109_22).toInt := by have a0 := i107; unfold In at a0; have a1 := ro_109_29; unfold In at a1; have a2 := i18a; unfold In at a2; have a3 := i18; unfold In at a3; have a4 := j10_2; unfold In at a4; have a5 := i119a; unfold In at a5; have a6 := i100; unfold In at a6; have a7 := t_sub e98 i18 j10_2 rfl; omega
                  have n122a : (s119.2.2.1 109 27).toInt ≤ (s119.2.2.1 109 22).toInt := by have b0 : w10_109_27 = s119.2.2.1 109 27 := fr_F (v10_109_27) hF119 rfl; have b1 : u_109_22 = s119.2.2.1 109 22 := fr_F (fr_F e_109_22 hFc10 rfl) hF119 rfl; rw [← b0, ← b1]; exact n122
                  have n122b : (u_109_27).toInt + 1 ≤ (w10_109_27).toInt := by have a0 := i107; unfold In at a0; have a1 := ro_109_29; unfold In at a1; have a2 := i18a; unfold In at a2; have a3 := i18; unfold In at a3; have a4 := j10_2; unfold In at a4; have a5 := i119a; unfold In at a5; have a6 := i100; unfold In at a6; have a7 := t_sub e98 i18 j10_2 rfl; omega
                  have n122c : (s.2.2.1 109 27).toInt + 1 ≤ (s119.2.2.1 109 27).toInt := by have b0 : w10_109_27 = s119.2.2.1 109 27 := fr_F (v10_109_27) hF119 rfl; rw [← b0, ← e_109_27]; exact n122b
                  exact g_return (gd rfl) rfl (hP _ _ ⟨s119, hI119, (fr_tr rfl hFc10 hF119), n122a, n122c, rfl, rfl⟩)
            · skip
              exact zn_ne c33 (in_c 0 rfl) rfl
          · skip
            have i30x9 := r_le1 48 57 c30x9 i30x3 (in_c 57 rfl) rfl
            refine g_iconst 1 13 (gd rfl) rfl rfl ?_
            refine g_goto 17 (gd rfl) rfl ?_
            refine g_ireturn (gd rfl) rfl (nb01 (in_w 0 1 (in_c 1 rfl) rfl)) (hp30 _ _ ?_)
            show GG _ _ _ _ _ _ _ _ [.int (Int32.ofInt 1)] _ _ _
            refine g_if_eq 36 93 (gd rfl) rfl rfl (fun c33 => ?_) (fun c33 => ?_)
            · skip
              exact zn_eq c33 (in_c 1 rfl) rfl
            · skip
              refine g_aload_n 37 (gd rfl) rfl rfl ?_
              refine g_aload_n 38 (gd rfl) rfl rfl ?_
              refine g_getI 41 (gd rfl) rfl rfl rfl (fun z38 e38 => ?_)
              have q38 : w10_109_27 = z38 := (v10_109_27).trans e38.symm
              subst q38
              refine g_iload_n 42 (gd rfl) rfl rfl ?_
              refine g_isub 43 (gd rfl) rfl (fun z42 e42 => ?_)
              have i42 := in_sub (-1000) 999 e42 i18 j10_2 rfl rfl
              refine g_iload_n 44 (gd rfl) rfl rfl ?_
              refine g_cmp_ge 47 73 (gd rfl) rfl rfl (fun c44 => ?_) (fun c44 => ?_)
              · skip
                have i44 := r_le2 6 999 c44 h1 i42 rfl
                refine g_aload_n 74 (gd rfl) rfl rfl ?_
                refine g_getL 77 (gd rfl) rfl rfl rfl (fun z74 e74 => ?_)
                refine g_putL 80 (gd rfl) rfl rfl rfl rfl ?_
                have hI77 := inv_sG (q := 109) (j := 31) (x := z74) hIc10 rfl (l_rng z74)
                refine g_aload_n 81 (gd rfl) rfl rfl ?_
                refine g_dup 82 (gd rfl) rfl rfl ?_
                refine g_getI 85 (gd rfl) rfl rfl rfl (fun z82 e82 => ?_)
                have q82 : w10_109_27 = z82 := (sG_F (v10_109_27)).trans e82.symm
                subst q82
                refine g_iconst 1 86 (gd rfl) rfl rfl ?_
                refine g_iadd 87 (gd rfl) rfl (fun z86 e86 => ?_)
                have i86 := in_add 1 1000 e86 i18 (in_c 1 rfl) rfl rfl
                refine g_putI 90 (gd rfl) rfl rfl rfl rfl ?_
                have hI87 := inv_sF (q := 109) (j := 27) hI77 rfl (in_w 0 1000 i86 rfl)
                refine g_goto 10 (gd rfl) rfl ?_
                have v10 : z86 = (sF (sG sc10 109 31 z74) 109 27 z86).2.2.1 109 27 := sF_get
                have n10 : (z86).toInt ≤ (u_109_22).toInt := by have a0 := h1; unfold In at a0; have a1 := ro_109_29; unfold In at a1; have a2 := i18a; unfold In at a2; have a3 := i18; unfold In at a3; have a4 := j10_2; unfold In at a4; have a5 := i86; unfold In at a5; have a6 := t_add e86 i18 (in_c 1 rfl) rfl; have a7 := (in_c 1 rfl); unfold In at a7; have a8 := i44; unfold In at a8; have a9 := t_sub e42 i18 j10_2 rfl; omega
                have n10a : (u_109_27).toInt ≤ (z86).toInt := by have a0 := h1; unfold In at a0; have a1 := ro_109_29; unfold In at a1; have a2 := i18a; unfold In at a2; have a3 := i18; unfold In at a3; have a4 := j10_2; unfold In at a4; have a5 := i86; unfold In at a5; have a6 := t_add e86 i18 (in_c 1 rfl) rfl; have a7 := (in_c 1 rfl); unfold In at a7; have a8 := i44; unfold In at a8; have a9 := t_sub e42 i18 j10_2 rfl; omega
                have m10 : (u_109_22).toInt - (z86).toInt < ((k10 : Nat) : Int) := by have a0 := h1; unfold In at a0; have a1 := ro_109_29; unfold In at a1; have a2 := i18a; unfold In at a2; have a3 := i18; unfold In at a3; have a4 := j10_2; unfold In at a4; have a5 := i86; unfold In at a5; have a6 := t_add e86 i18 (in_c 1 rfl) rfl; have a7 := (in_c 1 rfl); unfold In at a7; have a8 := i44; unfold In at a8; have a9 := t_sub e42 i18 j10_2 rfl; omega
                exact gg_w (by omega) (gg_f (gf_cons rfl (gf_cons rfl (gf_cons rfl gf_nil))) (ih10  (sF (sG sc10 109 31 z74) 109 27 z86) y10_2 z86 hI87 (fr_sF rfl (fr_sG rfl hFc10)) (in_w 0 1000 j10_2 rfl) v10 n10 n10a m10))
              · skip
                have i44 := r_lt1 (-1000) 6 c44 i42 h1 rfl
                refine g_ldc2_w 10 50 (gd rfl) rfl rfl ?_
                refine g_aload_n 51 (gd rfl) rfl rfl ?_
                refine g_getL 54 (gd rfl) rfl rfl rfl (fun z51 e51 => ?_)
                refine g_lmul 55 (gd rfl) rfl (fun z54 e54 => ?_)
                refine g_aload_n 56 (gd rfl) rfl rfl ?_
                refine g_getA (q2 := 125) 59 (gd rfl) rfl rfl rfl rfl ?_
                refine g_aload_n 60 (gd rfl) rfl rfl ?_
                refine g_getI 63 (gd rfl) rfl rfl rfl (fun z60 e60 => ?_)
                have q60 : w10_109_27 = z60 := (v10_109_27).trans e60.symm
                subst q60
                refine g_iaload 64 (gd rfl) rfl (n := 1000) rfl (in_ix i18 rfl) (fun z63 e63 => ?_)
                have q63 : z29 = z63 := (e29).trans e63.symm
                subst q63
                refine g_i2l 65 (gd rfl) rfl (fun z64 e64 => ?_)
                have i64 := l_i e64 i30x9
                refine g_ladd 66 (gd rfl) rfl (fun z65 e65 => ?_)
                refine g_ldc2_w 48 69 (gd rfl) rfl rfl ?_
                refine g_lsub 70 (gd rfl) rfl (fun z69 e69 => ?_)
                refine g_goto 77 (gd rfl) rfl ?_
                refine g_putL 80 (gd rfl) rfl rfl rfl rfl ?_
                have hI77 := inv_sG (q := 109) (j := 31) (x := z69) hIc10 rfl (l_rng z69)
                refine g_aload_n 81 (gd rfl) rfl rfl ?_
                refine g_dup 82 (gd rfl) rfl rfl ?_
                refine g_getI 85 (gd rfl) rfl rfl rfl (fun z82 e82 => ?_)
                have q82 : w10_109_27 = z82 := (sG_F (v10_109_27)).trans e82.symm
                subst q82
                refine g_iconst 1 86 (gd rfl) rfl rfl ?_
                refine g_iadd 87 (gd rfl) rfl (fun z86 e86 => ?_)
                have i86 := in_add 1 1000 e86 i18 (in_c 1 rfl) rfl rfl
                refine g_putI 90 (gd rfl) rfl rfl rfl rfl ?_
                have hI87 := inv_sF (q := 109) (j := 27) hI77 rfl (in_w 0 1000 i86 rfl)
                refine g_goto 10 (gd rfl) rfl ?_
                have v10 : z86 = (sF (sG sc10 109 31 z69) 109 27 z86).2.2.1 109 27 := sF_get
                have n10 : (z86).toInt ≤ (u_109_22).toInt := by have a0 := h1; unfold In at a0; have a1 := ro_109_29; unfold In at a1; have a2 := i18a; unfold In at a2; have a3 := i18; unfold In at a3; have a4 := j10_2; unfold In at a4; have a5 := i86; unfold In at a5; have a6 := t_add e86 i18 (in_c 1 rfl) rfl; have a7 := (in_c 1 rfl); unfold In at a7; have a8 := tx_i2l e64; have a9 := i30x9; unfold In at a9; have a10 := i44; unfold In at a10; have a11 := t_sub e42 i18 j10_2 rfl; omega
                have n10a : (u_109_27).toInt ≤ (z86).toInt := by have a0 := h1; unfold In at a0; have a1 := ro_109_29; unfold In at a1; have a2 := i18a; unfold In at a2; have a3 := i18; unfold In at a3; have a4 := j10_2; unfold In at a4; have a5 := i86; unfold In at a5; have a6 := t_add e86 i18 (in_c 1 rfl) rfl; have a7 := (in_c 1 rfl); unfold In at a7; have a8 := tx_i2l e64; have a9 := i30x9; unfold In at a9; have a10 := i44; unfold In at a10; have a11 := t_sub e42 i18 j10_2 rfl; omega
                have m10 : (u_109_22).toInt - (z86).toInt < ((k10 : Nat) : Int) := by have a0 := h1; unfold In at a0; have a1 := ro_109_29; unfold In at a1; have a2 := i18a; unfold In at a2; have a3 := i18; unfold In at a3; have a4 := j10_2; unfold In at a4; have a5 := i86; unfold In at a5; have a6 := t_add e86 i18 (in_c 1 rfl) rfl; have a7 := (in_c 1 rfl); unfold In at a7; have a8 := tx_i2l e64; have a9 := i30x9; unfold In at a9; have a10 := i44; unfold In at a10; have a11 := t_sub e42 i18 j10_2 rfl; omega
                exact gg_w (by omega) (gg_f (gf_cons rfl (gf_cons rfl (gf_cons rfl gf_nil))) (ih10  (sF (sG sc10 109 31 z69) 109 27 z86) y10_2 z86 hI87 (fr_sF rfl (fr_sG rfl hFc10)) (in_w 0 1000 j10_2 rfl) v10 n10 n10a m10))
  refine g_enter2 (k := 300) (N := 901801) (by omega) rfl (Nat.le_of_ble_eq_true rfl) ?_
  refine g_aload_n 1 (gd rfl) rfl rfl ?_
  refine g_getI 4 (gd rfl) rfl rfl rfl (fun z1 e1 => ?_)
  have q1 : u_109_27 = z1 := (e_109_27).trans e1.symm
  subst q1
  refine g_istore_n 5 (gd rfl) rfl (Nat.le_of_ble_eq_true rfl) ?_
  refine g_aload_n 6 (gd rfl) rfl rfl ?_
  refine g_lconst 0 7 (gd rfl) rfl rfl ?_
  refine g_putL 10 (gd rfl) rfl rfl rfl rfl ?_
  have hI7 := inv_sG (q := 109) (j := 31) (x := (Int64.ofInt 0)) hI rfl (l_rng (Int64.ofInt 0))
  have v10 : u_109_27 = (sG s 109 31 (Int64.ofInt 0)).2.2.1 109 27 := sG_F (e_109_27)
  have n10 : (u_109_27).toInt ≤ (u_109_22).toInt := by have a0 := ro_109_29; unfold In at a0; have a1 := (inv_F hI 0 1000 rfl e_109_22); unfold In at a1; have a2 := (inv_F hI 0 1000 rfl e_109_27); unfold In at a2; have a3 := h1; unfold In at a3; omega
  have n10a : (u_109_27).toInt ≤ (u_109_27).toInt := by have a0 := ro_109_29; unfold In at a0; have a1 := (inv_F hI 0 1000 rfl e_109_22); unfold In at a1; have a2 := (inv_F hI 0 1000 rfl e_109_27); unfold In at a2; have a3 := h1; unfold In at a3; omega
  have m10 : (u_109_22).toInt - (u_109_27).toInt < ((1001 : Nat) : Int) := by have a0 := ro_109_29; unfold In at a0; have a1 := (inv_F hI 0 1000 rfl e_109_22); unfold In at a1; have a2 := (inv_F hI 0 1000 rfl e_109_27); unfold In at a2; have a3 := h1; unfold In at a3; omega
  exact gg_w (by omega) (gg_f (gf_cons rfl (gf_cons rfl (gf_cons rfl gf_nil))) (ct10 1001 (sG s 109 31 (Int64.ofInt 0)) u_109_27 u_109_27 hI7 (fr_sG rfl fr_rf) (in_w 0 1000 (inv_F hI 0 1000 rfl e_109_27) rfl) v10 n10 n10a m10))
