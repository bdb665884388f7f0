/-! Graph.tie: counts, their sums, and the rows by them -/
/-- a place that is written, the others stay -/
theorem up_at {f : Nat → Int32} {j k : Nat} {x : Int32} : upd f j x k = if k = j then x else f k := rfl
theorem tp_at {w : Nat → Int32} {j : Nat} {x : Int32} : upd w j x j = x := by unfold upd; rw [if_pos rfl]
theorem tp_ne {w : Nat → Int32} {i j : Nat} {x : Int32} (h : i ≠ j) : upd w j x i = w i := by unfold upd; rw [if_neg h]
section TIEB
variable {x z z1 u : Int32} {k : Nat}
theorem tb_shl : ∀ k : Fin 32, (Int32.ofInt 1 <<< (Int32.ofNat k.val &&& 31) : Int32).toBitVec = BitVec.twoPow 32 k.val := by decide +kernel
theorem tb_set (e1 : z1 = Int32.ofInt 1 <<< (u &&& 31)) (e : z = x ||| z1) (hu : In u 0 31) : z.toBitVec.getLsbD k = (x.toBitVec.getLsbD k || decide (k = u.toNatClampNeg)) := by
  obtain ⟨h1, h2⟩ := hu
  have hj0 : u.toNatClampNeg < 32 := by show u.toInt.toNat < 32; omega
  have eu : u = Int32.ofNat u.toNatClampNeg := Int32.toInt_inj.mp (by rw [Int32.toInt_ofNat_of_lt (by omega)]; show u.toInt = ((u.toInt.toNat : Nat) : Int); omega)
  obtain ⟨j, hj, hu1, hu2⟩ : ∃ j : Nat, j < 32 ∧ u = Int32.ofNat j ∧ u.toNatClampNeg = j := ⟨u.toNatClampNeg, hj0, eu, rfl⟩
  rw [hu2, e, show (x ||| z1).toBitVec = x.toBitVec ||| z1.toBitVec from rfl, BitVec.getLsbD_or, e1, hu1, tb_shl ⟨j, hj⟩, BitVec.getLsbD_twoPow]
  congr 1
  by_cases c : j = k
  · subst c; simp [hj]
  · have c2 : ¬ k = j := fun w => c w.symm
    simp [c, c2]
end TIEB
theorem aj_0 {fr tt : Nat → Int32} {u v : Nat} : ¬ AJ fr tt 0 u v := fun ⟨p, h, _⟩ => absurd h (Nat.not_lt_zero p)
theorem aj_s {fr tt : Nat → Int32} {T u v : Nat} : AJ fr tt (T + 1) u v ↔ AJ fr tt T u v ∨ (gF fr T = (u : Int) ∧ gG fr tt T = (v : Int)) := by
  constructor
  · rintro ⟨p, h1, h2, h3⟩
    by_cases c : p = T
    · subst c; exact Or.inr ⟨h2, h3⟩
    · exact Or.inl ⟨p, by omega, h2, h3⟩
  · rintro (⟨p, h1, h2, h3⟩ | ⟨h2, h3⟩)
    · exact ⟨p, by omega, h2, h3⟩
    · exact ⟨T, by omega, h2, h3⟩
theorem msk_0 {fr tt ne ou nn : Nat → Int32} (h1 : ∀ j, j < 32 → ne j = Int32.ofInt 0) (h2 : ∀ j, j < 32 → ou j = Int32.ofInt 0) (h3 : ∀ j, j < 32 → nn j = Int32.ofInt 0) : MSK fr tt ne ou nn 0 := by
  intro u v hu hv
  have z : ∀ k, (Int32.ofInt 0).toBitVec.getLsbD k = false := fun k => by
    rw [show (Int32.ofInt 0).toBitVec = 0#32 from rfl]; exact BitVec.getLsbD_zero
  rw [h1 u hu, h2 u hu, h3 v hv, z, z]
  refine ⟨⟨fun h => (by cases h), fun h => absurd h aj_0⟩, ⟨fun h => (by cases h), fun h => absurd h aj_0⟩, ⟨fun h => (by cases h), fun h => ?_⟩⟩
  rcases h.2 with h | h
  · exact absurd h aj_0
  · exact absurd h aj_0
theorem msk_n {fr tt ne ou nn : Nat → Int32} {T : Nat} (h : MSK fr tt ne ou nn T) (hF : gF fr T = -1) : MSK fr tt ne ou nn (T + 1) := by
  intro u v hu hv
  have e : ∀ a b : Nat, AJ fr tt (T + 1) a b ↔ AJ fr tt T a b := fun a b => by
    rw [aj_s]
    exact ⟨fun q => q.elim id (fun r => by have := r.1; omega), Or.inl⟩
  rw [e, e]
  exact h u v hu hv
/-- what tieEnds does to the masks -/
def TEN (s t : GS) (ne ou nn : Nat) (a b : Int32) : Prop := (∃ y : Int32, t.1 ou = upd (s.1 ou) a.toNatClampNeg y ∧ ∀ k, y.toBitVec.getLsbD k = ((s.1 ou a.toNatClampNeg).toBitVec.getLsbD k || decide (k = b.toNatClampNeg))) ∧ (∃ y : Int32, t.1 nn = upd (s.1 nn) b.toNatClampNeg y ∧ ∀ k, y.toBitVec.getLsbD k = ((s.1 nn b.toNatClampNeg).toBitVec.getLsbD k || decide (k = a.toNatClampNeg))) ∧ (a.toInt = b.toInt → t.1 ne = s.1 ne) ∧ (a.toInt ≠ b.toInt → ∃ y z : Int32, t.1 ne = upd (upd (s.1 ne) a.toNatClampNeg y) b.toNatClampNeg z ∧ (∀ k, y.toBitVec.getLsbD k = ((s.1 ne a.toNatClampNeg).toBitVec.getLsbD k || decide (k = b.toNatClampNeg))) ∧ ∀ k, z.toBitVec.getLsbD k = ((s.1 ne b.toNatClampNeg).toBitVec.getLsbD k || decide (k = a.toNatClampNeg)))
theorem msk_s {s t : GS} {fr tt : Nat → Int32} {ne ou nn T w x : Nat} {a b : Int32} (h : MSK fr tt (s.1 ne) (s.1 ou) (s.1 nn) T) (hF : gF fr T = (w : Int)) (hG : gG fr tt T = (x : Int)) (ha : a.toInt = (w : Int)) (hb : b.toInt = (x : Int)) (hw : w < 32) (hx : x < 32) (g : TEN s t ne ou nn a b) : MSK fr tt (t.1 ne) (t.1 ou) (t.1 nn) (T + 1) := by
  have ea : a.toNatClampNeg = w := by show a.toInt.toNat = w; omega
  have eb : b.toNatClampNeg = x := by show b.toInt.toNat = x; omega
  obtain ⟨⟨y1, o1, o2⟩, ⟨y2, n1, n2⟩, g1, g2⟩ := g
  rw [ea] at o1 o2 n2
  rw [eb] at o2 n1 n2
  intro u v hu hv
  obtain ⟨m1, m2, m3⟩ := h u v hu hv
  have st : ∀ c d : Nat, AJ fr tt (T + 1) c d ↔ AJ fr tt T c d ∨ (c = w ∧ d = x) := fun c d => by
    rw [aj_s, hF, hG]
    exact ⟨fun q => q.imp id (fun r => ⟨by have := r.1; omega, by have := r.2; omega⟩), fun q => q.imp id (fun r => ⟨by rw [r.1], by rw [r.2]⟩)⟩
  refine ⟨?_, ?_, ?_⟩
  · rw [o1, st, ← m1]
    by_cases c : u = w
    · rw [c, tp_at, o2 v, Bool.or_eq_true, decide_eq_true_iff]
      exact ⟨fun q => q.imp id (fun r => ⟨rfl, r⟩), fun q => q.imp id (fun r => r.2)⟩
    · rw [tp_ne c]
      exact ⟨Or.inl, fun q => q.elim id (fun r => absurd r.1 c)⟩
  · rw [n1, st, ← m2]
    by_cases c : v = x
    · rw [c, tp_at, n2 u, Bool.or_eq_true, decide_eq_true_iff]
      exact ⟨fun q => q.imp id (fun r => ⟨r, rfl⟩), fun q => q.imp id (fun r => r.1)⟩
    · rw [tp_ne c]
      exact ⟨Or.inl, fun q => q.elim id (fun r => absurd r.2 c)⟩
  · rw [st, st]
    by_cases z : w = x
    · rw [g1 (by omega), m3]
      constructor
      · rintro ⟨q1, q2⟩
        exact ⟨q1, q2.imp Or.inl Or.inl⟩
      · rintro ⟨q1, (q2 | q2) | (q2 | q2)⟩
        · exact ⟨q1, Or.inl q2⟩
        · exact absurd (q2.1.trans (z.trans q2.2.symm)) q1
        · exact ⟨q1, Or.inr q2⟩
        · exact absurd (q2.2.trans (z.symm.trans q2.1.symm)) q1
    · obtain ⟨y, y', e1, e2, e3⟩ := g2 (by omega)
      rw [ea, eb] at e1 e2 e3
      rw [e1]
      by_cases c : u = x
      · have c2 : ¬ u = w := fun r => z (r.symm.trans c)
        rw [c, tp_at, e3 v, Bool.or_eq_true, decide_eq_true_iff, ← c, m3]
        constructor
        · rintro (⟨q1, q2⟩ | q)
          · exact ⟨q1, q2.imp Or.inl Or.inl⟩
          · exact ⟨by omega, Or.inr (Or.inr ⟨q, rfl⟩)⟩
        · rintro ⟨q1, (q2 | q2) | (q2 | q2)⟩
          · exact Or.inl ⟨q1, Or.inl q2⟩
          · exact absurd q2.1 c2
          · exact Or.inl ⟨q1, Or.inr q2⟩
          · exact Or.inr q2.1
      · rw [tp_ne c]
        by_cases c2 : u = w
        · rw [c2, tp_at, e2 v, Bool.or_eq_true, decide_eq_true_iff, ← c2, m3]
          constructor
          · rintro (⟨q1, q2⟩ | q)
            · exact ⟨q1, q2.imp Or.inl Or.inl⟩
            · exact ⟨by omega, Or.inl (Or.inr ⟨rfl, q⟩)⟩
          · rintro ⟨q1, (q2 | q2) | (q2 | q2)⟩
            · exact Or.inl ⟨q1, Or.inl q2⟩
            · exact Or.inr q2.2
            · exact Or.inl ⟨q1, Or.inr q2⟩
            · exact absurd q2.2 c
        · rw [tp_ne c2, m3]
          constructor
          · rintro ⟨q1, q2⟩
            exact ⟨q1, q2.imp Or.inl Or.inl⟩
          · rintro ⟨q1, (q2 | q2) | (q2 | q2)⟩
            · exact ⟨q1, Or.inl q2⟩
            · exact absurd q2.1 c2
            · exact ⟨q1, Or.inr q2⟩
            · exact absurd q2.2 c
theorem pr_cn (F : Nat → Int) {T u p : Nat} (h : p < T) (hF : F p = (u : Int)) : pr F T u + cn F (u : Int) p < pr F T (u + 1) := by
  have e : pr F T (u + 1) = pr F T u + cn F (u : Int) T := rfl
  have a := cn_mono F (u : Int) (show p + 1 ≤ T by omega)
  rw [cn_hit hF] at a
  omega
/-- a further place of the rows is written -/
theorem rws_s {F : Nat → Int} {T p w : Nat} {os os2 : Nat → Int32} {i : Nat} {y : Int32} (h : RWS F T os (p + 1)) (hp : p < T) (hF : F p = (w : Int)) (hi : (i : Int) = pr F T w + cn F (w : Int) p) (hy : y.toInt = (p : Int)) (ho : os2 = upd os i y) : RWS F T os2 p := by
  intro q u h1 h2 h3 h4
  rw [ho]
  by_cases c : q = p
  · subst c
    have e : u = w := by omega
    subst e
    rw [← hi, Int.toNat_natCast, tp_at]; exact hy
  · have a := pr_cn F hp hF
    have b := pr_cn F h2 h4
    have p0 := pr_0 F T u
    have p1 := cn_0 F (u : Int) q
    have ne : (pr F T u + cn F (u : Int) q).toNat ≠ i := by
      intro e
      have e2 : pr F T u + cn F (u : Int) q = pr F T w + cn F (w : Int) p := by omega
      rcases Nat.lt_trichotomy u w with z | z | z
      · have := pr_up F T (show u + 1 ≤ w by omega)
        have := cn_0 F (w : Int) p
        omega
      · subst z
        have d := cn_mono F (u : Int) (show p + 1 ≤ q by omega)
        rw [cn_hit hF] at d
        omega
      · have := pr_up F T (show w + 1 ≤ u by omega)
        omega
    rw [tp_ne ne]
    exact h q u (by omega) h2 h3 h4
theorem rws_n {F : Nat → Int} {T p : Nat} {os : Nat → Int32} (h : RWS F T os (p + 1)) (hF : F p = -1) : RWS F T os p := by
  intro q u h1 h2 h3 h4
  by_cases c : q = p
  · subst c; omega
  · exact h q u (by omega) h2 h3 h4
theorem rws_e {F : Nat → Int} {T : Nat} {os : Nat → Int32} : RWS F T os T := fun q u h1 h2 _ _ => by omega
def fm_107_2 : FM := ([9, 10, 11, 12, 14], [], [], [])
/-- GraphHouse$Graph.tieEnds -/
theorem x_107_2 {Z : AmZ} {A : Nat → Nat} {s : GS} {ex : va_W} {d : Nat} {X : AmX} {x1 : Int32} {x2 : Int32} (hd : 1 ≤ d) (hI : Rng s) (h1 : In x1 0 31) (h2 : In x2 0 31) (g1 : In (s.1 12 x1.toNatClampNeg) 0 159) (g2 : In (s.1 14 x2.toNatClampNeg) 0 159) : GC Z d 107 [.ref (A 2), .int x1, .int x2] (WW Z A s ++ ex) 0 0 (fun v u => ∃ t : GS, Rng t ∧ Fr fm_107_2 s t ∧ v = none ∧ u = WW Z A t ++ ex ∧ t.1 4 = s.1 4 ∧ t.1 5 = s.1 5 ∧ t.2.2.1 = s.2.2.1 ∧ t.1 12 = upd (s.1 12) x1.toNatClampNeg (s.1 12 x1.toNatClampNeg + Int32.ofInt 1) ∧ t.1 14 = upd (s.1 14) x2.toNatClampNeg (s.1 14 x2.toNatClampNeg + Int32.ofInt 1) ∧ TEN s t 9 10 11 x1 x2) X := by
  intro post xp hP hX
  refine g_enter2 (k := 107) (N := 900) (by omega) rfl (Nat.le_of_ble_eq_true rfl) ?_
  refine g_aload_n 1 (gd rfl) rfl rfl ?_
  refine g_getA (q2 := 12) 4 (gd rfl) rfl rfl rfl rfl ?_
  refine g_iload_n 5 (gd rfl) rfl rfl ?_
  refine g_dup2 6 (gd rfl) rfl rfl rfl ?_
  refine g_iaload 7 (gd rfl) rfl (n := 33) rfl (in_ix h1 rfl) (fun z6 e6 => ?_)
  have i6 := (show In z6 0 159 by rw [e6]; exact g1)
  refine g_iconst 1 8 (gd rfl) rfl rfl ?_
  refine g_iadd 9 (gd rfl) rfl (fun z8 e8 => ?_)
  have i8 := in_add 1 160 e8 i6 (in_c 1 rfl) rfl rfl
  refine g_iastore 10 (gd rfl) rfl (n := 33) rfl (in_ix h1 rfl) ?_
  have hI9 := rng_sI (q := 12) (j := x1.toNatClampNeg) hI rfl (in_w 0 160 i8 rfl)
  refine g_aload_n 11 (gd rfl) rfl rfl ?_
  refine g_getA (q2 := 14) 14 (gd rfl) rfl rfl rfl rfl ?_
  refine g_iload_n 15 (gd rfl) rfl rfl ?_
  refine g_dup2 16 (gd rfl) rfl rfl rfl ?_
  refine g_iaload 17 (gd rfl) rfl (n := 33) rfl (in_ix h2 rfl) (fun z16 e16 => ?_)
  have i16 := (show In z16 0 159 by rw [e16]; exact g2)
  refine g_iconst 1 18 (gd rfl) rfl rfl ?_
  refine g_iadd 19 (gd rfl) rfl (fun z18 e18 => ?_)
  have i18 := in_add 1 160 e18 i16 (in_c 1 rfl) rfl rfl
  refine g_iastore 20 (gd rfl) rfl (n := 33) rfl (in_ix h2 rfl) ?_
  have hI19 := rng_sI (q := 14) (j := x2.toNatClampNeg) hI9 rfl (in_w 0 160 i18 rfl)
  refine g_aload_n 21 (gd rfl) rfl rfl ?_
  refine g_getA (q2 := 10) 24 (gd rfl) rfl rfl rfl rfl ?_
  refine g_iload_n 25 (gd rfl) rfl rfl ?_
  refine g_dup2 26 (gd rfl) rfl rfl rfl ?_
  refine g_iaload 27 (gd rfl) rfl (n := 32) rfl (in_ix h1 rfl) (fun z26 e26 => ?_)
  refine g_iconst 1 28 (gd rfl) rfl rfl ?_
  refine g_iload_n 29 (gd rfl) rfl rfl ?_
  refine g_ishl 30 (gd rfl) rfl (fun z29 e29 => ?_)
  refine g_ior 31 (gd rfl) rfl (fun z30 e30 => ?_)
  refine g_iastore 32 (gd rfl) rfl (n := 32) rfl (in_ix h1 rfl) ?_
  have hI31 := rng_sI (q := 10) (j := x1.toNatClampNeg) hI19 rfl (in_w (-2147483648) 2147483647 (i_rng z30) rfl)
  refine g_aload_n 33 (gd rfl) rfl rfl ?_
  refine g_getA (q2 := 11) 36 (gd rfl) rfl rfl rfl rfl ?_
  refine g_iload_n 37 (gd rfl) rfl rfl ?_
  refine g_dup2 38 (gd rfl) rfl rfl rfl ?_
  refine g_iaload 39 (gd rfl) rfl (n := 32) rfl (in_ix h2 rfl) (fun z38 e38 => ?_)
  refine g_iconst 1 40 (gd rfl) rfl rfl ?_
  refine g_iload_n 41 (gd rfl) rfl rfl ?_
  refine g_ishl 42 (gd rfl) rfl (fun z41 e41 => ?_)
  refine g_ior 43 (gd rfl) rfl (fun z42 e42 => ?_)
  refine g_iastore 44 (gd rfl) rfl (n := 32) rfl (in_ix h2 rfl) ?_
  have hI43 := rng_sI (q := 11) (j := x2.toNatClampNeg) hI31 rfl (in_w (-2147483648) 2147483647 (i_rng z42) rfl)
  refine g_iload_n 45 (gd rfl) rfl rfl ?_
  refine g_iload_n 46 (gd rfl) rfl rfl ?_
  refine g_cmp_eq 49 73 (gd rfl) rfl rfl (fun c46 => ?_) (fun c46 => ?_)
  · skip
    exact g_return (gd rfl) rfl (hP _ _ ⟨(sI (sI (sI (sI s 12 x1.toNatClampNeg z8) 14 x2.toNatClampNeg z18) 10 x1.toNatClampNeg z30) 11 x2.toNatClampNeg z42), hI43, (fr_sI rfl (fr_sI rfl (fr_sI rfl (fr_sI rfl fr_rf)))), rfl, rfl, rfl, rfl, rfl, by rw [← e6, ← e8]; rfl, by rw [← (show z16 = s.1 14 x2.toNatClampNeg from e16), ← e18]; rfl, ⟨⟨z30, by simp [sI], fun k => by rw [tb_set e29 e30 h2, show z26 = s.1 10 x1.toNatClampNeg from e26]⟩, ⟨z42, by simp [sI], fun k => by rw [tb_set e41 e42 h1, show z38 = s.1 11 x2.toNatClampNeg from e38]⟩, fun _ => by simp [sI], fun h => absurd c46 h⟩⟩)
  · skip
    refine g_aload_n 50 (gd rfl) rfl rfl ?_
    refine g_getA (q2 := 9) 53 (gd rfl) rfl rfl rfl rfl ?_
    refine g_iload_n 54 (gd rfl) rfl rfl ?_
    refine g_dup2 55 (gd rfl) rfl rfl rfl ?_
    refine g_iaload 56 (gd rfl) rfl (n := 32) rfl (in_ix h1 rfl) (fun z55 e55 => ?_)
    refine g_iconst 1 57 (gd rfl) rfl rfl ?_
    refine g_iload_n 58 (gd rfl) rfl rfl ?_
    refine g_ishl 59 (gd rfl) rfl (fun z58 e58 => ?_)
    refine g_ior 60 (gd rfl) rfl (fun z59 e59 => ?_)
    refine g_iastore 61 (gd rfl) rfl (n := 32) rfl (in_ix h1 rfl) ?_
    have hI60 := rng_sI (q := 9) (j := x1.toNatClampNeg) hI43 rfl (in_w (-2147483648) 2147483647 (i_rng z59) rfl)
    refine g_aload_n 62 (gd rfl) rfl rfl ?_
    refine g_getA (q2 := 9) 65 (gd rfl) rfl rfl rfl rfl ?_
    refine g_iload_n 66 (gd rfl) rfl rfl ?_
    refine g_dup2 67 (gd rfl) rfl rfl rfl ?_
    refine g_iaload 68 (gd rfl) rfl (n := 32) rfl (in_ix h2 rfl) (fun z67 e67 => ?_)
    refine g_iconst 1 69 (gd rfl) rfl rfl ?_
    refine g_iload_n 70 (gd rfl) rfl rfl ?_
    refine g_ishl 71 (gd rfl) rfl (fun z70 e70 => ?_)
    refine g_ior 72 (gd rfl) rfl (fun z71 e71 => ?_)
    refine g_iastore 73 (gd rfl) rfl (n := 32) rfl (in_ix h2 rfl) ?_
    have hI72 := rng_sI (q := 9) (j := x2.toNatClampNeg) hI60 rfl (in_w (-2147483648) 2147483647 (i_rng z71) rfl)
    exact g_return (gd rfl) rfl (hP _ _ ⟨(sI (sI (sI (sI (sI (sI s 12 x1.toNatClampNeg z8) 14 x2.toNatClampNeg z18) 10 x1.toNatClampNeg z30) 11 x2.toNatClampNeg z42) 9 x1.toNatClampNeg z59) 9 x2.toNatClampNeg z71), hI72, (fr_sI rfl (fr_sI rfl (fr_sI rfl (fr_sI rfl (fr_sI rfl (fr_sI rfl fr_rf)))))), rfl, rfl, rfl, rfl, rfl, by rw [← e6, ← e8]; rfl, by rw [← (show z16 = s.1 14 x2.toNatClampNeg from e16), ← e18]; rfl, ⟨⟨z30, by simp [sI], fun k => by rw [tb_set e29 e30 h2, show z26 = s.1 10 x1.toNatClampNeg from e26]⟩, ⟨z42, by simp [sI], fun k => by rw [tb_set e41 e42 h1, show z38 = s.1 11 x2.toNatClampNeg from e38]⟩, fun h => absurd h c46, fun hne => ⟨z59, z71, by simp [sI], fun k => by rw [tb_set e58 e59 h2, show z55 = s.1 9 x1.toNatClampNeg from e55], fun k => by rw [tb_set e70 e71 h1, show z67 = s.1 9 x2.toNatClampNeg from (e67.trans (by show upd (s.1 9) x1.toNatClampNeg z59 x2.toNatClampNeg = _; exact tp_ne (fun q => hne (by have a1 := h1; have a2 := h2; unfold In at a1 a2; have q1 : x1.toNatClampNeg = x1.toInt.toNat := rfl; have q2 : x2.toNatClampNeg = x2.toInt.toNat := rfl; omega))))]⟩⟩⟩)
def fm_107_32 : FM := ([39, 40, 41, 42, 44], [], [], [])
/-- GraphHouse$Graph.tieEnds -/
theorem x_107_32 {Z : AmZ} {A : Nat → Nat} {s : GS} {ex : va_W} {d : Nat} {X : AmX} {x1 : Int32} {x2 : Int32} (hd : 1 ≤ d) (hI : Rng s) (h1 : In x1 0 31) (h2 : In x2 0 31) (g1 : In (s.1 42 x1.toNatClampNeg) 0 159) (g2 : In (s.1 44 x2.toNatClampNeg) 0 159) : GC Z d 107 [.ref (A 32), .int x1, .int x2] (WW Z A s ++ ex) 0 0 (fun v u => ∃ t : GS, Rng t ∧ Fr fm_107_32 s t ∧ v = none ∧ u = WW Z A t ++ ex ∧ t.1 34 = s.1 34 ∧ t.1 35 = s.1 35 ∧ t.2.2.1 = s.2.2.1 ∧ t.1 42 = upd (s.1 42) x1.toNatClampNeg (s.1 42 x1.toNatClampNeg + Int32.ofInt 1) ∧ t.1 44 = upd (s.1 44) x2.toNatClampNeg (s.1 44 x2.toNatClampNeg + Int32.ofInt 1) ∧ TEN s t 39 40 41 x1 x2) X := by
  intro post xp hP hX
  refine g_enter2 (k := 107) (N := 900) (by omega) rfl (Nat.le_of_ble_eq_true rfl) ?_
  refine g_aload_n 1 (gd rfl) rfl rfl ?_
  refine g_getA (q2 := 42) 4 (gd rfl) rfl rfl rfl rfl ?_
  refine g_iload_n 5 (gd rfl) rfl rfl ?_
  refine g_dup2 6 (gd rfl) rfl rfl rfl ?_
  refine g_iaload 7 (gd rfl) rfl (n := 33) rfl (in_ix h1 rfl) (fun z6 e6 => ?_)
  have i6 := (show In z6 0 159 by rw [e6]; exact g1)
  refine g_iconst 1 8 (gd rfl) rfl rfl ?_
  refine g_iadd 9 (gd rfl) rfl (fun z8 e8 => ?_)
  have i8 := in_add 1 160 e8 i6 (in_c 1 rfl) rfl rfl
  refine g_iastore 10 (gd rfl) rfl (n := 33) rfl (in_ix h1 rfl) ?_
  have hI9 := rng_sI (q := 42) (j := x1.toNatClampNeg) hI rfl (in_w 0 160 i8 rfl)
  refine g_aload_n 11 (gd rfl) rfl rfl ?_
  refine g_getA (q2 := 44) 14 (gd rfl) rfl rfl rfl rfl ?_
  refine g_iload_n 15 (gd rfl) rfl rfl ?_
  refine g_dup2 16 (gd rfl) rfl rfl rfl ?_
  refine g_iaload 17 (gd rfl) rfl (n := 33) rfl (in_ix h2 rfl) (fun z16 e16 => ?_)
  have i16 := (show In z16 0 159 by rw [e16]; exact g2)
  refine g_iconst 1 18 (gd rfl) rfl rfl ?_
  refine g_iadd 19 (gd rfl) rfl (fun z18 e18 => ?_)
  have i18 := in_add 1 160 e18 i16 (in_c 1 rfl) rfl rfl
  refine g_iastore 20 (gd rfl) rfl (n := 33) rfl (in_ix h2 rfl) ?_
  have hI19 := rng_sI (q := 44) (j := x2.toNatClampNeg) hI9 rfl (in_w 0 160 i18 rfl)
  refine g_aload_n 21 (gd rfl) rfl rfl ?_
  refine g_getA (q2 := 40) 24 (gd rfl) rfl rfl rfl rfl ?_
  refine g_iload_n 25 (gd rfl) rfl rfl ?_
  refine g_dup2 26 (gd rfl) rfl rfl rfl ?_
  refine g_iaload 27 (gd rfl) rfl (n := 32) rfl (in_ix h1 rfl) (fun z26 e26 => ?_)
  refine g_iconst 1 28 (gd rfl) rfl rfl ?_
  refine g_iload_n 29 (gd rfl) rfl rfl ?_
  refine g_ishl 30 (gd rfl) rfl (fun z29 e29 => ?_)
  refine g_ior 31 (gd rfl) rfl (fun z30 e30 => ?_)
  refine g_iastore 32 (gd rfl) rfl (n := 32) rfl (in_ix h1 rfl) ?_
  have hI31 := rng_sI (q := 40) (j := x1.toNatClampNeg) hI19 rfl (in_w (-2147483648) 2147483647 (i_rng z30) rfl)
  refine g_aload_n 33 (gd rfl) rfl rfl ?_
  refine g_getA (q2 := 41) 36 (gd rfl) rfl rfl rfl rfl ?_
  refine g_iload_n 37 (gd rfl) rfl rfl ?_
  refine g_dup2 38 (gd rfl) rfl rfl rfl ?_
  refine g_iaload 39 (gd rfl) rfl (n := 32) rfl (in_ix h2 rfl) (fun z38 e38 => ?_)
  refine g_iconst 1 40 (gd rfl) rfl rfl ?_
  refine g_iload_n 41 (gd rfl) rfl rfl ?_
  refine g_ishl 42 (gd rfl) rfl (fun z41 e41 => ?_)
  refine g_ior 43 (gd rfl) rfl (fun z42 e42 => ?_)
  refine g_iastore 44 (gd rfl) rfl (n := 32) rfl (in_ix h2 rfl) ?_
  have hI43 := rng_sI (q := 41) (j := x2.toNatClampNeg) hI31 rfl (in_w (-2147483648) 2147483647 (i_rng z42) rfl)
  refine g_iload_n 45 (gd rfl) rfl rfl ?_
  refine g_iload_n 46 (gd rfl) rfl rfl ?_
  refine g_cmp_eq 49 73 (gd rfl) rfl rfl (fun c46 => ?_) (fun c46 => ?_)
  · skip
    exact g_return (gd rfl) rfl (hP _ _ ⟨(sI (sI (sI (sI s 42 x1.toNatClampNeg z8) 44 x2.toNatClampNeg z18) 40 x1.toNatClampNeg z30) 41 x2.toNatClampNeg z42), hI43, (fr_sI rfl (fr_sI rfl (fr_sI rfl (fr_sI rfl fr_rf)))), rfl, rfl, rfl, rfl, rfl, by rw [← e6, ← e8]; rfl, by rw [← (show z16 = s.1 44 x2.toNatClampNeg from e16), ← e18]; rfl, ⟨⟨z30, by simp [sI], fun k => by rw [tb_set e29 e30 h2, show z26 = s.1 40 x1.toNatClampNeg from e26]⟩, ⟨z42, by simp [sI], fun k => by rw [tb_set e41 e42 h1, show z38 = s.1 41 x2.toNatClampNeg from e38]⟩, fun _ => by simp [sI], fun h => absurd c46 h⟩⟩)
  · skip
    refine g_aload_n 50 (gd rfl) rfl rfl ?_
    refine g_getA (q2 := 39) 53 (gd rfl) rfl rfl rfl rfl ?_
    refine g_iload_n 54 (gd rfl) rfl rfl ?_
    refine g_dup2 55 (gd rfl) rfl rfl rfl ?_
    refine g_iaload 56 (gd rfl) rfl (n := 32) rfl (in_ix h1 rfl) (fun z55 e55 => ?_)
    refine g_iconst 1 57 (gd rfl) rfl rfl ?_
    refine g_iload_n 58 (gd rfl) rfl rfl ?_
    refine g_ishl 59 (gd rfl) rfl (fun z58 e58 => ?_)
    refine g_ior 60 (gd rfl) rfl (fun z59 e59 => ?_)
    refine g_iastore 61 (gd rfl) rfl (n := 32) rfl (in_ix h1 rfl) ?_
    have hI60 := rng_sI (q := 39) (j := x1.toNatClampNeg) hI43 rfl (in_w (-2147483648) 2147483647 (i_rng z59) rfl)
    refine g_aload_n 62 (gd rfl) rfl rfl ?_
    refine g_getA (q2 := 39) 65 (gd rfl) rfl rfl rfl rfl ?_
    refine g_iload_n 66 (gd rfl) rfl rfl ?_
    refine g_dup2 67 (gd rfl) rfl rfl rfl ?_
    refine g_iaload 68 (gd rfl) rfl (n := 32) rfl (in_ix h2 rfl) (fun z67 e67 => ?_)
    refine g_iconst 1 69 (gd rfl) rfl rfl ?_
    refine g_iload_n 70 (gd rfl) rfl rfl ?_
    refine g_ishl 71 (gd rfl) rfl (fun z70 e70 => ?_)
    refine g_ior 72 (gd rfl) rfl (fun z71 e71 => ?_)
    refine g_iastore 73 (gd rfl) rfl (n := 32) rfl (in_ix h2 rfl) ?_
    have hI72 := rng_sI (q := 39) (j := x2.toNatClampNeg) hI60 rfl (in_w (-2147483648) 2147483647 (i_rng z71) rfl)
    exact g_return (gd rfl) rfl (hP _ _ ⟨(sI (sI (sI (sI (sI (sI s 42 x1.toNatClampNeg z8) 44 x2.toNatClampNeg z18) 40 x1.toNatClampNeg z30) 41 x2.toNatClampNeg z42) 39 x1.toNatClampNeg z59) 39 x2.toNatClampNeg z71), hI72, (fr_sI rfl (fr_sI rfl (fr_sI rfl (fr_sI rfl (fr_sI rfl (fr_sI rfl fr_rf)))))), rfl, rfl, rfl, rfl, rfl, by rw [← e6, ← e8]; rfl, by rw [← (show z16 = s.1 44 x2.toNatClampNeg from e16), ← e18]; rfl, ⟨⟨z30, by simp [sI], fun k => by rw [tb_set e29 e30 h2, show z26 = s.1 40 x1.toNatClampNeg from e26]⟩, ⟨z42, by simp [sI], fun k => by rw [tb_set e41 e42 h1, show z38 = s.1 41 x2.toNatClampNeg from e38]⟩, fun h => absurd h c46, fun hne => ⟨z59, z71, by simp [sI], fun k => by rw [tb_set e58 e59 h2, show z55 = s.1 39 x1.toNatClampNeg from e55], fun k => by rw [tb_set e70 e71 h1, show z67 = s.1 39 x2.toNatClampNeg from (e67.trans (by show upd (s.1 39) x1.toNatClampNeg z59 x2.toNatClampNeg = _; exact tp_ne (fun q => hne (by have a1 := h1; have a2 := h2; unfold In at a1 a2; have q1 : x1.toNatClampNeg = x1.toInt.toNat := rfl; have q2 : x2.toNatClampNeg = x2.toInt.toNat := rfl; omega))))]⟩⟩⟩)
def fm_106_2 : FM := ([9, 10, 11, 12, 13, 14, 15], [], [(2, 4)], [])
theorem kk_t2 {s t : GS} (h : KK (mI s) (mF s)) (hF : Fr fm_106_2 s t) (hv : t.2.2.1 2 4 = t.2.2.1 2 0) (hT : TG (t.1 4) (t.1 5) (t.1 9) (t.1 10) (t.1 11) (t.1 12) (t.1 13) (t.1 14) (t.1 15) (t.2.2.1 2 3).toInt.toNat) : KK (mI t) (mF t) := by
  have hg : KG 2 (mI t) (mF t) := by
    refine ⟨?_, fun _ => ?_⟩
    · rw [mF_at rfl, mF_at rfl, hv]
      exact Int.le_refl _
    · rw [mI_at rfl, mI_at rfl, mI_at rfl, mI_at rfl, mI_at rfl, mI_at rfl, mI_at rfl, mI_at rfl, mI_at rfl, mF_at rfl]
      exact hT
  exact ⟨hg, kk_g h.2.1 hF rfl rfl rfl rfl rfl, kk_s h.2.2.1 hF rfl, kk_r h.2.2.2 hF rfl⟩
/-- GraphHouse$Graph.tie -/
theorem k_106_2 {Z : AmZ} {A : Nat → Nat} {s : GS} {ex : va_W} {d : Nat} {X : AmX} (hd : 3 ≤ d) (hI : Inv s) : GC Z d 106 [.ref (A 2)] (WW Z A s ++ ex) 0 0 (fun v u => ∃ t : GS, Inv t ∧ Fr fm_106_2 s t ∧ (t.2.2.1 2 4).toInt = (t.2.2.1 2 0).toInt ∧ v = none ∧ u = WW Z A t ++ ex) X := by
  intro post xp hP hX
  have hm1 : (Int32.ofInt (-1)).toInt = -1 := rfl
  have h01 : (Int32.ofInt 1).toInt = 1 := rfl
  have h00 : (Int32.ofInt 0).toInt = 0 := rfl
  have hz0 := inv_F hI (q := 2) (j := 3) 0 160 rfl rfl
  obtain ⟨T, hT⟩ : ∃ T : Nat, (s.2.2.1 2 3).toInt = (T : Int) := ⟨(s.2.2.1 2 3).toInt.toNat, by obtain ⟨a, b⟩ := hz0; omega⟩
  have hT2 : T ≤ 160 := by obtain ⟨a, b⟩ := hz0; omega
  have r4 : ∀ j, j < 160 → -1 ≤ (s.1 4 j).toInt ∧ (s.1 4 j).toInt ≤ 31 := fun j hj => hI.1.1 4 j hj
  have r5 : ∀ j, j < 160 → 0 ≤ (s.1 5 j).toInt ∧ (s.1 5 j).toInt ≤ 31 := fun j hj => hI.1.1 5 j hj
  have cl : ∀ y : Int32, 0 ≤ y.toInt → (y.toNatClampNeg : Int) = y.toInt := fun y hy => by
    show ((y.toInt.toNat : Nat) : Int) = y.toInt
    omega
  obtain ⟨f4, hf4⟩ : ∃ f, f = s.1 4 := ⟨_, rfl⟩
  obtain ⟨f5, hf5⟩ : ∃ f, f = s.1 5 := ⟨_, rfl⟩
  rw [← hf4] at r4
  rw [← hf5] at r5
  obtain ⟨F, hF⟩ : ∃ F, F = gF f4 := ⟨_, rfl⟩
  obtain ⟨G, hG⟩ : ∃ G, G = gG f4 f5 := ⟨_, rfl⟩
  have aF : ∀ j, j < 160 → F j = (f4 j).toInt := fun j hj => by rw [hF]; unfold gF; rw [if_pos hj]
  have aG : ∀ j, j < 160 → (f4 j).toInt ≠ -1 → G j = (f5 j).toInt := fun j hj h => by rw [hG]; unfold gG; rw [if_pos ⟨hj, h⟩]
  have bG : ∀ j, j < 160 → (f4 j).toInt = -1 → G j = -1 := fun j hj h => by rw [hG]; unfold gG; rw [if_neg (fun z => z.2 h)]
  have lF : ∀ j, F j < 32 := fun j => by
    rw [hF]
    unfold gF
    split
    · have := r4 j (by assumption)
      omega
    · omega
  have lG : ∀ j, G j < 32 := fun j => by
    rw [hG]
    unfold gG
    split
    · rename_i h
      have := r5 j h.1
      omega
    · omega
  have oF : cn F ((32 : Nat) : Int) T = 0 := cn_out F _ lF T
  have oG : cn G ((32 : Nat) : Int) T = 0 := cn_out G _ lG T
  -- the third loop
  have ct157 : ∀ (k : Nat) (t : GS) (y : Int32), Rng t → Fr fm_106_2 s t → t.2.2.1 2 4 = s.2.2.1 2 0 → t.1 4 = f4 → t.1 5 = f5 → -1 ≤ y.toInt → y.toInt < (T : Int) → (∀ u : Nat, u ≤ 32 → (t.1 12 u).toInt = pr F T u + cn F (u : Int) (y.toInt + 1).toNat ∧ (t.1 14 u).toInt = pr G T u + cn G (u : Int) (y.toInt + 1).toNat) → (t.2.2.1 2 3).toInt = (T : Int) → MSK f4 f5 (t.1 9) (t.1 10) (t.1 11) T → RWS F T (t.1 13) (y.toInt + 1).toNat → RWS G T (t.1 15) (y.toInt + 1).toNat → y.toInt + 1 < (k : Int) → GG Z (d - 1) 106 post (gx xp) (10 + k * 100) 157 (fun j => xlook j [(0, .ref (A 2)), (1, .int y)]) [] (WW Z A t ++ ex) 0 0 := by
    intro k
    induction k with
    | zero => intro t y hJ hK hV h4 h5 y0 y1 hu h3 hM hO hN hm; omega
    | succ k ih =>
      intro t y hJ hK hV h4 h5 y0 y1 hu h3 hM hO hN hm
      refine gg_w (M := 10 + k * 100 + 100) (by omega) ?_
      refine g_iload_n 158 (gd rfl) rfl rfl ?_
      refine g_if_lt 161 241 (gd rfl) rfl rfl (fun c => ?_) (fun c => ?_)
      · have ey : (y.toInt + 1).toNat = 0 := by omega
        rw [ey] at hu
        rw [ey] at hO hN
        have hTG : TG (t.1 4) (t.1 5) (t.1 9) (t.1 10) (t.1 11) (t.1 12) (t.1 13) (t.1 14) (t.1 15) (t.2.2.1 2 3).toInt.toNat := by
          have eT : (t.2.2.1 2 3).toInt.toNat = T := by omega
          rw [eT, h4, h5]
          refine ⟨fun v hv => ?_, by rw [← hF]; exact hO, by rw [← hG]; exact hN, hM⟩
          have h := hu v hv
          have h0 : cn F (v : Int) 0 = 0 := rfl
          have h1 : cn G (v : Int) 0 = 0 := rfl
          rw [h0, h1] at h
          rw [← hF, ← hG]
          exact ⟨by omega, by omega⟩
        have hV0 : t.2.2.1 2 0 = s.2.2.1 2 0 := hK.2.2.1 2 0 rfl
        have hin : Inv t := ⟨hJ, kk_t2 hI.2 hK (by rw [hV, hV0]) hTG⟩
        exact g_return (gd rfl) rfl (hP _ _ ⟨t, hin, hK, by rw [hV, hV0], rfl, rfl⟩)
      · have iy : In y 0 159 := ⟨c, by omega⟩
        obtain ⟨p, hp⟩ : ∃ p : Nat, y.toInt = (p : Int) := ⟨y.toInt.toNat, by omega⟩
        have hp1 : (y.toInt + 1).toNat = p + 1 := by omega
        have hpc : y.toNatClampNeg = p := by have := cl y c; omega
        have hp2 : p < 160 := by omega
        rw [hp1] at hu hO hN
        refine g_aload_n 162 (gd rfl) rfl rfl ?_
        refine g_getA (q2 := 4) 165 (gd rfl) rfl rfl rfl rfl ?_
        refine g_iload_n 166 (gd rfl) rfl rfl ?_
        refine g_iaload 167 (gd rfl) rfl (n := 160) rfl (in_ix iy rfl) (fun z1 e1 => ?_)
        rw [h4, hpc] at e1
        refine g_iconst (-1) 168 (gd rfl) rfl rfl ?_
        refine g_cmp_eq 171 235 (gd rfl) rfl rfl (fun c1 => ?_) (fun c1 => ?_)
        · have hneg : (f4 p).toInt = -1 := by rw [← e1]; exact c1
          have m1 : F p = -1 := by rw [aF p hp2]; exact hneg
          have m2 : G p = -1 := bG p hp2 hneg
          refine g_iinc 238 (gd rfl) rfl rfl (Nat.le_of_ble_eq_true rfl) (fun z e => ?_)
          refine g_goto 157 (gd rfl) rfl ?_
          have ez := t_add e iy (in_c (-1) rfl) rfl
          refine gg_w (by omega) (gg_f (gf_cons rfl (gf_cons rfl gf_nil)) (ih t z hJ hK hV h4 h5 (by omega) (by omega) (fun u hu2 => ?_) h3 hM (by rw [show (z.toInt + 1).toNat = p by omega]; exact rws_n hO m1) (by rw [show (z.toInt + 1).toNat = p by omega]; exact rws_n hN m2) (by omega)))
          have e9 : (z.toInt + 1).toNat = p := by omega
          have hu3 := hu u hu2
          rw [cn_miss (by omega), cn_miss (by omega)] at hu3
          rw [e9]
          exact hu3
        · have q1 := r4 p hp2
          have iz1 : In z1 0 31 := ⟨by rw [e1]; rw [e1] at c1; omega, by rw [e1]; omega⟩
          obtain ⟨w, hw⟩ : ∃ w : Nat, z1.toInt = (w : Int) := ⟨z1.toInt.toNat, by obtain ⟨a, b⟩ := iz1; omega⟩
          have hwc : z1.toNatClampNeg = w := by have := cl z1 iz1.1; omega
          have hw31 : w ≤ 31 := by obtain ⟨a, b⟩ := iz1; omega
          have hFp : F p = (w : Int) := by rw [aF p hp2, ← e1, hw]
          have hnn : (f4 p).toInt ≠ -1 := by rw [← e1]; rw [hm1] at c1; exact c1
          have q2 := r5 p hp2
          refine g_aload_n 172 (gd rfl) rfl rfl ?_
          refine g_getA (q2 := 12) 175 (gd rfl) rfl rfl rfl rfl ?_
          refine g_aload_n 176 (gd rfl) rfl rfl ?_
          refine g_getA (q2 := 4) 179 (gd rfl) rfl rfl rfl rfl ?_
          refine g_iload_n 180 (gd rfl) rfl rfl ?_
          refine g_iaload 181 (gd rfl) rfl (n := 160) rfl (in_ix iy rfl) (fun z2 e2 => ?_)
          rw [h4, hpc] at e2
          have e2 : z1 = z2 := e1.trans e2.symm
          subst e2
          refine g_dup2 182 (gd rfl) rfl rfl rfl ?_
          refine g_iaload 183 (gd rfl) rfl (n := 33) rfl (in_ix iz1 rfl) (fun z3 e3 => ?_)
          rw [hwc] at e3
          have k3 := (hu w (by omega)).1
          rw [cn_hit hFp, ← e3] at k3
          have p1 := pr_0 F T w
          have p2 := cn_0 F (w : Int) p
          have p3 := pr_le F T (w + 1)
          have p3' : pr F T (w + 1) = pr F T w + cn F (w : Int) T := rfl
          have p4 := cn_mono F (w : Int) (show p + 1 ≤ T by omega)
          rw [cn_hit hFp] at p4
          have iz3 : In z3 1 160 := ⟨by omega, by omega⟩
          refine g_iconst 1 184 (gd rfl) rfl rfl ?_
          refine g_isub 185 (gd rfl) rfl (fun z4 e4 => ?_)
          have t4 := t_sub e4 iz3 (in_c 1 rfl) rfl
          have iz4 := in_sub 0 159 e4 iz3 (in_c 1 rfl) rfl rfl
          refine g_iastore 186 (gd rfl) rfl (n := 33) rfl (in_ix iz1 rfl) ?_
          have hJ1 := rng_sI (q := 12) (j := z1.toNatClampNeg) hJ rfl (in_w 0 160 iz4 rfl)
          refine g_aload_n 187 (gd rfl) rfl rfl ?_
          refine g_getA (q2 := 13) 190 (gd rfl) rfl rfl rfl rfl ?_
          refine g_aload_n 191 (gd rfl) rfl rfl ?_
          refine g_getA (q2 := 12) 194 (gd rfl) rfl rfl rfl rfl ?_
          refine g_aload_n 195 (gd rfl) rfl rfl ?_
          refine g_getA (q2 := 4) 198 (gd rfl) rfl rfl rfl rfl ?_
          refine g_iload_n 199 (gd rfl) rfl rfl ?_
          refine g_iaload 200 (gd rfl) rfl (n := 160) rfl (in_ix iy rfl) (fun z5 e5 => ?_)
          have e5 : z5 = t.1 4 y.toNatClampNeg := e5
          rw [h4, hpc] at e5
          have e5 : z1 = z5 := e1.trans e5.symm
          subst e5
          refine g_iaload 201 (gd rfl) rfl (n := 33) rfl (in_ix iz1 rfl) (fun z6 e6 => ?_)
          have e6 : z4 = z6 := sI_get.trans e6.symm
          subst e6
          refine g_iload_n 202 (gd rfl) rfl rfl ?_
          refine g_iastore 203 (gd rfl) rfl (n := 160) rfl (in_ix iz4 rfl) ?_
          have hJ2 := rng_sI (q := 13) (j := z4.toNatClampNeg) hJ1 rfl iy
          refine g_aload_n 204 (gd rfl) rfl rfl ?_
          refine g_getA (q2 := 14) 207 (gd rfl) rfl rfl rfl rfl ?_
          refine g_aload_n 208 (gd rfl) rfl rfl ?_
          refine g_getA (q2 := 5) 211 (gd rfl) rfl rfl rfl rfl ?_
          refine g_iload_n 212 (gd rfl) rfl rfl ?_
          refine g_iaload 213 (gd rfl) rfl (n := 160) rfl (in_ix iy rfl) (fun z7 e7 => ?_)
          have e7 : z7 = t.1 5 y.toNatClampNeg := e7
          rw [h5, hpc] at e7
          have iz7 : In z7 0 31 := ⟨by rw [e7]; omega, by rw [e7]; omega⟩
          obtain ⟨x, hx⟩ : ∃ x : Nat, z7.toInt = (x : Int) := ⟨z7.toInt.toNat, by obtain ⟨a, b⟩ := iz7; omega⟩
          have hxc : z7.toNatClampNeg = x := by have := cl z7 iz7.1; omega
          have hx31 : x ≤ 31 := by obtain ⟨a, b⟩ := iz7; omega
          have hGp : G p = (x : Int) := by rw [aG p hp2 hnn, ← e7, hx]
          refine g_dup2 214 (gd rfl) rfl rfl rfl ?_
          refine g_iaload 215 (gd rfl) rfl (n := 33) rfl (in_ix iz7 rfl) (fun z8 e8 => ?_)
          have e8 : z8 = t.1 14 z7.toNatClampNeg := e8
          rw [hxc] at e8
          have k8 := (hu x (by omega)).2
          rw [cn_hit hGp, ← e8] at k8
          have s1 := pr_0 G T x
          have s2 := cn_0 G (x : Int) p
          have s3 := pr_le G T (x + 1)
          have s3' : pr G T (x + 1) = pr G T x + cn G (x : Int) T := rfl
          have s4 := cn_mono G (x : Int) (show p + 1 ≤ T by omega)
          rw [cn_hit hGp] at s4
          have iz8 : In z8 1 160 := ⟨by omega, by omega⟩
          refine g_iconst 1 216 (gd rfl) rfl rfl ?_
          refine g_isub 217 (gd rfl) rfl (fun z9 e9 => ?_)
          have t9 := t_sub e9 iz8 (in_c 1 rfl) rfl
          have iz9 := in_sub 0 159 e9 iz8 (in_c 1 rfl) rfl rfl
          refine g_iastore 218 (gd rfl) rfl (n := 33) rfl (in_ix iz7 rfl) ?_
          have hJ3 := rng_sI (q := 14) (j := z7.toNatClampNeg) hJ2 rfl (in_w 0 160 iz9 rfl)
          refine g_aload_n 219 (gd rfl) rfl rfl ?_
          refine g_getA (q2 := 15) 222 (gd rfl) rfl rfl rfl rfl ?_
          refine g_aload_n 223 (gd rfl) rfl rfl ?_
          refine g_getA (q2 := 14) 226 (gd rfl) rfl rfl rfl rfl ?_
          refine g_aload_n 227 (gd rfl) rfl rfl ?_
          refine g_getA (q2 := 5) 230 (gd rfl) rfl rfl rfl rfl ?_
          refine g_iload_n 231 (gd rfl) rfl rfl ?_
          refine g_iaload 232 (gd rfl) rfl (n := 160) rfl (in_ix iy rfl) (fun z10 e10 => ?_)
          have e10 : z10 = t.1 5 y.toNatClampNeg := e10
          rw [h5, hpc] at e10
          have e10 : z7 = z10 := e7.trans e10.symm
          subst e10
          refine g_iaload 233 (gd rfl) rfl (n := 33) rfl (in_ix iz7 rfl) (fun z11 e11 => ?_)
          have e11 : z9 = z11 := sI_get.trans e11.symm
          subst e11
          refine g_iload_n 234 (gd rfl) rfl rfl ?_
          refine g_iastore 235 (gd rfl) rfl (n := 160) rfl (in_ix iz9 rfl) ?_
          have hJ4 := rng_sI (q := 15) (j := z9.toNatClampNeg) hJ3 rfl iy
          have hz9 : (z9.toNatClampNeg : Int) = z9.toInt := cl z9 iz9.1
          have hz4 : (z4.toNatClampNeg : Int) = z4.toInt := cl z4 iz4.1
          have hO2 := rws_s (os2 := upd (t.1 13) z4.toNatClampNeg y) hO (by omega) hFp (by omega) hp rfl
          have hN2 := rws_s (os2 := upd (t.1 15) z9.toNatClampNeg y) hN (by omega) hGp (by omega) hp rfl
          refine g_iinc 238 (gd rfl) rfl rfl (Nat.le_of_ble_eq_true rfl) (fun z e => ?_)
          refine g_goto 157 (gd rfl) rfl ?_
          have ez := t_add e iy (in_c (-1) rfl) rfl
          refine gg_w (by omega) (gg_f (gf_cons rfl (gf_cons rfl gf_nil)) (ih _ z hJ4 (fr_sI rfl (fr_sI rfl (fr_sI rfl (fr_sI rfl hK)))) hV h4 h5 (by omega) (by omega) (fun u hu2 => ?_) h3 hM (by rw [show (z.toInt + 1).toNat = p by omega]; exact hO2) (by rw [show (z.toInt + 1).toNat = p by omega]; exact hN2) (by omega)))
          have e12 : (z.toInt + 1).toNat = p := by omega
          rw [e12]
          have hu3 := hu u hu2
          have g1 : (upd (t.1 12) z1.toNatClampNeg z4 u).toInt = pr F T u + cn F (u : Int) p := by
            rw [hwc, up_at]
            by_cases b : u = w
            · subst b
              rw [if_pos rfl]
              omega
            · rw [if_neg b, hu3.1, cn_miss (by rw [hFp]; omega)]
          have g2 : (upd (t.1 14) z7.toNatClampNeg z9 u).toInt = pr G T u + cn G (u : Int) p := by
            rw [hxc, up_at]
            by_cases b : u = x
            · subst b
              rw [if_pos rfl]
              omega
            · rw [if_neg b, hu3.2, cn_miss (by rw [hGp]; omega)]
          exact ⟨g1, g2⟩
  -- the second loop
  have ct104 : ∀ (k : Nat) (t : GS) (y : Int32), Rng t → Fr fm_106_2 s t → t.2.2.1 2 4 = s.2.2.1 2 0 → t.1 4 = f4 → t.1 5 = f5 → (t.2.2.1 2 3).toInt = (T : Int) → MSK f4 f5 (t.1 9) (t.1 10) (t.1 11) T → 1 ≤ y.toInt → y.toInt ≤ 33 → (∀ u : Nat, u ≤ 32 → (t.1 12 u).toInt = (if (u : Int) < y.toInt then pr F T (u + 1) else cn F (u : Int) T) ∧ (t.1 14 u).toInt = (if (u : Int) < y.toInt then pr G T (u + 1) else cn G (u : Int) T)) → 33 - y.toInt < (k : Int) → GG Z (d - 1) 106 post (gx xp) (20000 + k * 100) 104 (fun j => xlook j [(0, .ref (A 2)), (1, .int y)]) [] (WW Z A t ++ ex) 0 0 := by
    intro k
    induction k with
    | zero => intro t y hJ hK hV h4 h5 h3 hM y0 y1 hu hm; omega
    | succ k ih =>
      intro t y hJ hK hV h4 h5 h3 hM y0 y1 hu hm
      refine gg_w (M := 20000 + k * 100 + 100) (by omega) ?_
      refine g_iload_n 105 (gd rfl) rfl rfl ?_
      refine g_bipush 32 107 (gd rfl) rfl rfl ?_
      have h32 : (Int32.ofInt 32).toInt = 32 := rfl
      refine g_cmp_gt 110 150 (gd rfl) rfl rfl (fun c => ?_) (fun c => ?_)
      · refine g_aload_n 151 (gd rfl) rfl rfl ?_
        refine g_getI 154 (gd rfl) rfl rfl rfl (fun z1 e1 => ?_)
        refine g_iconst 1 155 (gd rfl) rfl rfl ?_
        refine g_isub 156 (gd rfl) rfl (fun z2 e2 => ?_)
        have iz1 : In z1 0 160 := ⟨by rw [e1]; omega, by rw [e1]; omega⟩
        have t2 := t_sub e2 iz1 (in_c 1 rfl) rfl
        rw [e1, h3] at t2
        refine g_istore_n 157 (gd rfl) rfl (Nat.le_of_ble_eq_true rfl) ?_
        refine gg_w (by omega) (gg_f (gf_cons rfl (gf_cons rfl gf_nil)) (ct157 162 t z2 hJ hK hV h4 h5 (by omega) (by omega) (fun u hu2 => ?_) h3 hM (by rw [show (z2.toInt + 1).toNat = T by omega]; exact rws_e) (by rw [show (z2.toInt + 1).toNat = T by omega]; exact rws_e) (by omega)))
        have e9 : (z2.toInt + 1).toNat = T := by omega
        have hu3 := hu u hu2
        rw [if_pos (by omega), if_pos (by omega)] at hu3
        rw [e9]
        exact hu3
      · obtain ⟨p, hp⟩ : ∃ p : Nat, y.toInt = ((p + 1 : Nat) : Int) := ⟨(y.toInt - 1).toNat, by omega⟩
        have hpc : y.toNatClampNeg = p + 1 := by have := cl y (by omega); omega
        have iy : In y 1 32 := ⟨y0, by omega⟩
        have ku := hu (p + 1) (by omega)
        have kv := hu p (by omega)
        rw [if_neg (by omega), if_neg (by omega)] at ku
        rw [if_pos (by omega), if_pos (by omega)] at kv
        have a1 := cn_0 F ((p + 1 : Nat) : Int) T
        have a2 := pr_0 F T (p + 1)
        have a3 := pr_le F T (p + 1 + 1)
        have a4 : pr F T (p + 1 + 1) = pr F T (p + 1) + cn F ((p + 1 : Nat) : Int) T := rfl
        have b1 := cn_0 G ((p + 1 : Nat) : Int) T
        have b2 := pr_0 G T (p + 1)
        have b3 := pr_le G T (p + 1 + 1)
        have b4 : pr G T (p + 1 + 1) = pr G T (p + 1) + cn G ((p + 1 : Nat) : Int) T := rfl
        refine g_aload_n 111 (gd rfl) rfl rfl ?_
        refine g_getA (q2 := 12) 114 (gd rfl) rfl rfl rfl rfl ?_
        refine g_iload_n 115 (gd rfl) rfl rfl ?_
        refine g_dup2 116 (gd rfl) rfl rfl rfl ?_
        refine g_iaload 117 (gd rfl) rfl (n := 33) rfl (in_ix iy rfl) (fun z1 e1 => ?_)
        rw [hpc] at e1
        refine g_aload_n 118 (gd rfl) rfl rfl ?_
        refine g_getA (q2 := 12) 121 (gd rfl) rfl rfl rfl rfl ?_
        refine g_iload_n 122 (gd rfl) rfl rfl ?_
        refine g_iconst 1 123 (gd rfl) rfl rfl ?_
        refine g_isub 124 (gd rfl) rfl (fun z2 e2 => ?_)
        have t2 := t_sub e2 iy (in_c 1 rfl) rfl
        have iz2 := in_sub 0 31 e2 iy (in_c 1 rfl) rfl rfl
        have hzc : z2.toNatClampNeg = p := by have := cl z2 iz2.1; omega
        refine g_iaload 125 (gd rfl) rfl (n := 33) rfl (in_ix iz2 rfl) (fun z3 e3 => ?_)
        rw [hzc] at e3
        rw [← e1] at ku
        rw [← e3] at kv
        have iz1 : In z1 0 160 := ⟨by omega, by omega⟩
        have iz3 : In z3 0 160 := ⟨by omega, by omega⟩
        refine g_iadd 126 (gd rfl) rfl (fun z4 e4 => ?_)
        have t4 := t_add e4 iz1 iz3 rfl
        have iz4 : In z4 0 160 := ⟨by omega, by omega⟩
        refine g_iastore 127 (gd rfl) rfl (n := 33) rfl (in_ix iy rfl) ?_
        have hJ1 := rng_sI (q := 12) (j := y.toNatClampNeg) hJ rfl iz4
        refine g_aload_n 128 (gd rfl) rfl rfl ?_
        refine g_getA (q2 := 14) 131 (gd rfl) rfl rfl rfl rfl ?_
        refine g_iload_n 132 (gd rfl) rfl rfl ?_
        refine g_dup2 133 (gd rfl) rfl rfl rfl ?_
        refine g_iaload 134 (gd rfl) rfl (n := 33) rfl (in_ix iy rfl) (fun z5 e5 => ?_)
        have e5 : z5 = t.1 14 y.toNatClampNeg := e5
        rw [hpc] at e5
        refine g_aload_n 135 (gd rfl) rfl rfl ?_
        refine g_getA (q2 := 14) 138 (gd rfl) rfl rfl rfl rfl ?_
        refine g_iload_n 139 (gd rfl) rfl rfl ?_
        refine g_iconst 1 140 (gd rfl) rfl rfl ?_
        refine g_isub 141 (gd rfl) rfl (fun z6 e6 => ?_)
        have t6 := t_sub e6 iy (in_c 1 rfl) rfl
        have iz6 := in_sub 0 31 e6 iy (in_c 1 rfl) rfl rfl
        have hzc6 : z6.toNatClampNeg = p := by have := cl z6 iz6.1; omega
        refine g_iaload 142 (gd rfl) rfl (n := 33) rfl (in_ix iz6 rfl) (fun z7 e7 => ?_)
        have e7 : z7 = t.1 14 z6.toNatClampNeg := e7
        rw [hzc6] at e7
        rw [← e5] at ku
        rw [← e7] at kv
        have iz5 : In z5 0 160 := ⟨by omega, by omega⟩
        have iz7 : In z7 0 160 := ⟨by omega, by omega⟩
        refine g_iadd 143 (gd rfl) rfl (fun z8 e8 => ?_)
        have t8 := t_add e8 iz5 iz7 rfl
        have iz8 : In z8 0 160 := ⟨by omega, by omega⟩
        refine g_iastore 144 (gd rfl) rfl (n := 33) rfl (in_ix iy rfl) ?_
        have hJ2 := rng_sI (q := 14) (j := y.toNatClampNeg) hJ1 rfl iz8
        refine g_iinc 147 (gd rfl) rfl rfl (Nat.le_of_ble_eq_true rfl) (fun z e => ?_)
        refine g_goto 104 (gd rfl) rfl ?_
        have ez := t_add e iy (in_c 1 rfl) rfl
        refine gg_w (by omega) (gg_f (gf_cons rfl (gf_cons rfl gf_nil)) (ih _ z hJ2 (fr_sI rfl (fr_sI rfl hK)) hV h4 h5 h3 hM (by omega) (by omega) (fun u hu2 => ?_) (by omega)))
        have hu3 := hu u hu2
        have g1 : (upd (t.1 12) y.toNatClampNeg z4 u).toInt = (if (u : Int) < z.toInt then pr F T (u + 1) else cn F (u : Int) T) := by
          rw [hpc, up_at]
          by_cases b : u = p + 1
          · subst b
            rw [if_pos rfl, if_pos (by omega)]
            omega
          · rw [if_neg b, hu3.1]
            by_cases b2 : (u : Int) < y.toInt
            · rw [if_pos b2, if_pos (by omega)]
            · rw [if_neg b2, if_neg (by omega)]
        have g2 : (upd (t.1 14) y.toNatClampNeg z8 u).toInt = (if (u : Int) < z.toInt then pr G T (u + 1) else cn G (u : Int) T) := by
          rw [hpc, up_at]
          by_cases b : u = p + 1
          · subst b
            rw [if_pos rfl, if_pos (by omega)]
            omega
          · rw [if_neg b, hu3.2]
            by_cases b2 : (u : Int) < y.toInt
            · rw [if_pos b2, if_pos (by omega)]
            · rw [if_neg b2, if_neg (by omega)]
        exact ⟨g1, g2⟩
  -- the first loop
  have ct62 : ∀ (k : Nat) (t : GS) (y : Int32), Rng t → Fr fm_106_2 s t → t.2.2.1 2 4 = s.2.2.1 2 0 → t.1 4 = f4 → t.1 5 = f5 → (t.2.2.1 2 3).toInt = (T : Int) → MSK f4 f5 (t.1 9) (t.1 10) (t.1 11) y.toInt.toNat → 0 ≤ y.toInt → y.toInt ≤ (T : Int) → (∀ u : Nat, u ≤ 32 → (t.1 12 u).toInt = cn F (u : Int) y.toInt.toNat ∧ (t.1 14 u).toInt = cn G (u : Int) y.toInt.toNat) → (T : Int) - y.toInt < (k : Int) → GG Z (d - 1) 106 post (gx xp) (30000 + k * 100) 62 (fun j => xlook j [(0, .ref (A 2)), (1, .int y)]) [] (WW Z A t ++ ex) 0 0 := by
    intro k
    induction k with
    | zero => intro t y hJ hK hV h4 h5 h3 hM y0 y1 hu hm; omega
    | succ k ih =>
      intro t y hJ hK hV h4 h5 h3 hM y0 y1 hu hm
      refine gg_w (M := 30000 + k * 100 + 100) (by omega) ?_
      refine g_iload_n 63 (gd rfl) rfl rfl ?_
      refine g_aload_n 64 (gd rfl) rfl rfl ?_
      refine g_getI 67 (gd rfl) rfl rfl rfl (fun z0 e0 => ?_)
      rw [← e0] at h3
      refine g_cmp_ge 70 102 (gd rfl) rfl rfl (fun c => ?_) (fun c => ?_)
      · have ey : y.toInt.toNat = T := by omega
        rw [ey] at hu hM
        refine g_iconst 1 103 (gd rfl) rfl rfl ?_
        refine g_istore_n 104 (gd rfl) rfl (Nat.le_of_ble_eq_true rfl) ?_
        refine gg_w (by omega) (gg_f (gf_cons rfl (gf_cons rfl gf_nil)) (ct104 33 t (Int32.ofInt 1) hJ hK hV h4 h5 (by rw [← e0]; exact h3) hM (by omega) (by omega) (fun u hu2 => ?_) (by omega)))
        have hu3 := hu u hu2
        rw [h01]
        by_cases b : (u : Int) < 1
        · have b0 : u = 0 := by omega
          subst b0
          rw [if_pos b, if_pos b]
          have d1 : pr F T (0 + 1) = 0 + cn F ((0 : Nat) : Int) T := rfl
          have d2 : pr G T (0 + 1) = 0 + cn G ((0 : Nat) : Int) T := rfl
          rw [d1, d2]
          exact ⟨by omega, by omega⟩
        · rw [if_neg b, if_neg b]
          exact hu3
      · have iy : In y 0 159 := ⟨y0, by omega⟩
        obtain ⟨p, hp⟩ : ∃ p : Nat, y.toInt = (p : Int) := ⟨y.toInt.toNat, by omega⟩
        have hp1 : y.toInt.toNat = p := by omega
        have hpc : y.toNatClampNeg = p := by have := cl y y0; omega
        have hp2 : p < 160 := by omega
        rw [hp1] at hu hM
        refine g_aload_n 71 (gd rfl) rfl rfl ?_
        refine g_getA (q2 := 4) 74 (gd rfl) rfl rfl rfl rfl ?_
        refine g_iload_n 75 (gd rfl) rfl rfl ?_
        refine g_iaload 76 (gd rfl) rfl (n := 160) rfl (in_ix iy rfl) (fun z1 e1 => ?_)
        rw [h4, hpc] at e1
        refine g_iconst (-1) 77 (gd rfl) rfl rfl ?_
        refine g_cmp_eq 80 96 (gd rfl) rfl rfl (fun c1 => ?_) (fun c1 => ?_)
        · have hneg : (f4 p).toInt = -1 := by rw [← e1]; exact c1
          have m1 : F p = -1 := by rw [aF p hp2]; exact hneg
          have m2 : G p = -1 := bG p hp2 hneg
          refine g_iinc 99 (gd rfl) rfl rfl (Nat.le_of_ble_eq_true rfl) (fun z e => ?_)
          refine g_goto 62 (gd rfl) rfl ?_
          have ez := t_add e iy (in_c 1 rfl) rfl
          refine gg_w (by omega) (gg_f (gf_cons rfl (gf_cons rfl gf_nil)) (ih t z hJ hK hV h4 h5 (by rw [← e0]; exact h3) (by rw [show z.toInt.toNat = p + 1 by omega]; exact msk_n hM (by rw [← hF]; exact m1)) (by omega) (by omega) (fun u hu2 => ?_) (by omega)))
          have e9 : z.toInt.toNat = p + 1 := by omega
          have hu3 := hu u hu2
          rw [e9, cn_miss (by omega), cn_miss (by omega)]
          exact hu3
        · have q1 := r4 p hp2
          have q2 := r5 p hp2
          have iz1 : In z1 0 31 := ⟨by rw [e1]; rw [e1] at c1; omega, by rw [e1]; omega⟩
          obtain ⟨w, hw⟩ : ∃ w : Nat, z1.toInt = (w : Int) := ⟨z1.toInt.toNat, by obtain ⟨a, b⟩ := iz1; omega⟩
          have hwc : z1.toNatClampNeg = w := by have := cl z1 iz1.1; omega
          have hw31 : w ≤ 31 := by obtain ⟨a, b⟩ := iz1; omega
          have hFp : F p = (w : Int) := by rw [aF p hp2, ← e1, hw]
          have hnn : (f4 p).toInt ≠ -1 := by rw [← e1]; rw [hm1] at c1; exact c1
          refine g_aload_n 81 (gd rfl) rfl rfl ?_
          refine g_aload_n 82 (gd rfl) rfl rfl ?_
          refine g_getA (q2 := 4) 85 (gd rfl) rfl rfl rfl rfl ?_
          refine g_iload_n 86 (gd rfl) rfl rfl ?_
          refine g_iaload 87 (gd rfl) rfl (n := 160) rfl (in_ix iy rfl) (fun z2 e2 => ?_)
          rw [h4, hpc] at e2
          have e2 : z1 = z2 := e1.trans e2.symm
          subst e2
          refine g_aload_n 88 (gd rfl) rfl rfl ?_
          refine g_getA (q2 := 5) 91 (gd rfl) rfl rfl rfl rfl ?_
          refine g_iload_n 92 (gd rfl) rfl rfl ?_
          refine g_iaload 93 (gd rfl) rfl (n := 160) rfl (in_ix iy rfl) (fun z3 e3 => ?_)
          rw [h5, hpc] at e3
          have iz3 : In z3 0 31 := ⟨by rw [e3]; omega, by rw [e3]; omega⟩
          obtain ⟨x, hx⟩ : ∃ x : Nat, z3.toInt = (x : Int) := ⟨z3.toInt.toNat, by obtain ⟨a, b⟩ := iz3; omega⟩
          have hxc : z3.toNatClampNeg = x := by have := cl z3 iz3.1; omega
          have hx31 : x ≤ 31 := by obtain ⟨a, b⟩ := iz3; omega
          have hGp : G p = (x : Int) := by rw [aG p hp2 hnn, ← e3, hx]
          have a1 := (hu w (by omega)).1
          have a2 := cn_le F (w : Int) p
          have a3 := cn_0 F (w : Int) p
          have b1 := (hu x (by omega)).2
          have b2 := cn_le G (x : Int) p
          have b3 := cn_0 G (x : Int) p
          refine g_callv (X := _) (As := [.int z1, .int z3]) (r := []) (b := A 2) (q := 2) 96 (gd rfl) rfl rfl rfl rfl rfl (ww_o rfl) (Nat.le_of_ble_eq_true rfl) (Nat.zero_le _) (Nat.zero_le _) (x_107_2 (by omega) hJ iz1 iz3 (by rw [hwc]; exact ⟨by omega, by omega⟩) (by rw [hxc]; exact ⟨by omega, by omega⟩)) (fun e u h => h) (fun v u h => ?_)
          obtain ⟨t2, hJ2, uF, rfl, rfl, u4, u5, u3, uo, ui, ute⟩ := h
          show GG _ _ _ _ _ _ _ _ [] _ _ _
          refine g_iinc 99 (gd rfl) rfl rfl (Nat.le_of_ble_eq_true rfl) (fun z e => ?_)
          refine g_goto 62 (gd rfl) rfl ?_
          have ez := t_add e iy (in_c 1 rfl) rfl
          refine gg_w (by omega) (gg_f (gf_cons rfl (gf_cons rfl gf_nil)) (ih t2 z hJ2 (fr_tr rfl hK uF) (by rw [u3]; exact hV) (by rw [u4, h4]) (by rw [u5, h5]) (by rw [u3, ← e0]; exact h3) (by rw [show z.toInt.toNat = p + 1 by omega]; exact msk_s hM (by rw [← hF]; exact hFp) (by rw [← hG]; exact hGp) hw hx (by omega) (by omega) ute) (by omega) (by omega) (fun u hu2 => ?_) (by omega)))
          have e9 : z.toInt.toNat = p + 1 := by omega
          have hu3 := hu u hu2
          rw [e9, uo, ui, hwc, hxc, up_at, up_at]
          have tw : (t.1 12 w + Int32.ofInt 1).toInt = (t.1 12 w).toInt + 1 := by
            have := t_add (x := t.1 12 w) (y := Int32.ofInt 1) rfl (a := 0) (b := 159) ⟨by omega, by omega⟩ (in_c 1 rfl) rfl
            rw [this, h01]
          have tx : (t.1 14 x + Int32.ofInt 1).toInt = (t.1 14 x).toInt + 1 := by
            have := t_add (x := t.1 14 x) (y := Int32.ofInt 1) rfl (a := 0) (b := 159) ⟨by omega, by omega⟩ (in_c 1 rfl) rfl
            rw [this, h01]
          constructor
          · by_cases b : u = w
            · subst b
              rw [if_pos rfl, tw, cn_hit hFp]
              omega
            · rw [if_neg b, hu3.1, cn_miss (by rw [hFp]; omega)]
          · by_cases b : u = x
            · subst b
              rw [if_pos rfl, tx, cn_hit hGp]
              omega
            · rw [if_neg b, hu3.2, cn_miss (by rw [hGp]; omega)]
  refine g_enter2 (k := 106) (N := 60000) (by omega) rfl (Nat.le_of_ble_eq_true rfl) ?_
  refine g_aload_n 1 (gd rfl) rfl rfl ?_
  refine g_getI 4 (gd rfl) rfl rfl rfl (fun z1 e1 => ?_)
  refine g_aload_n 5 (gd rfl) rfl rfl ?_
  refine g_getI 8 (gd rfl) rfl rfl rfl (fun z2 e2 => ?_)
  have i2 := inv_F hI 0 4000 rfl e2
  refine g_cmp_ne 11 12 (gd rfl) rfl rfl (fun c => ?_) (fun c => ?_)
  · refine g_aload_n 13 (gd rfl) rfl rfl ?_
    refine g_aload_n 14 (gd rfl) rfl rfl ?_
    refine g_getI 17 (gd rfl) rfl rfl rfl (fun z3 e3 => ?_)
    have i3 := inv_F hI 0 4000 rfl e3
    refine g_putI 20 (gd rfl) rfl rfl rfl rfl ?_
    have hI1 := rng_sF (q := 2) (j := 4) hI.1 rfl (in_w (-1) 4000 i3 rfl)
    refine g_aload_n 21 (gd rfl) rfl rfl ?_
    refine g_getA (q2 := 9) 24 (gd rfl) rfl rfl rfl rfl ?_
    refine g_iconst 0 25 (gd rfl) rfl rfl ?_
    refine g_calls (As := [.ref (A 9), .int (Int32.ofInt 0)]) (r := []) 28 (gd rfl) rfl rfl rfl rfl rfl (Nat.le_of_ble_eq_true rfl) (Nat.zero_le _) (Nat.zero_le _) (x_417 (q := 9) (n := 32) (by omega) rfl (by decide)) (fun v u h => ?_)
    obtain ⟨g1, rfl, rfl, hg1⟩ := h
    show GG _ _ _ _ _ _ _ _ [] _ _ _
    have hI2 := rng_sA (q := 9) (g := g1) hI1 (fun i hi => by rw [hg1 i hi]; exact (in_w (-2147483648) 2147483647 (in_c 0 rfl) rfl : In (Int32.ofInt 0) (-2147483648) 2147483647))
    refine g_aload_n 29 (gd rfl) rfl rfl ?_
    refine g_getA (q2 := 10) 32 (gd rfl) rfl rfl rfl rfl ?_
    refine g_iconst 0 33 (gd rfl) rfl rfl ?_
    refine g_calls (As := [.ref (A 10), .int (Int32.ofInt 0)]) (r := []) 36 (gd rfl) rfl rfl rfl rfl rfl (Nat.le_of_ble_eq_true rfl) (Nat.zero_le _) (Nat.zero_le _) (x_417 (q := 10) (n := 32) (by omega) rfl (by decide)) (fun v u h => ?_)
    obtain ⟨g2, rfl, rfl, hg2⟩ := h
    show GG _ _ _ _ _ _ _ _ [] _ _ _
    have hI3 := rng_sA (q := 10) (g := g2) hI2 (fun i hi => by rw [hg2 i hi]; exact (in_w (-2147483648) 2147483647 (in_c 0 rfl) rfl : In (Int32.ofInt 0) (-2147483648) 2147483647))
    refine g_aload_n 37 (gd rfl) rfl rfl ?_
    refine g_getA (q2 := 11) 40 (gd rfl) rfl rfl rfl rfl ?_
    refine g_iconst 0 41 (gd rfl) rfl rfl ?_
    refine g_calls (As := [.ref (A 11), .int (Int32.ofInt 0)]) (r := []) 44 (gd rfl) rfl rfl rfl rfl rfl (Nat.le_of_ble_eq_true rfl) (Nat.zero_le _) (Nat.zero_le _) (x_417 (q := 11) (n := 32) (by omega) rfl (by decide)) (fun v u h => ?_)
    obtain ⟨g3, rfl, rfl, hg3⟩ := h
    show GG _ _ _ _ _ _ _ _ [] _ _ _
    have hI4 := rng_sA (q := 11) (g := g3) hI3 (fun i hi => by rw [hg3 i hi]; exact (in_w (-2147483648) 2147483647 (in_c 0 rfl) rfl : In (Int32.ofInt 0) (-2147483648) 2147483647))
    refine g_aload_n 45 (gd rfl) rfl rfl ?_
    refine g_getA (q2 := 12) 48 (gd rfl) rfl rfl rfl rfl ?_
    refine g_iconst 0 49 (gd rfl) rfl rfl ?_
    refine g_calls (As := [.ref (A 12), .int (Int32.ofInt 0)]) (r := []) 52 (gd rfl) rfl rfl rfl rfl rfl (Nat.le_of_ble_eq_true rfl) (Nat.zero_le _) (Nat.zero_le _) (x_417 (q := 12) (n := 33) (by omega) rfl (by decide)) (fun v u h => ?_)
    obtain ⟨g4, rfl, rfl, hg4⟩ := h
    show GG _ _ _ _ _ _ _ _ [] _ _ _
    have hI5 := rng_sA (q := 12) (g := g4) hI4 (fun i hi => by rw [hg4 i hi]; exact (in_w 0 160 (in_c 0 rfl) rfl : In (Int32.ofInt 0) 0 160))
    refine g_aload_n 53 (gd rfl) rfl rfl ?_
    refine g_getA (q2 := 14) 56 (gd rfl) rfl rfl rfl rfl ?_
    refine g_iconst 0 57 (gd rfl) rfl rfl ?_
    refine g_calls (As := [.ref (A 14), .int (Int32.ofInt 0)]) (r := []) 60 (gd rfl) rfl rfl rfl rfl rfl (Nat.le_of_ble_eq_true rfl) (Nat.zero_le _) (Nat.zero_le _) (x_417 (q := 14) (n := 33) (by omega) rfl (by decide)) (fun v u h => ?_)
    obtain ⟨g5, rfl, rfl, hg5⟩ := h
    show GG _ _ _ _ _ _ _ _ [] _ _ _
    have hI6 := rng_sA (q := 14) (g := g5) hI5 (fun i hi => by rw [hg5 i hi]; exact (in_w 0 160 (in_c 0 rfl) rfl : In (Int32.ofInt 0) 0 160))
    have fz : ∀ (g : Nat → Int32), (∀ j, j < 33 → g j = Int32.ofInt 0) → ∀ u : Nat, u ≤ 32 → (g u).toInt = 0 := fun g hg u hu => by rw [hg u (by omega)]; rfl
    refine g_iconst 0 61 (gd rfl) rfl rfl ?_
    refine g_istore_n 62 (gd rfl) rfl (Nat.le_of_ble_eq_true rfl) ?_
    refine gg_w (by omega) (gg_f (gf_cons rfl (gf_cons rfl gf_nil)) (ct62 161 _ (Int32.ofInt 0) hI6 (fr_sA rfl (fr_sA rfl (fr_sA rfl (fr_sA rfl (fr_sA rfl (fr_sF rfl fr_rf)))))) ((sF_get (s := s) (q := 2) (j := 4) (x := z3)).symm.trans e3) hf4.symm hf5.symm hT (msk_0 hg1 hg2 hg3) (by omega) (by omega) (fun u hu2 => ?_) (by omega)))
    have o1 : (g4 u).toInt = cn F (u : Int) (Int32.ofInt 0).toInt.toNat := fz g4 hg4 u hu2
    have o2 : (g5 u).toInt = cn G (u : Int) (Int32.ofInt 0).toInt.toNat := fz g5 hg5 u hu2
    exact ⟨o1, o2⟩
  · exact g_return (gd rfl) rfl (hP _ _ ⟨s, hI, fr_rf, by rw [← e1, ← e2]; exact c, rfl, rfl⟩)
def fm_106_32 : FM := ([39, 40, 41, 42, 43, 44, 45], [], [(32, 4)], [])
theorem kk_t32 {s t : GS} (h : KK (mI s) (mF s)) (hF : Fr fm_106_32 s t) (hv : t.2.2.1 32 4 = t.2.2.1 32 0) (hT : TG (t.1 34) (t.1 35) (t.1 39) (t.1 40) (t.1 41) (t.1 42) (t.1 43) (t.1 44) (t.1 45) (t.2.2.1 32 3).toInt.toNat) : KK (mI t) (mF t) := by
  have hg : KG 32 (mI t) (mF t) := by
    refine ⟨?_, fun _ => ?_⟩
    · rw [mF_at rfl, mF_at rfl, hv]
      exact Int.le_refl _
    · rw [mI_at rfl, mI_at rfl, mI_at rfl, mI_at rfl, mI_at rfl, mI_at rfl, mI_at rfl, mI_at rfl, mI_at rfl, mF_at rfl]
      exact hT
  exact ⟨kk_g h.1 hF rfl rfl rfl rfl rfl, hg, kk_s h.2.2.1 hF rfl, kk_r h.2.2.2 hF rfl⟩
/-- GraphHouse$Graph.tie -/
theorem k_106_32 {Z : AmZ} {A : Nat → Nat} {s : GS} {ex : va_W} {d : Nat} {X : AmX} (hd : 3 ≤ d) (hI : Inv s) : GC Z d 106 [.ref (A 32)] (WW Z A s ++ ex) 0 0 (fun v u => ∃ t : GS, Inv t ∧ Fr fm_106_32 s t ∧ (t.2.2.1 32 4).toInt = (t.2.2.1 32 0).toInt ∧ v = none ∧ u = WW Z A t ++ ex) X := by
  intro post xp hP hX
  have hm1 : (Int32.ofInt (-1)).toInt = -1 := rfl
  have h01 : (Int32.ofInt 1).toInt = 1 := rfl
  have h00 : (Int32.ofInt 0).toInt = 0 := rfl
  have hz0 := inv_F hI (q := 32) (j := 3) 0 160 rfl rfl
  obtain ⟨T, hT⟩ : ∃ T : Nat, (s.2.2.1 32 3).toInt = (T : Int) := ⟨(s.2.2.1 32 3).toInt.toNat, by obtain ⟨a, b⟩ := hz0; omega⟩
  have hT2 : T ≤ 160 := by obtain ⟨a, b⟩ := hz0; omega
  have r4 : ∀ j, j < 160 → -1 ≤ (s.1 34 j).toInt ∧ (s.1 34 j).toInt ≤ 31 := fun j hj => hI.1.1 34 j hj
  have r5 : ∀ j, j < 160 → 0 ≤ (s.1 35 j).toInt ∧ (s.1 35 j).toInt ≤ 31 := fun j hj => hI.1.1 35 j hj
  have cl : ∀ y : Int32, 0 ≤ y.toInt → (y.toNatClampNeg : Int) = y.toInt := fun y hy => by
    show ((y.toInt.toNat : Nat) : Int) = y.toInt
    omega
  obtain ⟨f4, hf4⟩ : ∃ f, f = s.1 34 := ⟨_, rfl⟩
  obtain ⟨f5, hf5⟩ : ∃ f, f = s.1 35 := ⟨_, rfl⟩
  rw [← hf4] at r4
  rw [← hf5] at r5
  obtain ⟨F, hF⟩ : ∃ F, F = gF f4 := ⟨_, rfl⟩
  obtain ⟨G, hG⟩ : ∃ G, G = gG f4 f5 := ⟨_, rfl⟩
  have aF : ∀ j, j < 160 → F j = (f4 j).toInt := fun j hj => by rw [hF]; unfold gF; rw [if_pos hj]
  have aG : ∀ j, j < 160 → (f4 j).toInt ≠ -1 → G j = (f5 j).toInt := fun j hj h => by rw [hG]; unfold gG; rw [if_pos ⟨hj, h⟩]
  have bG : ∀ j, j < 160 → (f4 j).toInt = -1 → G j = -1 := fun j hj h => by rw [hG]; unfold gG; rw [if_neg (fun z => z.2 h)]
  have lF : ∀ j, F j < 32 := fun j => by
    rw [hF]
    unfold gF
    split
    · have := r4 j (by assumption)
      omega
    · omega
  have lG : ∀ j, G j < 32 := fun j => by
    rw [hG]
    unfold gG
    split
    · rename_i h
      have := r5 j h.1
      omega
    · omega
  have oF : cn F ((32 : Nat) : Int) T = 0 := cn_out F _ lF T
  have oG : cn G ((32 : Nat) : Int) T = 0 := cn_out G _ lG T
  -- the third loop
  have ct157 : ∀ (k : Nat) (t : GS) (y : Int32), Rng t → Fr fm_106_32 s t → t.2.2.1 32 4 = s.2.2.1 32 0 → t.1 34 = f4 → t.1 35 = f5 → -1 ≤ y.toInt → y.toInt < (T : Int) → (∀ u : Nat, u ≤ 32 → (t.1 42 u).toInt = pr F T u + cn F (u : Int) (y.toInt + 1).toNat ∧ (t.1 44 u).toInt = pr G T u + cn G (u : Int) (y.toInt + 1).toNat) → (t.2.2.1 32 3).toInt = (T : Int) → MSK f4 f5 (t.1 39) (t.1 40) (t.1 41) T → RWS F T (t.1 43) (y.toInt + 1).toNat → RWS G T (t.1 45) (y.toInt + 1).toNat → y.toInt + 1 < (k : Int) → GG Z (d - 1) 106 post (gx xp) (10 + k * 100) 157 (fun j => xlook j [(0, .ref (A 32)), (1, .int y)]) [] (WW Z A t ++ ex) 0 0 := by
    intro k
    induction k with
    | zero => intro t y hJ hK hV h4 h5 y0 y1 hu h3 hM hO hN hm; omega
    | succ k ih =>
      intro t y hJ hK hV h4 h5 y0 y1 hu h3 hM hO hN hm
      refine gg_w (M := 10 + k * 100 + 100) (by omega) ?_
      refine g_iload_n 158 (gd rfl) rfl rfl ?_
      refine g_if_lt 161 241 (gd rfl) rfl rfl (fun c => ?_) (fun c => ?_)
      · have ey : (y.toInt + 1).toNat = 0 := by omega
        rw [ey] at hu
        rw [ey] at hO hN
        have hTG : TG (t.1 34) (t.1 35) (t.1 39) (t.1 40) (t.1 41) (t.1 42) (t.1 43) (t.1 44) (t.1 45) (t.2.2.1 32 3).toInt.toNat := by
          have eT : (t.2.2.1 32 3).toInt.toNat = T := by omega
          rw [eT, h4, h5]
          refine ⟨fun v hv => ?_, by rw [← hF]; exact hO, by rw [← hG]; exact hN, hM⟩
          have h := hu v hv
          have h0 : cn F (v : Int) 0 = 0 := rfl
          have h1 : cn G (v : Int) 0 = 0 := rfl
          rw [h0, h1] at h
          rw [← hF, ← hG]
          exact ⟨by omega, by omega⟩
        have hV0 : t.2.2.1 32 0 = s.2.2.1 32 0 := hK.2.2.1 32 0 rfl
        have hin : Inv t := ⟨hJ, kk_t32 hI.2 hK (by rw [hV, hV0]) hTG⟩
        exact g_return (gd rfl) rfl (hP _ _ ⟨t, hin, hK, by rw [hV, hV0], rfl, rfl⟩)
      · have iy : In y 0 159 := ⟨c, by omega⟩
        obtain ⟨p, hp⟩ : ∃ p : Nat, y.toInt = (p : Int) := ⟨y.toInt.toNat, by omega⟩
        have hp1 : (y.toInt + 1).toNat = p + 1 := by omega
        have hpc : y.toNatClampNeg = p := by have := cl y c; omega
        have hp2 : p < 160 := by omega
        rw [hp1] at hu hO hN
        refine g_aload_n 162 (gd rfl) rfl rfl ?_
        refine g_getA (q2 := 34) 165 (gd rfl) rfl rfl rfl rfl ?_
        refine g_iload_n 166 (gd rfl) rfl rfl ?_
        refine g_iaload 167 (gd rfl) rfl (n := 160) rfl (in_ix iy rfl) (fun z1 e1 => ?_)
        rw [h4, hpc] at e1
        refine g_iconst (-1) 168 (gd rfl) rfl rfl ?_
        refine g_cmp_eq 171 235 (gd rfl) rfl rfl (fun c1 => ?_) (fun c1 => ?_)
        · have hneg : (f4 p).toInt = -1 := by rw [← e1]; exact c1
          have m1 : F p = -1 := by rw [aF p hp2]; exact hneg
          have m2 : G p = -1 := bG p hp2 hneg
          refine g_iinc 238 (gd rfl) rfl rfl (Nat.le_of_ble_eq_true rfl) (fun z e => ?_)
          refine g_goto 157 (gd rfl) rfl ?_
          have ez := t_add e iy (in_c (-1) rfl) rfl
          refine gg_w (by omega) (gg_f (gf_cons rfl (gf_cons rfl gf_nil)) (ih t z hJ hK hV h4 h5 (by omega) (by omega) (fun u hu2 => ?_) h3 hM (by rw [show (z.toInt + 1).toNat = p by omega]; exact rws_n hO m1) (by rw [show (z.toInt + 1).toNat = p by omega]; exact rws_n hN m2) (by omega)))
          have e9 : (z.toInt + 1).toNat = p := by omega
          have hu3 := hu u hu2
          rw [cn_miss (by omega), cn_miss (by omega)] at hu3
          rw [e9]
          exact hu3
        · have q1 := r4 p hp2
          have iz1 : In z1 0 31 := ⟨by rw [e1]; rw [e1] at c1; omega, by rw [e1]; omega⟩
          obtain ⟨w, hw⟩ : ∃ w : Nat, z1.toInt = (w : Int) := ⟨z1.toInt.toNat, by obtain ⟨a, b⟩ := iz1; omega⟩
          have hwc : z1.toNatClampNeg = w := by have := cl z1 iz1.1; omega
          have hw31 : w ≤ 31 := by obtain ⟨a, b⟩ := iz1; omega
          have hFp : F p = (w : Int) := by rw [aF p hp2, ← e1, hw]
          have hnn : (f4 p).toInt ≠ -1 := by rw [← e1]; rw [hm1] at c1; exact c1
          have q2 := r5 p hp2
          refine g_aload_n 172 (gd rfl) rfl rfl ?_
          refine g_getA (q2 := 42) 175 (gd rfl) rfl rfl rfl rfl ?_
          refine g_aload_n 176 (gd rfl) rfl rfl ?_
          refine g_getA (q2 := 34) 179 (gd rfl) rfl rfl rfl rfl ?_
          refine g_iload_n 180 (gd rfl) rfl rfl ?_
          refine g_iaload 181 (gd rfl) rfl (n := 160) rfl (in_ix iy rfl) (fun z2 e2 => ?_)
          rw [h4, hpc] at e2
          have e2 : z1 = z2 := e1.trans e2.symm
          subst e2
          refine g_dup2 182 (gd rfl) rfl rfl rfl ?_
          refine g_iaload 183 (gd rfl) rfl (n := 33) rfl (in_ix iz1 rfl) (fun z3 e3 => ?_)
          rw [hwc] at e3
          have k3 := (hu w (by omega)).1
          rw [cn_hit hFp, ← e3] at k3
          have p1 := pr_0 F T w
          have p2 := cn_0 F (w : Int) p
          have p3 := pr_le F T (w + 1)
          have p3' : pr F T (w + 1) = pr F T w + cn F (w : Int) T := rfl
          have p4 := cn_mono F (w : Int) (show p + 1 ≤ T by omega)
          rw [cn_hit hFp] at p4
          have iz3 : In z3 1 160 := ⟨by omega, by omega⟩
          refine g_iconst 1 184 (gd rfl) rfl rfl ?_
          refine g_isub 185 (gd rfl) rfl (fun z4 e4 => ?_)
          have t4 := t_sub e4 iz3 (in_c 1 rfl) rfl
          have iz4 := in_sub 0 159 e4 iz3 (in_c 1 rfl) rfl rfl
          refine g_iastore 186 (gd rfl) rfl (n := 33) rfl (in_ix iz1 rfl) ?_
          have hJ1 := rng_sI (q := 42) (j := z1.toNatClampNeg) hJ rfl (in_w 0 160 iz4 rfl)
          refine g_aload_n 187 (gd rfl) rfl rfl ?_
          refine g_getA (q2 := 43) 190 (gd rfl) rfl rfl rfl rfl ?_
          refine g_aload_n 191 (gd rfl) rfl rfl ?_
          refine g_getA (q2 := 42) 194 (gd rfl) rfl rfl rfl rfl ?_
          refine g_aload_n 195 (gd rfl) rfl rfl ?_
          refine g_getA (q2 := 34) 198 (gd rfl) rfl rfl rfl rfl ?_
          refine g_iload_n 199 (gd rfl) rfl rfl ?_
          refine g_iaload 200 (gd rfl) rfl (n := 160) rfl (in_ix iy rfl) (fun z5 e5 => ?_)
          have e5 : z5 = t.1 34 y.toNatClampNeg := e5
          rw [h4, hpc] at e5
          have e5 : z1 = z5 := e1.trans e5.symm
          subst e5
          refine g_iaload 201 (gd rfl) rfl (n := 33) rfl (in_ix iz1 rfl) (fun z6 e6 => ?_)
          have e6 : z4 = z6 := sI_get.trans e6.symm
          subst e6
          refine g_iload_n 202 (gd rfl) rfl rfl ?_
          refine g_iastore 203 (gd rfl) rfl (n := 160) rfl (in_ix iz4 rfl) ?_
          have hJ2 := rng_sI (q := 43) (j := z4.toNatClampNeg) hJ1 rfl iy
          refine g_aload_n 204 (gd rfl) rfl rfl ?_
          refine g_getA (q2 := 44) 207 (gd rfl) rfl rfl rfl rfl ?_
          refine g_aload_n 208 (gd rfl) rfl rfl ?_
          refine g_getA (q2 := 35) 211 (gd rfl) rfl rfl rfl rfl ?_
          refine g_iload_n 212 (gd rfl) rfl rfl ?_
          refine g_iaload 213 (gd rfl) rfl (n := 160) rfl (in_ix iy rfl) (fun z7 e7 => ?_)
          have e7 : z7 = t.1 35 y.toNatClampNeg := e7
          rw [h5, hpc] at e7
          have iz7 : In z7 0 31 := ⟨by rw [e7]; omega, by rw [e7]; omega⟩
          obtain ⟨x, hx⟩ : ∃ x : Nat, z7.toInt = (x : Int) := ⟨z7.toInt.toNat, by obtain ⟨a, b⟩ := iz7; omega⟩
          have hxc : z7.toNatClampNeg = x := by have := cl z7 iz7.1; omega
          have hx31 : x ≤ 31 := by obtain ⟨a, b⟩ := iz7; omega
          have hGp : G p = (x : Int) := by rw [aG p hp2 hnn, ← e7, hx]
          refine g_dup2 214 (gd rfl) rfl rfl rfl ?_
          refine g_iaload 215 (gd rfl) rfl (n := 33) rfl (in_ix iz7 rfl) (fun z8 e8 => ?_)
          have e8 : z8 = t.1 44 z7.toNatClampNeg := e8
          rw [hxc] at e8
          have k8 := (hu x (by omega)).2
          rw [cn_hit hGp, ← e8] at k8
          have s1 := pr_0 G T x
          have s2 := cn_0 G (x : Int) p
          have s3 := pr_le G T (x + 1)
          have s3' : pr G T (x + 1) = pr G T x + cn G (x : Int) T := rfl
          have s4 := cn_mono G (x : Int) (show p + 1 ≤ T by omega)
          rw [cn_hit hGp] at s4
          have iz8 : In z8 1 160 := ⟨by omega, by omega⟩
          refine g_iconst 1 216 (gd rfl) rfl rfl ?_
          refine g_isub 217 (gd rfl) rfl (fun z9 e9 => ?_)
          have t9 := t_sub e9 iz8 (in_c 1 rfl) rfl
          have iz9 := in_sub 0 159 e9 iz8 (in_c 1 rfl) rfl rfl
          refine g_iastore 218 (gd rfl) rfl (n := 33) rfl (in_ix iz7 rfl) ?_
          have hJ3 := rng_sI (q := 44) (j := z7.toNatClampNeg) hJ2 rfl (in_w 0 160 iz9 rfl)
          refine g_aload_n 219 (gd rfl) rfl rfl ?_
          refine g_getA (q2 := 45) 222 (gd rfl) rfl rfl rfl rfl ?_
          refine g_aload_n 223 (gd rfl) rfl rfl ?_
          refine g_getA (q2 := 44) 226 (gd rfl) rfl rfl rfl rfl ?_
          refine g_aload_n 227 (gd rfl) rfl rfl ?_
          refine g_getA (q2 := 35) 230 (gd rfl) rfl rfl rfl rfl ?_
          refine g_iload_n 231 (gd rfl) rfl rfl ?_
          refine g_iaload 232 (gd rfl) rfl (n := 160) rfl (in_ix iy rfl) (fun z10 e10 => ?_)
          have e10 : z10 = t.1 35 y.toNatClampNeg := e10
          rw [h5, hpc] at e10
          have e10 : z7 = z10 := e7.trans e10.symm
          subst e10
          refine g_iaload 233 (gd rfl) rfl (n := 33) rfl (in_ix iz7 rfl) (fun z11 e11 => ?_)
          have e11 : z9 = z11 := sI_get.trans e11.symm
          subst e11
          refine g_iload_n 234 (gd rfl) rfl rfl ?_
          refine g_iastore 235 (gd rfl) rfl (n := 160) rfl (in_ix iz9 rfl) ?_
          have hJ4 := rng_sI (q := 45) (j := z9.toNatClampNeg) hJ3 rfl iy
          have hz9 : (z9.toNatClampNeg : Int) = z9.toInt := cl z9 iz9.1
          have hz4 : (z4.toNatClampNeg : Int) = z4.toInt := cl z4 iz4.1
          have hO2 := rws_s (os2 := upd (t.1 43) z4.toNatClampNeg y) hO (by omega) hFp (by omega) hp rfl
          have hN2 := rws_s (os2 := upd (t.1 45) z9.toNatClampNeg y) hN (by omega) hGp (by omega) hp rfl
          refine g_iinc 238 (gd rfl) rfl rfl (Nat.le_of_ble_eq_true rfl) (fun z e => ?_)
          refine g_goto 157 (gd rfl) rfl ?_
          have ez := t_add e iy (in_c (-1) rfl) rfl
          refine gg_w (by omega) (gg_f (gf_cons rfl (gf_cons rfl gf_nil)) (ih _ z hJ4 (fr_sI rfl (fr_sI rfl (fr_sI rfl (fr_sI rfl hK)))) hV h4 h5 (by omega) (by omega) (fun u hu2 => ?_) h3 hM (by rw [show (z.toInt + 1).toNat = p by omega]; exact hO2) (by rw [show (z.toInt + 1).toNat = p by omega]; exact hN2) (by omega)))
          have e12 : (z.toInt + 1).toNat = p := by omega
          rw [e12]
          have hu3 := hu u hu2
          have g1 : (upd (t.1 42) z1.toNatClampNeg z4 u).toInt = pr F T u + cn F (u : Int) p := by
            rw [hwc, up_at]
            by_cases b : u = w
            · subst b
              rw [if_pos rfl]
              omega
            · rw [if_neg b, hu3.1, cn_miss (by rw [hFp]; omega)]
          have g2 : (upd (t.1 44) z7.toNatClampNeg z9 u).toInt = pr G T u + cn G (u : Int) p := by
            rw [hxc, up_at]
            by_cases b : u = x
            · subst b
              rw [if_pos rfl]
              omega
            · rw [if_neg b, hu3.2, cn_miss (by rw [hGp]; omega)]
          exact ⟨g1, g2⟩
  -- the second loop
  have ct104 : ∀ (k : Nat) (t : GS) (y : Int32), Rng t → Fr fm_106_32 s t → t.2.2.1 32 4 = s.2.2.1 32 0 → t.1 34 = f4 → t.1 35 = f5 → (t.2.2.1 32 3).toInt = (T : Int) → MSK f4 f5 (t.1 39) (t.1 40) (t.1 41) T → 1 ≤ y.toInt → y.toInt ≤ 33 → (∀ u : Nat, u ≤ 32 → (t.1 42 u).toInt = (if (u : Int) < y.toInt then pr F T (u + 1) else cn F (u : Int) T) ∧ (t.1 44 u).toInt = (if (u : Int) < y.toInt then pr G T (u + 1) else cn G (u : Int) T)) → 33 - y.toInt < (k : Int) → GG Z (d - 1) 106 post (gx xp) (20000 + k * 100) 104 (fun j => xlook j [(0, .ref (A 32)), (1, .int y)]) [] (WW Z A t ++ ex) 0 0 := by
    intro k
    induction k with
    | zero => intro t y hJ hK hV h4 h5 h3 hM y0 y1 hu hm; omega
    | succ k ih =>
      intro t y hJ hK hV h4 h5 h3 hM y0 y1 hu hm
      refine gg_w (M := 20000 + k * 100 + 100) (by omega) ?_
      refine g_iload_n 105 (gd rfl) rfl rfl ?_
      refine g_bipush 32 107 (gd rfl) rfl rfl ?_
      have h32 : (Int32.ofInt 32).toInt = 32 := rfl
      refine g_cmp_gt 110 150 (gd rfl) rfl rfl (fun c => ?_) (fun c => ?_)
      · refine g_aload_n 151 (gd rfl) rfl rfl ?_
        refine g_getI 154 (gd rfl) rfl rfl rfl (fun z1 e1 => ?_)
        refine g_iconst 1 155 (gd rfl) rfl rfl ?_
        refine g_isub 156 (gd rfl) rfl (fun z2 e2 => ?_)
        have iz1 : In z1 0 160 := ⟨by rw [e1]; omega, by rw [e1]; omega⟩
        have t2 := t_sub e2 iz1 (in_c 1 rfl) rfl
        rw [e1, h3] at t2
        refine g_istore_n 157 (gd rfl) rfl (Nat.le_of_ble_eq_true rfl) ?_
        refine gg_w (by omega) (gg_f (gf_cons rfl (gf_cons rfl gf_nil)) (ct157 162 t z2 hJ hK hV h4 h5 (by omega) (by omega) (fun u hu2 => ?_) h3 hM (by rw [show (z2.toInt + 1).toNat = T by omega]; exact rws_e) (by rw [show (z2.toInt + 1).toNat = T by omega]; exact rws_e) (by omega)))
        have e9 : (z2.toInt + 1).toNat = T := by omega
        have hu3 := hu u hu2
        rw [if_pos (by omega), if_pos (by omega)] at hu3
        rw [e9]
        exact hu3
      · obtain ⟨p, hp⟩ : ∃ p : Nat, y.toInt = ((p + 1 : Nat) : Int) := ⟨(y.toInt - 1).toNat, by omega⟩
        have hpc : y.toNatClampNeg = p + 1 := by have := cl y (by omega); omega
        have iy : In y 1 32 := ⟨y0, by omega⟩
        have ku := hu (p + 1) (by omega)
        have kv := hu p (by omega)
        rw [if_neg (by omega), if_neg (by omega)] at ku
        rw [if_pos (by omega), if_pos (by omega)] at kv
        have a1 := cn_0 F ((p + 1 : Nat) : Int) T
        have a2 := pr_0 F T (p + 1)
        have a3 := pr_le F T (p + 1 + 1)
        have a4 : pr F T (p + 1 + 1) = pr F T (p + 1) + cn F ((p + 1 : Nat) : Int) T := rfl
        have b1 := cn_0 G ((p + 1 : Nat) : Int) T
        have b2 := pr_0 G T (p + 1)
        have b3 := pr_le G T (p + 1 + 1)
        have b4 : pr G T (p + 1 + 1) = pr G T (p + 1) + cn G ((p + 1 : Nat) : Int) T := rfl
        refine g_aload_n 111 (gd rfl) rfl rfl ?_
        refine g_getA (q2 := 42) 114 (gd rfl) rfl rfl rfl rfl ?_
        refine g_iload_n 115 (gd rfl) rfl rfl ?_
        refine g_dup2 116 (gd rfl) rfl rfl rfl ?_
        refine g_iaload 117 (gd rfl) rfl (n := 33) rfl (in_ix iy rfl) (fun z1 e1 => ?_)
        rw [hpc] at e1
        refine g_aload_n 118 (gd rfl) rfl rfl ?_
        refine g_getA (q2 := 42) 121 (gd rfl) rfl rfl rfl rfl ?_
        refine g_iload_n 122 (gd rfl) rfl rfl ?_
        refine g_iconst 1 123 (gd rfl) rfl rfl ?_
        refine g_isub 124 (gd rfl) rfl (fun z2 e2 => ?_)
        have t2 := t_sub e2 iy (in_c 1 rfl) rfl
        have iz2 := in_sub 0 31 e2 iy (in_c 1 rfl) rfl rfl
        have hzc : z2.toNatClampNeg = p := by have := cl z2 iz2.1; omega
        refine g_iaload 125 (gd rfl) rfl (n := 33) rfl (in_ix iz2 rfl) (fun z3 e3 => ?_)
        rw [hzc] at e3
        rw [← e1] at ku
        rw [← e3] at kv
        have iz1 : In z1 0 160 := ⟨by omega, by omega⟩
        have iz3 : In z3 0 160 := ⟨by omega, by omega⟩
        refine g_iadd 126 (gd rfl) rfl (fun z4 e4 => ?_)
        have t4 := t_add e4 iz1 iz3 rfl
        have iz4 : In z4 0 160 := ⟨by omega, by omega⟩
        refine g_iastore 127 (gd rfl) rfl (n := 33) rfl (in_ix iy rfl) ?_
        have hJ1 := rng_sI (q := 42) (j := y.toNatClampNeg) hJ rfl iz4
        refine g_aload_n 128 (gd rfl) rfl rfl ?_
        refine g_getA (q2 := 44) 131 (gd rfl) rfl rfl rfl rfl ?_
        refine g_iload_n 132 (gd rfl) rfl rfl ?_
        refine g_dup2 133 (gd rfl) rfl rfl rfl ?_
        refine g_iaload 134 (gd rfl) rfl (n := 33) rfl (in_ix iy rfl) (fun z5 e5 => ?_)
        have e5 : z5 = t.1 44 y.toNatClampNeg := e5
        rw [hpc] at e5
        refine g_aload_n 135 (gd rfl) rfl rfl ?_
        refine g_getA (q2 := 44) 138 (gd rfl) rfl rfl rfl rfl ?_
        refine g_iload_n 139 (gd rfl) rfl rfl ?_
        refine g_iconst 1 140 (gd rfl) rfl rfl ?_
        refine g_isub 141 (gd rfl) rfl (fun z6 e6 => ?_)
        have t6 := t_sub e6 iy (in_c 1 rfl) rfl
        have iz6 := in_sub 0 31 e6 iy (in_c 1 rfl) rfl rfl
        have hzc6 : z6.toNatClampNeg = p := by have := cl z6 iz6.1; omega
        refine g_iaload 142 (gd rfl) rfl (n := 33) rfl (in_ix iz6 rfl) (fun z7 e7 => ?_)
        have e7 : z7 = t.1 44 z6.toNatClampNeg := e7
        rw [hzc6] at e7
        rw [← e5] at ku
        rw [← e7] at kv
        have iz5 : In z5 0 160 := ⟨by omega, by omega⟩
        have iz7 : In z7 0 160 := ⟨by omega, by omega⟩
        refine g_iadd 143 (gd rfl) rfl (fun z8 e8 => ?_)
        have t8 := t_add e8 iz5 iz7 rfl
        have iz8 : In z8 0 160 := ⟨by omega, by omega⟩
        refine g_iastore 144 (gd rfl) rfl (n := 33) rfl (in_ix iy rfl) ?_
        have hJ2 := rng_sI (q := 44) (j := y.toNatClampNeg) hJ1 rfl iz8
        refine g_iinc 147 (gd rfl) rfl rfl (Nat.le_of_ble_eq_true rfl) (fun z e => ?_)
        refine g_goto 104 (gd rfl) rfl ?_
        have ez := t_add e iy (in_c 1 rfl) rfl
        refine gg_w (by omega) (gg_f (gf_cons rfl (gf_cons rfl gf_nil)) (ih _ z hJ2 (fr_sI rfl (fr_sI rfl hK)) hV h4 h5 h3 hM (by omega) (by omega) (fun u hu2 => ?_) (by omega)))
        have hu3 := hu u hu2
        have g1 : (upd (t.1 42) y.toNatClampNeg z4 u).toInt = (if (u : Int) < z.toInt then pr F T (u + 1) else cn F (u : Int) T) := by
          rw [hpc, up_at]
          by_cases b : u = p + 1
          · subst b
            rw [if_pos rfl, if_pos (by omega)]
            omega
          · rw [if_neg b, hu3.1]
            by_cases b2 : (u : Int) < y.toInt
            · rw [if_pos b2, if_pos (by omega)]
            · rw [if_neg b2, if_neg (by omega)]
        have g2 : (upd (t.1 44) y.toNatClampNeg z8 u).toInt = (if (u : Int) < z.toInt then pr G T (u + 1) else cn G (u : Int) T) := by
          rw [hpc, up_at]
          by_cases b : u = p + 1
          · subst b
            rw [if_pos rfl, if_pos (by omega)]
            omega
          · rw [if_neg b, hu3.2]
            by_cases b2 : (u : Int) < y.toInt
            · rw [if_pos b2, if_pos (by omega)]
            · rw [if_neg b2, if_neg (by omega)]
        exact ⟨g1, g2⟩
  -- the first loop
  have ct62 : ∀ (k : Nat) (t : GS) (y : Int32), Rng t → Fr fm_106_32 s t → t.2.2.1 32 4 = s.2.2.1 32 0 → t.1 34 = f4 → t.1 35 = f5 → (t.2.2.1 32 3).toInt = (T : Int) → MSK f4 f5 (t.1 39) (t.1 40) (t.1 41) y.toInt.toNat → 0 ≤ y.toInt → y.toInt ≤ (T : Int) → (∀ u : Nat, u ≤ 32 → (t.1 42 u).toInt = cn F (u : Int) y.toInt.toNat ∧ (t.1 44 u).toInt = cn G (u : Int) y.toInt.toNat) → (T : Int) - y.toInt < (k : Int) → GG Z (d - 1) 106 post (gx xp) (30000 + k * 100) 62 (fun j => xlook j [(0, .ref (A 32)), (1, .int y)]) [] (WW Z A t ++ ex) 0 0 := by
    intro k
    induction k with
    | zero => intro t y hJ hK hV h4 h5 h3 hM y0 y1 hu hm; omega
    | succ k ih =>
      intro t y hJ hK hV h4 h5 h3 hM y0 y1 hu hm
      refine gg_w (M := 30000 + k * 100 + 100) (by omega) ?_
      refine g_iload_n 63 (gd rfl) rfl rfl ?_
      refine g_aload_n 64 (gd rfl) rfl rfl ?_
      refine g_getI 67 (gd rfl) rfl rfl rfl (fun z0 e0 => ?_)
      rw [← e0] at h3
      refine g_cmp_ge 70 102 (gd rfl) rfl rfl (fun c => ?_) (fun c => ?_)
      · have ey : y.toInt.toNat = T := by omega
        rw [ey] at hu hM
        refine g_iconst 1 103 (gd rfl) rfl rfl ?_
        refine g_istore_n 104 (gd rfl) rfl (Nat.le_of_ble_eq_true rfl) ?_
        refine gg_w (by omega) (gg_f (gf_cons rfl (gf_cons rfl gf_nil)) (ct104 33 t (Int32.ofInt 1) hJ hK hV h4 h5 (by rw [← e0]; exact h3) hM (by omega) (by omega) (fun u hu2 => ?_) (by omega)))
        have hu3 := hu u hu2
        rw [h01]
        by_cases b : (u : Int) < 1
        · have b0 : u = 0 := by omega
          subst b0
          rw [if_pos b, if_pos b]
          have d1 : pr F T (0 + 1) = 0 + cn F ((0 : Nat) : Int) T := rfl
          have d2 : pr G T (0 + 1) = 0 + cn G ((0 : Nat) : Int) T := rfl
          rw [d1, d2]
          exact ⟨by omega, by omega⟩
        · rw [if_neg b, if_neg b]
          exact hu3
      · have iy : In y 0 159 := ⟨y0, by omega⟩
        obtain ⟨p, hp⟩ : ∃ p : Nat, y.toInt = (p : Int) := ⟨y.toInt.toNat, by omega⟩
        have hp1 : y.toInt.toNat = p := by omega
        have hpc : y.toNatClampNeg = p := by have := cl y y0; omega
        have hp2 : p < 160 := by omega
        rw [hp1] at hu hM
        refine g_aload_n 71 (gd rfl) rfl rfl ?_
        refine g_getA (q2 := 34) 74 (gd rfl) rfl rfl rfl rfl ?_
        refine g_iload_n 75 (gd rfl) rfl rfl ?_
        refine g_iaload 76 (gd rfl) rfl (n := 160) rfl (in_ix iy rfl) (fun z1 e1 => ?_)
        rw [h4, hpc] at e1
        refine g_iconst (-1) 77 (gd rfl) rfl rfl ?_
        refine g_cmp_eq 80 96 (gd rfl) rfl rfl (fun c1 => ?_) (fun c1 => ?_)
        · have hneg : (f4 p).toInt = -1 := by rw [← e1]; exact c1
          have m1 : F p = -1 := by rw [aF p hp2]; exact hneg
          have m2 : G p = -1 := bG p hp2 hneg
          refine g_iinc 99 (gd rfl) rfl rfl (Nat.le_of_ble_eq_true rfl) (fun z e => ?_)
          refine g_goto 62 (gd rfl) rfl ?_
          have ez := t_add e iy (in_c 1 rfl) rfl
          refine gg_w (by omega) (gg_f (gf_cons rfl (gf_cons rfl gf_nil)) (ih t z hJ hK hV h4 h5 (by rw [← e0]; exact h3) (by rw [show z.toInt.toNat = p + 1 by omega]; exact msk_n hM (by rw [← hF]; exact m1)) (by omega) (by omega) (fun u hu2 => ?_) (by omega)))
          have e9 : z.toInt.toNat = p + 1 := by omega
          have hu3 := hu u hu2
          rw [e9, cn_miss (by omega), cn_miss (by omega)]
          exact hu3
        · have q1 := r4 p hp2
          have q2 := r5 p hp2
          have iz1 : In z1 0 31 := ⟨by rw [e1]; rw [e1] at c1; omega, by rw [e1]; omega⟩
          obtain ⟨w, hw⟩ : ∃ w : Nat, z1.toInt = (w : Int) := ⟨z1.toInt.toNat, by obtain ⟨a, b⟩ := iz1; omega⟩
          have hwc : z1.toNatClampNeg = w := by have := cl z1 iz1.1; omega
          have hw31 : w ≤ 31 := by obtain ⟨a, b⟩ := iz1; omega
          have hFp : F p = (w : Int) := by rw [aF p hp2, ← e1, hw]
          have hnn : (f4 p).toInt ≠ -1 := by rw [← e1]; rw [hm1] at c1; exact c1
          refine g_aload_n 81 (gd rfl) rfl rfl ?_
          refine g_aload_n 82 (gd rfl) rfl rfl ?_
          refine g_getA (q2 := 34) 85 (gd rfl) rfl rfl rfl rfl ?_
          refine g_iload_n 86 (gd rfl) rfl rfl ?_
          refine g_iaload 87 (gd rfl) rfl (n := 160) rfl (in_ix iy rfl) (fun z2 e2 => ?_)
          rw [h4, hpc] at e2
          have e2 : z1 = z2 := e1.trans e2.symm
          subst e2
          refine g_aload_n 88 (gd rfl) rfl rfl ?_
          refine g_getA (q2 := 35) 91 (gd rfl) rfl rfl rfl rfl ?_
          refine g_iload_n 92 (gd rfl) rfl rfl ?_
          refine g_iaload 93 (gd rfl) rfl (n := 160) rfl (in_ix iy rfl) (fun z3 e3 => ?_)
          rw [h5, hpc] at e3
          have iz3 : In z3 0 31 := ⟨by rw [e3]; omega, by rw [e3]; omega⟩
          obtain ⟨x, hx⟩ : ∃ x : Nat, z3.toInt = (x : Int) := ⟨z3.toInt.toNat, by obtain ⟨a, b⟩ := iz3; omega⟩
          have hxc : z3.toNatClampNeg = x := by have := cl z3 iz3.1; omega
          have hx31 : x ≤ 31 := by obtain ⟨a, b⟩ := iz3; omega
          have hGp : G p = (x : Int) := by rw [aG p hp2 hnn, ← e3, hx]
          have a1 := (hu w (by omega)).1
          have a2 := cn_le F (w : Int) p
          have a3 := cn_0 F (w : Int) p
          have b1 := (hu x (by omega)).2
          have b2 := cn_le G (x : Int) p
          have b3 := cn_0 G (x : Int) p
          refine g_callv (X := _) (As := [.int z1, .int z3]) (r := []) (b := A 32) (q := 32) 96 (gd rfl) rfl rfl rfl rfl rfl (ww_o rfl) (Nat.le_of_ble_eq_true rfl) (Nat.zero_le _) (Nat.zero_le _) (x_107_32 (by omega) hJ iz1 iz3 (by rw [hwc]; exact ⟨by omega, by omega⟩) (by rw [hxc]; exact ⟨by omega, by omega⟩)) (fun e u h => h) (fun v u h => ?_)
          obtain ⟨t2, hJ2, uF, rfl, rfl, u4, u5, u3, uo, ui, ute⟩ := h
          show GG _ _ _ _ _ _ _ _ [] _ _ _
          refine g_iinc 99 (gd rfl) rfl rfl (Nat.le_of_ble_eq_true rfl) (fun z e => ?_)
          refine g_goto 62 (gd rfl) rfl ?_
          have ez := t_add e iy (in_c 1 rfl) rfl
          refine gg_w (by omega) (gg_f (gf_cons rfl (gf_cons rfl gf_nil)) (ih t2 z hJ2 (fr_tr rfl hK uF) (by rw [u3]; exact hV) (by rw [u4, h4]) (by rw [u5, h5]) (by rw [u3, ← e0]; exact h3) (by rw [show z.toInt.toNat = p + 1 by omega]; exact msk_s hM (by rw [← hF]; exact hFp) (by rw [← hG]; exact hGp) hw hx (by omega) (by omega) ute) (by omega) (by omega) (fun u hu2 => ?_) (by omega)))
          have e9 : z.toInt.toNat = p + 1 := by omega
          have hu3 := hu u hu2
          rw [e9, uo, ui, hwc, hxc, up_at, up_at]
          have tw : (t.1 42 w + Int32.ofInt 1).toInt = (t.1 42 w).toInt + 1 := by
            have := t_add (x := t.1 42 w) (y := Int32.ofInt 1) rfl (a := 0) (b := 159) ⟨by omega, by omega⟩ (in_c 1 rfl) rfl
            rw [this, h01]
          have tx : (t.1 44 x + Int32.ofInt 1).toInt = (t.1 44 x).toInt + 1 := by
            have := t_add (x := t.1 44 x) (y := Int32.ofInt 1) rfl (a := 0) (b := 159) ⟨by omega, by omega⟩ (in_c 1 rfl) rfl
            rw [this, h01]
          constructor
          · by_cases b : u = w
            · subst b
              rw [if_pos rfl, tw, cn_hit hFp]
              omega
            · rw [if_neg b, hu3.1, cn_miss (by rw [hFp]; omega)]
          · by_cases b : u = x
            · subst b
              rw [if_pos rfl, tx, cn_hit hGp]
              omega
            · rw [if_neg b, hu3.2, cn_miss (by rw [hGp]; omega)]
  refine g_enter2 (k := 106) (N := 60000) (by omega) rfl (Nat.le_of_ble_eq_true rfl) ?_
  refine g_aload_n 1 (gd rfl) rfl rfl ?_
  refine g_getI 4 (gd rfl) rfl rfl rfl (fun z1 e1 => ?_)
  refine g_aload_n 5 (gd rfl) rfl rfl ?_
  refine g_getI 8 (gd rfl) rfl rfl rfl (fun z2 e2 => ?_)
  have i2 := inv_F hI 0 4000 rfl e2
  refine g_cmp_ne 11 12 (gd rfl) rfl rfl (fun c => ?_) (fun c => ?_)
  · refine g_aload_n 13 (gd rfl) rfl rfl ?_
    refine g_aload_n 14 (gd rfl) rfl rfl ?_
    refine g_getI 17 (gd rfl) rfl rfl rfl (fun z3 e3 => ?_)
    have i3 := inv_F hI 0 4000 rfl e3
    refine g_putI 20 (gd rfl) rfl rfl rfl rfl ?_
    have hI1 := rng_sF (q := 32) (j := 4) hI.1 rfl (in_w (-1) 4000 i3 rfl)
    refine g_aload_n 21 (gd rfl) rfl rfl ?_
    refine g_getA (q2 := 39) 24 (gd rfl) rfl rfl rfl rfl ?_
    refine g_iconst 0 25 (gd rfl) rfl rfl ?_
    refine g_calls (As := [.ref (A 39), .int (Int32.ofInt 0)]) (r := []) 28 (gd rfl) rfl rfl rfl rfl rfl (Nat.le_of_ble_eq_true rfl) (Nat.zero_le _) (Nat.zero_le _) (x_417 (q := 39) (n := 32) (by omega) rfl (by decide)) (fun v u h => ?_)
    obtain ⟨g1, rfl, rfl, hg1⟩ := h
    show GG _ _ _ _ _ _ _ _ [] _ _ _
    have hI2 := rng_sA (q := 39) (g := g1) hI1 (fun i hi => by rw [hg1 i hi]; exact (in_w (-2147483648) 2147483647 (in_c 0 rfl) rfl : In (Int32.ofInt 0) (-2147483648) 2147483647))
    refine g_aload_n 29 (gd rfl) rfl rfl ?_
    refine g_getA (q2 := 40) 32 (gd rfl) rfl rfl rfl rfl ?_
    refine g_iconst 0 33 (gd rfl) rfl rfl ?_
    refine g_calls (As := [.ref (A 40), .int (Int32.ofInt 0)]) (r := []) 36 (gd rfl) rfl rfl rfl rfl rfl (Nat.le_of_ble_eq_true rfl) (Nat.zero_le _) (Nat.zero_le _) (x_417 (q := 40) (n := 32) (by omega) rfl (by decide)) (fun v u h => ?_)
    obtain ⟨g2, rfl, rfl, hg2⟩ := h
    show GG _ _ _ _ _ _ _ _ [] _ _ _
    have hI3 := rng_sA (q := 40) (g := g2) hI2 (fun i hi => by rw [hg2 i hi]; exact (in_w (-2147483648) 2147483647 (in_c 0 rfl) rfl : In (Int32.ofInt 0) (-2147483648) 2147483647))
    refine g_aload_n 37 (gd rfl) rfl rfl ?_
    refine g_getA (q2 := 41) 40 (gd rfl) rfl rfl rfl rfl ?_
    refine g_iconst 0 41 (gd rfl) rfl rfl ?_
    refine g_calls (As := [.ref (A 41), .int (Int32.ofInt 0)]) (r := []) 44 (gd rfl) rfl rfl rfl rfl rfl (Nat.le_of_ble_eq_true rfl) (Nat.zero_le _) (Nat.zero_le _) (x_417 (q := 41) (n := 32) (by omega) rfl (by decide)) (fun v u h => ?_)
    obtain ⟨g3, rfl, rfl, hg3⟩ := h
    show GG _ _ _ _ _ _ _ _ [] _ _ _
    have hI4 := rng_sA (q := 41) (g := g3) hI3 (fun i hi => by rw [hg3 i hi]; exact (in_w (-2147483648) 2147483647 (in_c 0 rfl) rfl : In (Int32.ofInt 0) (-2147483648) 2147483647))
    refine g_aload_n 45 (gd rfl) rfl rfl ?_
    refine g_getA (q2 := 42) 48 (gd rfl) rfl rfl rfl rfl ?_
    refine g_iconst 0 49 (gd rfl) rfl rfl ?_
    refine g_calls (As := [.ref (A 42), .int (Int32.ofInt 0)]) (r := []) 52 (gd rfl) rfl rfl rfl rfl rfl (Nat.le_of_ble_eq_true rfl) (Nat.zero_le _) (Nat.zero_le _) (x_417 (q := 42) (n := 33) (by omega) rfl (by decide)) (fun v u h => ?_)
    obtain ⟨g4, rfl, rfl, hg4⟩ := h
    show GG _ _ _ _ _ _ _ _ [] _ _ _
    have hI5 := rng_sA (q := 42) (g := g4) hI4 (fun i hi => by rw [hg4 i hi]; exact (in_w 0 160 (in_c 0 rfl) rfl : In (Int32.ofInt 0) 0 160))
    refine g_aload_n 53 (gd rfl) rfl rfl ?_
    refine g_getA (q2 := 44) 56 (gd rfl) rfl rfl rfl rfl ?_
    refine g_iconst 0 57 (gd rfl) rfl rfl ?_
    refine g_calls (As := [.ref (A 44), .int (Int32.ofInt 0)]) (r := []) 60 (gd rfl) rfl rfl rfl rfl rfl (Nat.le_of_ble_eq_true rfl) (Nat.zero_le _) (Nat.zero_le _) (x_417 (q := 44) (n := 33) (by omega) rfl (by decide)) (fun v u h => ?_)
    obtain ⟨g5, rfl, rfl, hg5⟩ := h
    show GG _ _ _ _ _ _ _ _ [] _ _ _
    have hI6 := rng_sA (q := 44) (g := g5) hI5 (fun i hi => by rw [hg5 i hi]; exact (in_w 0 160 (in_c 0 rfl) rfl : In (Int32.ofInt 0) 0 160))
    have fz : ∀ (g : Nat → Int32), (∀ j, j < 33 → g j = Int32.ofInt 0) → ∀ u : Nat, u ≤ 32 → (g u).toInt = 0 := fun g hg u hu => by rw [hg u (by omega)]; rfl
    refine g_iconst 0 61 (gd rfl) rfl rfl ?_
    refine g_istore_n 62 (gd rfl) rfl (Nat.le_of_ble_eq_true rfl) ?_
    refine gg_w (by omega) (gg_f (gf_cons rfl (gf_cons rfl gf_nil)) (ct62 161 _ (Int32.ofInt 0) hI6 (fr_sA rfl (fr_sA rfl (fr_sA rfl (fr_sA rfl (fr_sA rfl (fr_sF rfl fr_rf)))))) ((sF_get (s := s) (q := 32) (j := 4) (x := z3)).symm.trans e3) hf4.symm hf5.symm hT (msk_0 hg1 hg2 hg3) (by omega) (by omega) (fun u hu2 => ?_) (by omega)))
    have o1 : (g4 u).toInt = cn F (u : Int) (Int32.ofInt 0).toInt.toNat := fz g4 hg4 u hu2
    have o2 : (g5 u).toInt = cn G (u : Int) (Int32.ofInt 0).toInt.toNat := fz g5 hg5 u hu2
    exact ⟨o1, o2⟩
  · exact g_return (gd rfl) rfl (hP _ _ ⟨s, hI, fr_rf, by rw [← e1, ← e2]; exact c, rfl, rfl⟩)
