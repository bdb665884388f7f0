/-! Arrays.fill over any row of the world -/
theorem sA_self (s : GS) (q : Nat) : sA s q (s.1 q) = s := by
  unfold sA
  congr 1
  funext p
  by_cases e : p = q
  · rw [if_pos e, e]
  · rw [if_neg e]
theorem sI_sA (s : GS) (q j : Nat) (g : Nat → Int32) (x : Int32) : sI (sA s q g) q j x = sA s q (upd g j x) := by
  unfold sI sA
  congr 1
  funext p
  by_cases e : p = q
  · simp [e]
  · simp [e]
theorem sB_self (s : GS) (q : Nat) : sB s q (s.2.1 q) = s := by
  unfold sB
  have e : (fun p => if p = q then s.2.1 q else s.2.1 p) = s.2.1 := by
    funext p
    by_cases e : p = q
    · rw [if_pos e, e]
    · rw [if_neg e]
  rw [e]
theorem sL_sB (s : GS) (q j : Nat) (g : Nat → Int64) (x : Int64) : sL (sB s q g) q j x = sB s q (vp_updL g j x) := by
  unfold sL sB
  have e : (fun p => if p = q then vp_updL (if q = q then g else s.2.1 q) j x else if p = q then g else s.2.1 p) = (fun p => if p = q then vp_updL g j x else s.2.1 p) := by
    funext p
    by_cases e : p = q
    · simp [e]
    · simp [e]
  exact congrArg (fun z => (s.1, z, s.2.2)) e
theorem x_417 {Z : AmZ} {A : Nat → Nat} {s : GS} {ex : va_W} {d : Nat} {X : AmX} {q n : Nat} {x1 : Int32} (hd : 1 ≤ d) (hw : wak q 0 n = true) (hn : n ≤ 100000) : GC Z d 417 [.ref (A q), .int x1] (WW Z A s ++ ex) 0 0 (fun v u => ∃ g, v = none ∧ u = WW Z A (sA s q g) ++ ex ∧ ∀ j, j < n → g j = x1) X := by
  intro post xp hP hX
  have en : (Int32.ofInt (n : Int)).toInt = (n : Int) := Int32.toInt_ofInt_of_le (by omega) (by omega)
  have hc : Int32.ofNat n = Int32.ofInt (n : Int) := by
    apply Int32.toInt_inj.mp
    rw [en]
    exact Int32.toInt_ofNat_of_lt (by omega)
  have ct : ∀ (k : Nat) (g : Nat → Int32) (y : Int32), 0 ≤ y.toInt → y.toInt ≤ (n : Int) → (∀ j : Nat, (j : Int) < y.toInt → g j = x1) → (n : Int) - y.toInt < (k : Int) → GG Z (d - 1) 417 post (gx xp) (10 + k * 20) 5 (fun j => xlook j [(0, .ref (A q)), (1, .int x1), (2, .int y), (3, .int (Int32.ofInt (n : Int)))]) [] (WW Z A (sA s q g) ++ ex) 0 0 := by
    intro k
    induction k with
    | zero => intro g y h0 h1 hg hm; omega
    | succ k ih =>
      intro g y h0 h1 hg hm
      refine gg_w (M := 10 + k * 20 + 20) (by omega) ?_
      refine g_iload_n 6 (gd rfl) rfl rfl ?_
      refine g_iload_n 7 (gd rfl) rfl rfl ?_
      refine g_cmp_ge 10 20 (gd rfl) rfl rfl (fun c => ?_) (fun c => ?_)
      · exact g_return (gd rfl) rfl (hP _ _ ⟨g, rfl, rfl, fun j hj => hg j (by omega)⟩)
      · have hin : vp_in y n := in_ix (lo := 0) (hi := (n : Int) - 1) ⟨h0, by omega⟩ (decide_eq_true ⟨by omega, by omega⟩)
        refine g_aload_n 11 (gd rfl) rfl rfl ?_
        refine g_iload_n 12 (gd rfl) rfl rfl ?_
        refine g_iload_n 13 (gd rfl) rfl rfl ?_
        refine g_iastore 14 (gd rfl) rfl hw hin ?_
        rw [sI_sA]
        refine g_iinc 17 (gd rfl) rfl rfl (Nat.le_of_ble_eq_true rfl) (fun z e => ?_)
        refine g_goto 5 (gd rfl) rfl ?_
        have ez : z.toInt = y.toInt + 1 := by
          rw [e, Int32.toInt_add]
          have e1 : (Int32.ofInt 1).toInt = 1 := rfl
          rw [e1]
          exact Int.bmod_eq_of_le (by omega) (by omega)
        refine gg_w (by omega) (gg_f (gf_cons rfl (gf_cons rfl (gf_cons rfl (gf_cons rfl gf_nil)))) (ih _ z (by omega) (by omega) (fun j hj => ?_) (by omega)))
        unfold upd
        by_cases ej : j = y.toNatClampNeg
        · rw [if_pos ej]
        · rw [if_neg ej]
          refine hg j ?_
          have e2 : (y.toNatClampNeg : Int) = y.toInt := by
            show ((y.toInt.toNat : Nat) : Int) = y.toInt
            omega
          omega
  refine g_enter2 (k := 417) (N := 30 + (n + 1) * 20) (by omega) rfl (Nat.le_of_ble_eq_true rfl) ?_
  refine gg_w (M := 10 + (n + 1) * 20 + 10) (by omega) ?_
  refine g_iconst 0 1 (gd rfl) rfl rfl ?_
  refine g_istore_n 2 (gd rfl) rfl (Nat.le_of_ble_eq_true rfl) ?_
  refine g_aload_n 3 (gd rfl) rfl rfl ?_
  refine g_alen (t := 0) (n : Int) 4 (gd rfl) rfl hw (by decide) hc ?_
  refine g_istore_n 5 (gd rfl) rfl (Nat.le_of_ble_eq_true rfl) ?_
  have e0 : (Int32.ofInt 0).toInt = 0 := rfl
  have g0 := ct (n + 1) (s.1 q) (Int32.ofInt 0) (by omega) (by omega) (fun j hj => by omega) (by omega)
  rw [sA_self] at g0
  exact gg_w (by omega) (gg_f (gf_cons rfl (gf_cons rfl (gf_cons rfl (gf_cons rfl gf_nil)))) g0)
theorem x_416 {Z : AmZ} {A : Nat → Nat} {s : GS} {ex : va_W} {d : Nat} {X : AmX} {q n : Nat} {x1 : Int64} (hd : 1 ≤ d) (hw : wak q 1 n = true) (hn : n ≤ 100000) : GC Z d 416 [.ref (A q), .long x1] (WW Z A s ++ ex) 0 0 (fun v u => ∃ g, v = none ∧ u = WW Z A (sB s q g) ++ ex ∧ ∀ j, j < n → g j = x1) X := by
  intro post xp hP hX
  have en : (Int32.ofInt (n : Int)).toInt = (n : Int) := Int32.toInt_ofInt_of_le (by omega) (by omega)
  have hc : Int32.ofNat n = Int32.ofInt (n : Int) := by
    apply Int32.toInt_inj.mp
    rw [en]
    exact Int32.toInt_ofNat_of_lt (by omega)
  have ct : ∀ (k : Nat) (g : Nat → Int64) (y : Int32), 0 ≤ y.toInt → y.toInt ≤ (n : Int) → (∀ j : Nat, (j : Int) < y.toInt → g j = x1) → (n : Int) - y.toInt < (k : Int) → GG Z (d - 1) 416 post (gx xp) (10 + k * 20) 6 (fun j => xlook j [(0, .ref (A q)), (1, .long x1), (3, .int y), (4, .int (Int32.ofInt (n : Int)))]) [] (WW Z A (sB s q g) ++ ex) 0 0 := by
    intro k
    induction k with
    | zero => intro g y h0 h1 hg hm; omega
    | succ k ih =>
      intro g y h0 h1 hg hm
      refine gg_w (M := 10 + k * 20 + 20) (by omega) ?_
      refine g_iload_n 7 (gd rfl) rfl rfl ?_
      refine g_iload 9 (gd rfl) rfl rfl ?_
      refine g_cmp_ge 12 22 (gd rfl) rfl rfl (fun c => ?_) (fun c => ?_)
      · exact g_return (gd rfl) rfl (hP _ _ ⟨g, rfl, rfl, fun j hj => hg j (by omega)⟩)
      · have hin : vp_in y n := in_ix (lo := 0) (hi := (n : Int) - 1) ⟨h0, by omega⟩ (decide_eq_true ⟨by omega, by omega⟩)
        refine g_aload_n 13 (gd rfl) rfl rfl ?_
        refine g_iload_n 14 (gd rfl) rfl rfl ?_
        refine g_lload_n 15 (gd rfl) rfl rfl ?_
        refine g_lastore 16 (gd rfl) rfl hw hin ?_
        rw [sL_sB]
        refine g_iinc 19 (gd rfl) rfl rfl (Nat.le_of_ble_eq_true rfl) (fun z e => ?_)
        refine g_goto 6 (gd rfl) rfl ?_
        have ez : z.toInt = y.toInt + 1 := by
          rw [e, Int32.toInt_add]
          have e1 : (Int32.ofInt 1).toInt = 1 := rfl
          rw [e1]
          exact Int.bmod_eq_of_le (by omega) (by omega)
        refine gg_w (by omega) (gg_f (gf_cons rfl (gf_cons rfl (gf_cons rfl (gf_cons rfl gf_nil)))) (ih _ z (by omega) (by omega) (fun j hj => ?_) (by omega)))
        unfold vp_updL
        by_cases ej : j = y.toNatClampNeg
        · rw [if_pos ej]
        · rw [if_neg ej]
          refine hg j ?_
          have e2 : (y.toNatClampNeg : Int) = y.toInt := by
            show ((y.toInt.toNat : Nat) : Int) = y.toInt
            omega
          omega
  refine g_enter2 (k := 416) (N := 30 + (n + 1) * 20) (by omega) rfl (Nat.le_of_ble_eq_true rfl) ?_
  refine gg_w (M := 10 + (n + 1) * 20 + 10) (by omega) ?_
  refine g_iconst 0 1 (gd rfl) rfl rfl ?_
  refine g_istore_n 2 (gd rfl) rfl (Nat.le_of_ble_eq_true rfl) ?_
  refine g_aload_n 3 (gd rfl) rfl rfl ?_
  refine g_alen (t := 1) (n : Int) 4 (gd rfl) rfl hw (by decide) hc ?_
  refine g_istore 6 (gd rfl) rfl (Nat.le_of_ble_eq_true rfl) ?_
  have e0 : (Int32.ofInt 0).toInt = 0 := rfl
  have g0 := ct (n + 1) (s.2.1 q) (Int32.ofInt 0) (by omega) (by omega) (fun j hj => by omega) (by omega)
  rw [sB_self] at g0
  exact gg_w (by omega) (gg_f (gf_cons rfl (gf_cons rfl (gf_cons rfl (gf_cons rfl gf_nil)))) g0)
theorem qI_self (q : Nat) : qI [q] q = false := by unfold qI; simp
theorem sA_q {s : GS} {q : Nat} {g : Nat → Int32} : (sA s q g).1 q = g := by simp [sA]
theorem sB_q {s : GS} {q : Nat} {g : Nat → Int64} : (sB s q g).2.1 q = g := by simp [sB]
theorem k_fillIr {Z : AmZ} {A : Nat → Nat} {s : GS} {ex : va_W} {d : Nat} {X : AmX} {n : Nat} {x1 : Int32} {a b lo hi : Int} (q : Nat) (hd : 1 ≤ d) (hI : Rng s) (hx : In x1 a b) (hw : wak q 0 n = true) (hn : decide (n ≤ 100000) = true) (hr : rI q = (lo, hi)) (hk : decide (lo ≤ a ∧ b ≤ hi) = true) : GC Z d 417 [.ref (A q), .int x1] (WW Z A s ++ ex) 0 0 (fun v u => ∃ t : GS, Rng t ∧ Fr ([q], [], [], []) s t ∧ v = none ∧ u = WW Z A t ++ ex ∧ ∀ j, j < n → t.1 q j = x1) X := by
  intro post xp hP hX
  refine x_417 hd hw (of_decide_eq_true hn) post xp (fun v u ⟨g, h1, h2, h3⟩ => hP v u ⟨_, rng_sA hI (fun i hi => ?_), fr_sA (L := ([q], [], [], [])) (qI_self q) fr_rf, h1, h2, fun j hj => by rw [sA_q]; exact h3 j hj⟩) hX
  rw [h3 i (by rw [← (wak_w hw).2.2]; exact hi), hr]
  exact in_w _ _ hx hk
theorem k_fillLr {Z : AmZ} {A : Nat → Nat} {s : GS} {ex : va_W} {d : Nat} {X : AmX} {n : Nat} {x1 : Int64} (q : Nat) (hd : 1 ≤ d) (hI : Rng s) (hw : wak q 1 n = true) (hn : decide (n ≤ 100000) = true) {lo hi : Int} (hr : rL q = (lo, hi)) (hx : InL x1 lo hi) : GC Z d 416 [.ref (A q), .long x1] (WW Z A s ++ ex) 0 0 (fun v u => ∃ t : GS, Rng t ∧ Fr ([], [q], [], []) s t ∧ v = none ∧ u = WW Z A t ++ ex ∧ ∀ j, j < n → t.2.1 q j = x1) X := by
  intro post xp hP hX
  exact x_416 hd hw (of_decide_eq_true hn) post xp (fun v u ⟨g, h1, h2, h3⟩ => hP v u ⟨_, rng_sB hI (fun i hi => by rw [hr, h3 i (by rw [← (wak_w hw).2.2]; exact hi)]; exact hx), fr_sB (L := ([], [q], [], [])) (qI_self q) fr_rf, h1, h2, fun j hj => by rw [sB_q]; exact h3 j hj⟩) hX
theorem k_fillI {Z : AmZ} {A : Nat → Nat} {s : GS} {ex : va_W} {d : Nat} {X : AmX} {n : Nat} {x1 : Int32} {a b lo hi : Int} (q : Nat) (hd : 1 ≤ d) (hI : Inv s) (hx : In x1 a b) (hw : wak q 0 n = true) (hn : decide (n ≤ 100000) = true) (hr : rI q = (lo, hi)) (hk : decide (lo ≤ a ∧ b ≤ hi) = true) (hp : pI q = false := by rfl) : GC Z d 417 [.ref (A q), .int x1] (WW Z A s ++ ex) 0 0 (fun v u => ∃ t : GS, Inv t ∧ Fr ([q], [], [], []) s t ∧ v = none ∧ u = WW Z A t ++ ex ∧ ∀ j, j < n → t.1 q j = x1) X := by
  intro post xp hP hX
  refine x_417 hd hw (of_decide_eq_true hn) post xp (fun v u ⟨g, h1, h2, h3⟩ => hP v u ⟨_, inv_sA hI (fun i hi => ?_) hp, fr_sA (L := ([q], [], [], [])) (qI_self q) fr_rf, h1, h2, fun j hj => by rw [sA_q]; exact h3 j hj⟩) hX
  rw [h3 i (by rw [← (wak_w hw).2.2]; exact hi), hr]
  exact in_w _ _ hx hk
theorem k_fillL {Z : AmZ} {A : Nat → Nat} {s : GS} {ex : va_W} {d : Nat} {X : AmX} {n : Nat} {x1 : Int64} (q : Nat) (hd : 1 ≤ d) (hI : Inv s) (hw : wak q 1 n = true) (hn : decide (n ≤ 100000) = true) {lo hi : Int} (hr : rL q = (lo, hi)) (hx : InL x1 lo hi) : GC Z d 416 [.ref (A q), .long x1] (WW Z A s ++ ex) 0 0 (fun v u => ∃ t : GS, Inv t ∧ Fr ([], [q], [], []) s t ∧ v = none ∧ u = WW Z A t ++ ex ∧ ∀ j, j < n → t.2.1 q j = x1) X := by
  intro post xp hP hX
  exact x_416 hd hw (of_decide_eq_true hn) post xp (fun v u ⟨g, h1, h2, h3⟩ => hP v u ⟨_, inv_sB hI (fun i hi => by rw [hr, h3 i (by rw [← (wak_w hw).2.2]; exact hi)]; exact hx), fr_sB (L := ([], [q], [], [])) (qI_self q) fr_rf, h1, h2, fun j hj => by rw [sB_q]; exact h3 j hj⟩) hX
theorem g_cpI {Z : AmZ} {A : Nat → Nat} {s : GS} {ex : va_W} {d m N pc C S : Nat} {ret : AmR} {xp : GX} {f : Nat → Option Value} {r : List Value} {q i p0 q2 n0 n1 : Nat} {n dp sp : Int32} {a b lo hi : Int} (p : Nat) (hd : GD m pc (.invokestatic i) 3) (hp : pc + 3 = p) (hl : xlD (xo m) i = some (1001, 5, p0, 0)) (hw : wak q2 0 n0 = true) (hw2 : wak q 0 n1 = true) (hr : (r.map fun v => v.category).sum ≤ 8) (hsp : 0 ≤ sp.toInt) (hdp : 0 ≤ dp.toInt) (hn0 : 0 ≤ n.toInt) (h0 : sp.toInt + n.toInt ≤ (n0 : Int)) (h1 : dp.toInt + n.toInt ≤ (n1 : Int)) (hI : Inv s) (hr2 : rI q2 = (a, b)) (hr1 : rI q = (lo, hi)) (hk : decide (lo ≤ a ∧ b ≤ hi) = true) (hp9 : pI q = false)
    (h : ∀ t, Inv t → Fr ([q], [], [], []) s t → (∀ j, t.1 q j = va_cpy (s.1 q2) (s.1 q) sp.toNatClampNeg dp.toNatClampNeg n.toNatClampNeg j) → GG Z d m ret xp N p f r (WW Z A t ++ ex) C S) : GG Z d m ret xp (N + 1) pc f (.int n :: .int dp :: .ref (A q) :: .int sp :: .ref (A q2) :: r) (WW Z A s ++ ex) C S :=
  g_copyI p hd hp hl hw hw2 hr hsp hdp hn0 h0 h1 (h _ (inv_cpy hI hw hw2 (by
    show sp.toInt.toNat + n.toInt.toNat ≤ n0
    omega) hr2 hr1 hk hp9) (fr_sA (qI_self q) fr_rf) (fun j => by rw [sA_q]))
theorem g_cpL {Z : AmZ} {A : Nat → Nat} {s : GS} {ex : va_W} {d m N pc C S : Nat} {ret : AmR} {xp : GX} {f : Nat → Option Value} {r : List Value} {q i p0 q2 n0 n1 : Nat} {n dp sp : Int32} (p : Nat) (hd : GD m pc (.invokestatic i) 3) (hp : pc + 3 = p) (hl : xlD (xo m) i = some (1001, 5, p0, 0)) (hw : wak q2 1 n0 = true) (hw2 : wak q 1 n1 = true) (hr : (r.map fun v => v.category).sum ≤ 8) (hsp : 0 ≤ sp.toInt) (hdp : 0 ≤ dp.toInt) (hn0 : 0 ≤ n.toInt) (h0 : sp.toInt + n.toInt ≤ (n0 : Int)) (h1 : dp.toInt + n.toInt ≤ (n1 : Int)) (hI : Inv s) {a b lo hi : Int} (hr2 : rL q2 = (a, b)) (hr1 : rL q = (lo, hi)) (hk : decide (lo ≤ a ∧ b ≤ hi) = true)
    (h : ∀ t, Inv t → Fr ([], [q], [], []) s t → (∀ j, t.2.1 q j = va_cpy (s.2.1 q2) (s.2.1 q) sp.toNatClampNeg dp.toNatClampNeg n.toNatClampNeg j) → GG Z d m ret xp N p f r (WW Z A t ++ ex) C S) : GG Z d m ret xp (N + 1) pc f (.int n :: .int dp :: .ref (A q) :: .int sp :: .ref (A q2) :: r) (WW Z A s ++ ex) C S :=
  g_copyL p hd hp hl hw hw2 hr hsp hdp hn0 h0 h1 (h _ (inv_cpL hI hw (by
    show sp.toInt.toNat + n.toInt.toNat ≤ n0
    omega) hr2 hr1 hk) (fr_sB (qI_self q) fr_rf) (fun j => by rw [sB_q]))
theorem g_cpIr {Z : AmZ} {A : Nat → Nat} {s : GS} {ex : va_W} {d m N pc C S : Nat} {ret : AmR} {xp : GX} {f : Nat → Option Value} {r : List Value} {q i p0 q2 n0 n1 : Nat} {n dp sp : Int32} {a b lo hi : Int} (p : Nat) (hd : GD m pc (.invokestatic i) 3) (hp : pc + 3 = p) (hl : xlD (xo m) i = some (1001, 5, p0, 0)) (hw : wak q2 0 n0 = true) (hw2 : wak q 0 n1 = true) (hr : (r.map fun v => v.category).sum ≤ 8) (hsp : 0 ≤ sp.toInt) (hdp : 0 ≤ dp.toInt) (hn0 : 0 ≤ n.toInt) (h0 : sp.toInt + n.toInt ≤ (n0 : Int)) (h1 : dp.toInt + n.toInt ≤ (n1 : Int)) (hI : Rng s) (hr2 : rI q2 = (a, b)) (hr1 : rI q = (lo, hi)) (hk : decide (lo ≤ a ∧ b ≤ hi) = true)
    (h : ∀ t, Rng t → Fr ([q], [], [], []) s t → (∀ j, t.1 q j = va_cpy (s.1 q2) (s.1 q) sp.toNatClampNeg dp.toNatClampNeg n.toNatClampNeg j) → GG Z d m ret xp N p f r (WW Z A t ++ ex) C S) : GG Z d m ret xp (N + 1) pc f (.int n :: .int dp :: .ref (A q) :: .int sp :: .ref (A q2) :: r) (WW Z A s ++ ex) C S :=
  g_copyI p hd hp hl hw hw2 hr hsp hdp hn0 h0 h1 (h _ (rng_cpy hI hw hw2 (by
    show sp.toInt.toNat + n.toInt.toNat ≤ n0
    omega) hr2 hr1 hk) (fr_sA (qI_self q) fr_rf) (fun j => by rw [sA_q]))
theorem g_cpLr {Z : AmZ} {A : Nat → Nat} {s : GS} {ex : va_W} {d m N pc C S : Nat} {ret : AmR} {xp : GX} {f : Nat → Option Value} {r : List Value} {q i p0 q2 n0 n1 : Nat} {n dp sp : Int32} (p : Nat) (hd : GD m pc (.invokestatic i) 3) (hp : pc + 3 = p) (hl : xlD (xo m) i = some (1001, 5, p0, 0)) (hw : wak q2 1 n0 = true) (hw2 : wak q 1 n1 = true) (hr : (r.map fun v => v.category).sum ≤ 8) (hsp : 0 ≤ sp.toInt) (hdp : 0 ≤ dp.toInt) (hn0 : 0 ≤ n.toInt) (h0 : sp.toInt + n.toInt ≤ (n0 : Int)) (h1 : dp.toInt + n.toInt ≤ (n1 : Int)) (hI : Rng s) {a b lo hi : Int} (hr2 : rL q2 = (a, b)) (hr1 : rL q = (lo, hi)) (hk : decide (lo ≤ a ∧ b ≤ hi) = true)
    (h : ∀ t, Rng t → Fr ([], [q], [], []) s t → (∀ j, t.2.1 q j = va_cpy (s.2.1 q2) (s.2.1 q) sp.toNatClampNeg dp.toNatClampNeg n.toNatClampNeg j) → GG Z d m ret xp N p f r (WW Z A t ++ ex) C S) : GG Z d m ret xp (N + 1) pc f (.int n :: .int dp :: .ref (A q) :: .int sp :: .ref (A q2) :: r) (WW Z A s ++ ex) C S :=
  g_copyL p hd hp hl hw hw2 hr hsp hdp hn0 h0 h1 (h _ (rng_cpL hI hw (by
    show sp.toInt.toNat + n.toInt.toNat ≤ n0
    omega) hr2 hr1 hk) (fr_sB (qI_self q) fr_rf) (fun j => by rw [sB_q]))
