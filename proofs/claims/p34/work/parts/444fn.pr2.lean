section
/-! THE CLASS'S PAIRS, step by step -/
def LYD (s t : GS) (a b c d : Int32) : Prop := t.1 69 = upd (s.1 69) (s.2.2.1 65 8).toNatClampNeg a ∧ t.1 70 = upd (s.1 70) (s.2.2.1 65 8).toNatClampNeg b ∧ t.1 71 = upd (s.1 71) (s.2.2.1 65 8).toNatClampNeg c ∧ t.1 72 = upd (s.1 72) (s.2.2.1 65 8).toNatClampNeg d ∧ t.1 73 = upd (s.1 73) (s.2.2.1 65 8).toNatClampNeg (Int32.ofInt 0) ∧ (t.2.2.1 65 8).toInt = (s.2.2.1 65 8).toInt + 1
theorem lyd_i {s : GS} {a b c d z w : Int32} (e : z = s.2.2.1 65 8) (hw : w.toInt = z.toInt + 1) : LYD s (sF (sI (sI (sI (sI (sI s 69 z.toNatClampNeg a) 70 z.toNatClampNeg b) 71 z.toNatClampNeg c) 72 z.toNatClampNeg d) 73 z.toNatClampNeg (Int32.ofInt 0)) 65 8 w) a b c d := by
  unfold LYD
  rw [← e]
  have f2 : (sF (sI (sI (sI (sI (sI s 69 z.toNatClampNeg a) 70 z.toNatClampNeg b) 71 z.toNatClampNeg c) 72 z.toNatClampNeg d) 73 z.toNatClampNeg (Int32.ofInt 0)) 65 8 w).2.2.1 65 8 = w := by simp [sF]
  have f1 : (sF (sI (sI (sI (sI (sI s 69 z.toNatClampNeg a) 70 z.toNatClampNeg b) 71 z.toNatClampNeg c) 72 z.toNatClampNeg d) 73 z.toNatClampNeg (Int32.ofInt 0)) 65 8 w).1 = (sI (sI (sI (sI (sI s 69 z.toNatClampNeg a) 70 z.toNatClampNeg b) 71 z.toNatClampNeg c) 72 z.toNatClampNeg d) 73 z.toNatClampNeg (Int32.ofInt 0)).1 := rfl
  rw [f2, f1]
  refine ⟨?_, ?_, ?_, ?_, ?_, hw⟩
  · rw [sI_p rfl, sI_p rfl, sI_p rfl, sI_p rfl, sI_q]
  · rw [sI_p rfl, sI_p rfl, sI_p rfl, sI_q, sI_p rfl]
  · rw [sI_p rfl, sI_p rfl, sI_q, sI_p rfl, sI_p rfl]
  · rw [sI_p rfl, sI_q, sI_p rfl, sI_p rfl, sI_p rfl]
  · rw [sI_q, sI_p rfl, sI_p rfl, sI_p rfl, sI_p rfl]
def E37 (g : GVW) (t : GS) (k : Nat) : Prop := ∀ v, v < k → (LWg g v → exC t v = 1) ∧ (¬ LWg g v → exC t v = -1)
theorem e37_s {g : GVW} {sc : GS} {k : Nat} {x : Int32} (h : E37 g sc k) (h1 : LWg g k → x.toInt = 1) (h2 : ¬ LWg g k → x.toInt = -1) : E37 g (sI sc 74 k x) (k + 1) := by
  intro v hv
  have e : exC (sI sc 74 k x) v = (upd (sc.1 74) k x v).toInt := by
    show ((sI sc 74 k x).1 74 v).toInt = _
    rw [sI_q]
  rw [e]
  by_cases c : v = k
  · rw [c, up_e]; exact ⟨h1, h2⟩
  · rw [up_n c]; exact h v (by omega)
theorem e37_h {g : GVW} {sc : GS} {y z : Int32} (h : E37 g sc y.toNatClampNeg) (ez : z = g.1 y.toNatClampNeg) (c : (Int32.ofInt 13).toInt ≤ z.toInt) : E37 g (sI sc 74 y.toNatClampNeg (Int32.ofInt (-1))) (y.toNatClampNeg + 1) := by
  have k : (Int32.ofInt 13).toInt = 13 := rfl
  refine e37_s h (fun l => ?_) (fun _ => rfl)
  unfold LWg at l
  rw [← ez] at l
  omega
theorem e37_l {g : GVW} {sc : GS} {y z : Int32} (h : E37 g sc y.toNatClampNeg) (ez : z = g.1 y.toNatClampNeg) (c : z.toInt < (Int32.ofInt 13).toInt) : E37 g (sI sc 74 y.toNatClampNeg (Int32.ofInt 1)) (y.toNatClampNeg + 1) := by
  have k : (Int32.ofInt 13).toInt = 13 := rfl
  refine e37_s h (fun _ => rfl) (fun l => ?_)
  exfalso
  apply l
  unfold LWg
  rw [← ez]
  omega
theorem e37_x {g : GVW} {s t : GS} {k : Nat} (h : E37 g s k) (hx : exC t = exC s) : E37 g t k := by
  unfold E37
  rw [hx]
  exact h
/-- a place that is none -/
theorem pel_0 {g : GVW} {p : Nat} {z : Int32} (e : z = g.2.1 p) (c : z.toInt = -1) : ¬ PEL g p := fun h => h.1 (by rw [← e]; exact c)
theorem pel_1 {g : GVW} {p : Nat} {a b : Int32} (ea : a = g.2.1 p) (eb : b = g.2.2.1 p) (c : a.toInt = b.toInt) : ¬ PEL g p := fun h => h.2.1 (by rw [← ea, ← eb]; exact c)
theorem pel_2 {g : GVW} {p : Nat} {a b x y : Int32} (ea : a = g.2.1 p) (eb : b = g.2.2.1 p) (ex : x = g.1 a.toNatClampNeg) (ey : y = g.1 b.toNatClampNeg) (c : x.toInt < 13 ↔ y.toInt < 13) : ¬ PEL g p := by
  intro h
  apply h.2.2
  unfold LWg
  rw [← ea, ← eb, ← ex, ← ey]
  exact c
theorem pel_3 {g : GVW} {p : Nat} {a b x y : Int32} (ea : a = g.2.1 p) (eb : b = g.2.2.1 p) (ex : x = g.1 a.toNatClampNeg) (ey : y = g.1 b.toNatClampNeg) (h0 : a.toInt ≠ -1) (h1 : a.toInt ≠ b.toInt) (c1 : x.toInt < 13) (c2 : 13 ≤ y.toInt) : PEL g p ∧ ptl g p = a.toNatClampNeg ∧ phd g p = b.toNatClampNeg := by
  unfold PEL LWg ptl phd
  rw [← ea, ← eb, ← ex, ← ey, if_pos c1, if_pos c1]
  exact ⟨⟨h0, h1, fun q => by have := q.mp c1; omega⟩, rfl, rfl⟩
theorem pel_4 {g : GVW} {p : Nat} {a b x y : Int32} (ea : a = g.2.1 p) (eb : b = g.2.2.1 p) (ex : x = g.1 a.toNatClampNeg) (ey : y = g.1 b.toNatClampNeg) (h0 : a.toInt ≠ -1) (h1 : a.toInt ≠ b.toInt) (c1 : 13 ≤ x.toInt) (c2 : y.toInt < 13) : PEL g p ∧ ptl g p = b.toNatClampNeg ∧ phd g p = a.toNatClampNeg := by
  unfold PEL LWg ptl phd
  rw [← ea, ← eb, ← ex, ← ey, if_neg (by omega), if_neg (by omega)]
  exact ⟨⟨h0, h1, fun q => by have := q.mpr c2; omega⟩, rfl, rfl⟩
def LYF (g : GVW) (t : GS) (q : Nat) : Prop := LYO g (netC t) q ∧ ∀ e, e < (netC t).1 → fiC t e = 0
theorem lyf_0 {g : GVW} {t : GS} (h : t.2.2.1 65 8 = Int32.ofInt 0) : LYF g t 0 := by
  have e : (netC t).1 = 0 := by
    show (t.2.2.1 65 8).toNatClampNeg = 0
    rw [h]
    rfl
  exact ⟨lyo_0 e, fun d hd => by omega⟩
theorem lyf_n {g : GVW} {t : GS} {q : Nat} (h : LYF g t q) (hn : ¬ PEL g q) : LYF g t (q + 1) := ⟨lyo_n h.1 hn, h.2⟩
theorem lyf_y {g : GVW} {s t : GS} {q : Nat} {a b c d : Int32} (h : LYF g s q) (hq : q < 160) (hy : PEL g q ∧ ptl g q = a.toNatClampNeg ∧ phd g q = b.toNatClampNeg) (hc : c = g.2.2.2.1 q) (hd : d = Int32.ofInt 1) (h0 : 0 ≤ (s.2.2.1 65 8).toInt) (hl : (s.2.2.1 65 8).toInt < 160 → LYD s t a b c d) : LYF g t (q + 1) := by
  have k := lyo_c h.1
  have kk : (netC s).1 = (s.2.2.1 65 8).toInt.toNat := rfl
  obtain ⟨l1, l2, l3, l4, l5, l6⟩ := hl (by omega)
  have kn : (s.2.2.1 65 8).toNatClampNeg = (netC s).1 := rfl
  rw [kn] at l1 l2 l3 l4 l5
  have e0 : (netC t).1 = (netC s).1 + 1 := by
    show (t.2.2.1 65 8).toInt.toNat = _
    rw [l6, kk]
    omega
  have r1 : ∀ e, (netC t).2.1 e = (upd (s.1 69) (netC s).1 a e).toNatClampNeg := fun e => by show (t.1 69 e).toNatClampNeg = _; rw [l1]
  have r2 : ∀ e, (netC t).2.2.1 e = (upd (s.1 70) (netC s).1 b e).toNatClampNeg := fun e => by show (t.1 70 e).toNatClampNeg = _; rw [l2]
  have r3 : ∀ e, (netC t).2.2.2.1 e = (upd (s.1 71) (netC s).1 c e).toInt := fun e => by show (t.1 71 e).toInt = _; rw [l3]
  have r4 : ∀ e, (netC t).2.2.2.2 e = (upd (s.1 72) (netC s).1 d e).toInt := fun e => by show (t.1 72 e).toInt = _; rw [l4]
  have r5 : ∀ e, fiC t e = (upd (s.1 73) (netC s).1 (Int32.ofInt 0) e).toInt := fun e => by show (t.1 73 e).toInt = _; rw [l5]
  refine ⟨lyo_y h.1 hy.1 e0 ?_ ?_ ?_ ?_ (fun e he => ⟨?_, ?_, ?_, ?_⟩), fun e he => ?_⟩
  · rw [r1, up_e]; exact hy.2.1.symm
  · rw [r2, up_e]; exact hy.2.2.symm
  · rw [r3, up_e, hc]; rfl
  · rw [r4, up_e, hd]; rfl
  · rw [r1, up_n he]; rfl
  · rw [r2, up_n he]; rfl
  · rw [r3, up_n he]; rfl
  · rw [r4, up_n he]; rfl
  · rw [r5]
    by_cases c : e = (netC s).1
    · rw [c, up_e]; rfl
    · rw [up_n c]
      exact h.2 e (by omega)
theorem pnb_0 {g : GVW} {n : Nat} {s : GS} (hg : GOK g n) (he : E37 g s n) (hl : LYF g s 160) : PNB g n s ∧ sm (fiC s) (netC s).1 = 0 ∧ sm (fun e => (netC s).2.2.2.1 e * fiC s e) (netC s).1 = 0 := by
  obtain ⟨kN, kL⟩ := lyo_k hg.1 hg.2.1 hg.2.2.1 hg.2.2.2 hl.1
  have d0 : ∀ v, dvN (netC s).2.1 (netC s).2.2.1 (fiC s) (netC s).1 v = 0 := fun v => sm_0 _ (fun e h => by show fiC s e * _ = 0; rw [hl.2 e h, Int.zero_mul])
  refine ⟨⟨hl.1, fun e h => ?_, fun v hv => ?_, fun v => if (g.1 v).toInt < 13 then 0 else -1000000, -1000000, fun u v w hr => ?_, fun v hv => ?_⟩, sm_0 _ (fun e h => hl.2 e h), sm_0 _ (fun e h => by show _ * fiC s e = 0; rw [hl.2 e h, Int.mul_zero])⟩
  · obtain ⟨pl, h1, -⟩ := hl.1
    rw [hl.2 e h, (h1 e h).2.2.2.2.2]
    exact ⟨by decide, by decide, by decide⟩
  · rw [d0 v]
    have a := he v hv
    exact ⟨fun l => by have := a.1 l; exact ⟨by omega, by omega⟩, fun l => by have := a.2 l; exact ⟨by omega, by omega⟩⟩
  · obtain ⟨e, h, hr⟩ := hr
    have a := kL e h
    have b := (kN.2 e h).2.2.2
    unfold LWg at a
    dsimp only
    rcases hr with ⟨e1, e2, e3, e4⟩ | ⟨e1, e2, e3, e4⟩
    · rw [e1, e2, e3, if_pos a.1, if_neg a.2]
      omega
    · rw [hl.2 e h] at e4
      omega
  · rw [d0 v]
    dsimp only
    refine ⟨fun l => ⟨fun _ => ?_, fun q => by omega⟩, fun l => ⟨fun _ => ?_, fun q => by omega⟩⟩
    · unfold LWg at l
      rw [if_pos l]
      exact Int.le_refl _
    · unfold LWg at l
      rw [if_neg l]
      exact Int.le_refl _
theorem pnb_n {g : GVW} {n : Nat} {s : GS} (hg : GOK g n) (h : PNB g n s) : NLP s 1 n := ⟨(pnb_k hg h).1, h.2.1, h.2.2.2.elim (fun q hq => hq.elim (fun _ hm => ⟨q, hm.1⟩))⟩
theorem pnb_g {g : GVW} {n : Nat} {s t : GS} (h : PNB g n s) (h1 : netC t = netC s) (h2 : fiC t = fiC s) (h3 : exC t = exC s) : PNB g n t := by
  unfold PNB
  rw [h1, h2, h3]
  exact h
/-- one pair more -/
def PNS (g : GVW) (n : Nat) (s : GS) : Prop := PNB g n s ∧ (s.2.2.1 65 17).toInt = sm (fiC s) (netC s).1 ∧ (s.2.2.2.1 65 18).toInt = sm (fun e => (netC s).2.2.2.1 e * fiC s e) (netC s).1
theorem pns_s {g : GVW} {n : Nat} {sc s1 s2 t : GS} {z a : Int32} {w x y : Int64} (hg : GOK g n) (h : PNS g n sc) (F1 : netC s1 = netC sc) (F2 : fiC s1 = fiC sc) (F3 : exC s1 = exC sc) (hL : ∃ r : Nat → Nat, NLF (netC sc) (fiC sc) 1 n (exC sc) (faC s1) (viC s1) r) (hB : NBT (exC sc) (faC s1) 1 n z.toInt) (hz : z.toInt ≠ -1) (hT : ∀ (σ : Int) (n : Nat) (r : Nat → Nat), CTP σ n r s1 z.toNatClampNeg → CTO σ n s1 s2 z.toNatClampNeg w.toInt) (hN : netC s2 = netC s1)
    (ea : a.toInt = (sc.2.2.1 65 17).toInt + 1) (ex : x = sc.2.2.2.1 65 18) (ey : y = x + w) (t1 : netC t = netC s2) (t2 : fiC t = fiC s2) (t3 : exC t = exC s2) (t4 : t.2.2.1 65 17 = a) (t5 : t.2.2.2.1 65 18 = y) : PNS g n t := by
  obtain ⟨h1, h2, h3⟩ := h
  have k1 := pnb_g h1 F1 F2 F3
  have hx := pnb_x hg k1
  obtain ⟨kN, kL, kz, kl, kb⟩ := pnb_k hg k1
  obtain ⟨r, hr⟩ := hL
  rw [← F1, ← F2, ← F3] at hr
  rw [← F3] at hB
  rcases hB with ⟨c, -⟩ | ⟨b1, b2, b3, b4, b5⟩
  · exact absurd c hz
  · have bz : z.toInt.toNat = z.toNatClampNeg := rfl
    rw [bz] at b2 b3 b4 b5
    have bf : faC s1 z.toNatClampNeg < 9000000000000000 := by
      rcases hr.2.2.2 _ b2 with q | q
      · exact absurd q b4
      · exact q.1
    have hC : CTP 1 n r s1 z.toNatClampNeg := ⟨by decide, kN, k1.2.1, hr, b2, b3, bf, fun v hv => by have := hx v hv; exact ⟨by omega, by omega⟩⟩
    have ho := hT 1 n r hC
    obtain ⟨p1, p2, p3⟩ := pnb_s hg k1 hC b5 ho hN
    obtain ⟨jN, jL, jz, jl, jb⟩ := pnb_k hg p1
    have z1 := zo_sum kN kz (lyo_c k1.1)
    have z2 := zo_sum jN jz (lyo_c p1.1)
    rw [hN] at z2
    rw [← F1, ← F2] at h2 h3
    have ex2 : x.toInt = sm (fun e => (netC s1).2.2.2.1 e * fiC s1 e) (netC s1).1 := by rw [ex]; exact h3
    have yv := ladd_t ey (by omega) (by omega)
    refine ⟨pnb_g p1 t1 t2 t3, ?_, ?_⟩
    · rw [t4, t2, t1, hN, p2]
      omega
    · rw [t5, t2, t1, hN]
      omega
def PRG (g : GVW) (k S : Int) : Prop := NDQ g ∧ PRV g k S
theorem prg_e {g h : GVW} {k S : Int} (q : GEW g h) (hp : PRG g k S) : PRG h k S := ⟨ndq_e (gew_s q) hp.1, prv_e q hp.1 hp.2⟩
def PRQ (g : GVW) (t : GS) : Prop := (t.2.2.1 65 16).toInt = g.2.2.2.2.2.2.2 ∧ PRG g (t.2.2.1 65 17).toInt (t.2.2.2.1 65 18).toInt
def PRB (g : GVW) (s : GS) : Prop := (s.2.2.1 65 16).toInt = g.2.2.2.2.2.2.2 → PRG g (s.2.2.1 65 17).toInt (s.2.2.2.1 65 18).toInt
def PRC (s : GS) : Prop := PRB (shC s) s
theorem pns_e {g : GVW} {n : Nat} {sc s1 : GS} {z : Int32} (hg : GOK g n) (h : PNS g n sc) (hL : ∃ r : Nat → Nat, NLF (netC sc) (fiC sc) 1 n (exC sc) (faC s1) (viC s1) r) (hB : NBT (exC sc) (faC s1) 1 n z.toInt) (hz : z.toInt = -1) (hv : (s1.2.2.1 65 16).toInt = g.2.2.2.2.2.2.2) (f1 : s1.2.2.1 65 17 = sc.2.2.1 65 17) (f2 : s1.2.2.2.1 65 18 = sc.2.2.2.1 65 18) : PRQ g s1 := by
  refine ⟨hv, hg.1, ?_⟩
  obtain ⟨h1, h2, h3⟩ := h
  obtain ⟨r, hr⟩ := hL
  rw [f1, f2, h2, h3]
  rcases hB with ⟨-, c⟩ | ⟨b1, -⟩
  · exact pnb_e hg h1 hr c
  · omega
theorem pns_x {g : GVW} {n : Nat} {sc : GS} (hg : GOK g n) (h : PNS g n sc) : (sc.2.2.1 65 17).toInt ≤ 16 := by
  obtain ⟨h1, h2, h3⟩ := h
  obtain ⟨kN, kL, kz, kl, kb⟩ := pnb_k hg h1
  have a := sz_16 kN kL kb
  omega
theorem lyf_w {g : GVW} {t : GS} {q : Nat} {T0 : Int} (h : LYF g t q) (hT : ∀ p : Nat, p < 160 → (g.2.1 p).toInt ≠ -1 → (p : Int) < T0) (hq : T0 ≤ (q : Int)) (h160 : q ≤ 160) : LYF g t 160 := by
  have a := lyo_w (160 - q) q h.1 (fun p h1 h2 hp => by
    have := hT p (by omega) hp.1
    omega)
  rw [show q + (160 - q) = 160 by omega] at a
  exact ⟨a, h.2⟩
theorem gok_C {s : GS} (hI : Inv s) (hn : NDQ (gvC s)) : GOK (gvC s) (s.2.2.1 2 1).toNatClampNeg := by
  have i := inv_F hI (z := s.2.2.1 2 1) 0 32 rfl rfl
  unfold In at i
  have e : (s.2.2.1 2 1).toNatClampNeg = (s.2.2.1 2 1).toInt.toNat := rfl
  refine ⟨hn, (show (s.2.2.1 2 1).toInt = _ by omega), by omega, fun p hp => ?_⟩
  have w := hI.1.1 6 p (Nat.lt_of_lt_of_le hp (Nat.le_of_ble_eq_true rfl))
  have e : rI 6 = (-1000000, 1000000) := rfl
  rw [e] at w
  exact w
theorem gok_D {s : GS} (hI : Inv s) (hn : NDQ (gvD s)) : GOK (gvD s) (s.2.2.1 32 1).toNatClampNeg := by
  have i := inv_F hI (z := s.2.2.1 32 1) 0 32 rfl rfl
  unfold In at i
  have e : (s.2.2.1 32 1).toNatClampNeg = (s.2.2.1 32 1).toInt.toNat := rfl
  refine ⟨hn, (show (s.2.2.1 32 1).toInt = _ by omega), by omega, fun p hp => ?_⟩
  have w := hI.1.1 36 p (Nat.lt_of_lt_of_le hp (Nat.le_of_ble_eq_true rfl))
  have e : rI 36 = (-1000000, 1000000) := rfl
  rw [e] at w
  exact w
/-- the answer -/
def PRA (g : GVW) (x : Int) (z : Int) : Prop := ∃ k S : Int, PRV g k S ∧ (x = 0 → z = k) ∧ (x ≠ 0 → z = S)
theorem pra_u {g h : GVW} (q : GEW g h) (hn : NDQ g) {x z z2 : Int} (h1 : PRA g x z) (h2 : PRA h x z2) : z = z2 := by
  obtain ⟨k, S, a1, a2, a3⟩ := h1
  obtain ⟨k2, S2, b1, b2, b3⟩ := h2
  obtain ⟨e1, e2⟩ := prv_u (prv_e q hn a1) b1
  by_cases c : x = 0
  · rw [a2 c, b2 c, e1]
  · rw [a3 c, b3 c, e2]
end
section
/-! THE REFERENCE'S PAIRS -/
def SGR (S : GS) (q : Nat → Int) (M : Int) : Prop := (∀ x : Nat, x < 32 → (x : Int) < nnq S → FSQ S x → ((S.1 151 x).toInt < 0 → q x ≤ 0) ∧ (0 ≤ (S.1 151 x).toInt → 0 ≤ q x)) ∧ ∀ y : Nat, y < 32 → (y : Int) < nnq S → ¬ FSQ S y → ((S.1 151 y).toInt < 0 → M ≤ q y) ∧ (0 ≤ (S.1 151 y).toInt → q y ≤ M)
def PPS (s : GS) : Prop := ∃ (q : Nat → Int) (M : Int), FE (RPQ s (s.1 151)) q ∧ SGR s q M
def FLS (S : GS) (e : Int) (n : Nat) : Prop := PWI S ∧ ∃ (q : Nat → Int) (M : Int), (FE (RPQ S (S.1 151)) q ∧ SGR S q M) ∧ MTQ S (S.1 151) e ∧ ((e < 0 ∧ n = 0) ∨ (0 ≤ e ∧ e < nnq S ∧ e < 32 ∧ ¬ FSQ S e.toNat ∧ ∃ (A : Nat → Prop) (r : Nat → Nat) (m0 : Nat → Int32), A e.toNat ∧ n = r e.toNat + 1 ∧
  (∀ y : Nat, y < 32 → (y : Int) < nnq S → ¬ FSQ S y → A y → 0 ≤ (S.1 148 y).toInt ∧ (S.1 148 y).toInt ≤ 31 ∧ pwq S (S.1 148 y).toNatClampNeg y < 9000000000000000 ∧ A (S.1 148 y).toNatClampNeg ∧ q y = q (S.1 148 y).toNatClampNeg + pwq S (S.1 148 y).toNatClampNeg y ∧ r (S.1 148 y).toNatClampNeg < r y) ∧
  (∀ x : Nat, x < 32 → (x : Int) < nnq S → FSQ S x → A x → 0 ≤ (m0 x).toInt → A (m0 x).toNatClampNeg ∧ r (m0 x).toNatClampNeg < r x) ∧
  (∀ x : Nat, x < 32 → (x : Int) < nnq S → FSQ S x → r x < r e.toNat → S.1 151 x = m0 x) ∧ q e.toNat ≤ M ∧ ∀ x : Nat, x < 32 → (x : Int) < nnq S → FSQ S x → A x → (m0 x).toInt < 0 → 0 ≤ q x))
theorem fls_s {S : GS} {e u x : Int32} {n : Nat} (h : FLS S e.toInt n) (he : 0 ≤ e.toInt) (hu : u = S.1 148 e.toNatClampNeg) (hx : x = S.1 151 u.toNatClampNeg) (hr : In x (-1) 31) : ∃ k, k < n ∧ FLS (sI (sI S 151 u.toNatClampNeg e) 151 e.toNatClampNeg u) x.toInt k := by
  obtain ⟨hW, q, M, f1, f2, f3⟩ := h
  rcases f3 with f3 | ⟨g1, g2, g3, g4, A, r, m0, a1, a2, a3, a4, a5, a6, a7⟩
  · omega
  have ee : e.toNatClampNeg = e.toInt.toNat := rfl
  rw [← ee] at g4 a1 a2 a5 a6
  have e32 : e.toNatClampNeg < 32 := by omega
  have een : (e.toNatClampNeg : Int) = e.toInt := by omega
  have b := a3 e.toNatClampNeg e32 (by omega) g4 a1
  rw [← hu] at b
  have u32 := nat32 (y := u) ⟨b.1, b.2.1⟩
  obtain ⟨n1, n2, n3, n4, n5, n6⟩ := hW _ _ u32.1 e32 b.2.2.1
  have hue : u.toNatClampNeg ≠ e.toNatClampNeg := by intro c; rw [c] at n3; exact n4 n3
  have k0 := a5 _ u32.1 n1 n3 b.2.2.2.2.2
  have q1 : (sI (sI S 151 u.toNatClampNeg e) 151 e.toNatClampNeg u).1 151 = upd (upd (S.1 151) u.toNatClampNeg e) e.toNatClampNeg u := by rw [sI_q, sI_q]
  have q2 : (sI (sI S 151 u.toNatClampNeg e) 151 e.toNatClampNeg u).1 148 = S.1 148 := by rw [sI_p rfl, sI_p rfl]
  have q3 : (sI (sI S 151 u.toNatClampNeg e) 151 e.toNatClampNeg u).1 111 = S.1 111 := by rw [sI_p rfl, sI_p rfl]
  have fg : (sI (sI S 151 u.toNatClampNeg e) 151 e.toNatClampNeg u).2 = S.2 := rfl
  generalize sI (sI S 151 u.toNatClampNeg e) 151 e.toNatClampNeg u = V at q1 q2 q3 fg ⊢
  have f : FSQ V = FSQ S := by funext v; unfold FSQ; rw [q3, fg]
  have nv : nnq V = nnq S := by unfold nnq; rw [fg]
  have p : pwq V = pwq S := by funext a b; unfold pwq; rw [fg]
  have mu : V.1 151 u.toNatClampNeg = e := by rw [q1]; unfold upd; rw [if_neg hue, if_pos rfl]
  have me : V.1 151 e.toNatClampNeg = u := by rw [q1]; unfold upd; rw [if_pos rfl]
  have mo : ∀ y, y ≠ u.toNatClampNeg → y ≠ e.toNatClampNeg → V.1 151 y = S.1 151 y := by
    intro y c1 c2
    rw [q1]; unfold upd; rw [if_neg c2, if_neg c1]
  have hMT : MTQ V (V.1 151) x.toInt := by
    unfold MTQ
    rw [f, nv, p]
    refine ⟨fun a ha han haf ham => ?_, fun y hy hyn hyf hyx hym => ?_⟩
    · have cae : a ≠ e.toNatClampNeg := by intro c; rw [c] at haf; exact n4 haf
      by_cases c : a = u.toNatClampNeg
      · rw [c, mu, me]
        refine ⟨fun c2 => ?_, e32, b.2.2.1, by omega⟩
        have c3 := (f2.1 _ u32.1 n1 n3 (by rw [← hx]; omega)).1
        rw [← hx] at c3
        exact c3 c2.symm
      · rw [mo a c cae] at ham ⊢
        obtain ⟨z1, z2, z3, z4⟩ := f2.1 a ha han haf ham
        have zs := (hW _ _ ha z2 z3)
        have zu : (S.1 151 a).toNatClampNeg ≠ u.toNatClampNeg := by intro c2; rw [c2] at zs; exact zs.2.2.2.1 n3
        have ze : (S.1 151 a).toNatClampNeg ≠ e.toNatClampNeg := by
          intro c2
          apply z1
          have : (S.1 151 a).toNatClampNeg = (S.1 151 a).toInt.toNat := rfl
          omega
        refine ⟨fun c2 => ?_, z2, z3, by rw [mo _ zu ze]; exact z4⟩
        have w := (f2.1 _ u32.1 n1 n3 (by rw [← hx]; omega)).2.2.2
        rw [← hx, show x.toNatClampNeg = (S.1 151 a).toNatClampNeg by show x.toInt.toNat = (S.1 151 a).toInt.toNat; rw [c2]] at w
        omega
    · have cyu : y ≠ u.toNatClampNeg := by intro c; rw [c] at hyf; exact hyf n3
      by_cases c : y = e.toNatClampNeg
      · rw [c, me, mu]
        exact ⟨u32.1, n1, n3, by omega⟩
      · rw [mo y cyu c] at hym ⊢
        obtain ⟨z1, z2, z3, z4⟩ := f2.2 y hy hyn hyf (by omega) hym
        have zu : (S.1 151 y).toNatClampNeg ≠ u.toNatClampNeg := by
          intro c2
          rw [c2, ← hx] at z4
          omega
        have ze : (S.1 151 y).toNatClampNeg ≠ e.toNatClampNeg := by intro c2; rw [c2] at z3; exact n4 z3
        exact ⟨z1, z2, z3, by rw [mo _ zu ze]; exact z4⟩
  have hFE : FE (RPQ V (V.1 151)) q := by
    intro a c w hq
    unfold RPQ at hq
    rw [f, nv, p] at hq
    obtain ⟨h1, h2, h3⟩ := hq
    rcases h3 with h3 | ⟨z1, z2, z3, z4, z5⟩
    · exact f1.1 a c w ⟨h1, h2, Or.inl h3⟩
    · by_cases cu : c = u.toNatClampNeg
      · rw [cu, mu] at z3
        have ea : a = e.toNatClampNeg := by omega
        rw [cu, ea] at z5
        rw [cu, ea]
        have t := b.2.2.2.2.1
        omega
      · have ce : c ≠ e.toNatClampNeg := by intro c2; rw [c2] at z2; exact n4 z2
        rw [mo c cu ce] at z3
        exact f1.1 a c w ⟨h1, h2, Or.inr ⟨z1, z2, z3, z4, z5⟩⟩
  have qu : 0 ≤ q u.toNatClampNeg := by
    by_cases c : 0 ≤ (S.1 151 u.toNatClampNeg).toInt
    · exact (f1.2.1 _ u32.1 n1 n3).2 c
    · exact a7 _ u32.1 n1 n3 b.2.2.2.1 (by rw [← k0]; omega)
  have hSG : SGR V q M := by
    unfold SGR
    rw [f, nv]
    refine ⟨fun y hy hyn hyf => ?_, fun y hy hyn hyf => ?_⟩
    · have ce : y ≠ e.toNatClampNeg := by intro c2; rw [c2] at hyf; exact n4 hyf
      by_cases cu : y = u.toNatClampNeg
      · rw [cu, mu]
        exact ⟨fun z => by omega, fun _ => qu⟩
      · rw [mo y cu ce]
        exact f1.2.1 y hy hyn hyf
    · have cu : y ≠ u.toNatClampNeg := by intro c2; rw [c2] at hyf; exact hyf n3
      by_cases ce : y = e.toNatClampNeg
      · rw [ce, me]
        exact ⟨fun z => by omega, fun _ => a6⟩
      · rw [mo y cu ce]
        exact f1.2.2 y hy hyn hyf
  have hWV : PWI V := by unfold PWI; rw [f, nv, p]; exact hW
  by_cases cx : x.toInt < 0
  · exact ⟨0, by omega, hWV, q, M, ⟨hFE, hSG⟩, hMT, Or.inl ⟨cx, rfl⟩⟩
  · have ex : x.toNatClampNeg = x.toInt.toNat := rfl
    obtain ⟨r1, r2⟩ := hr
    have z := f2.1 _ u32.1 n1 n3 (by rw [← hx]; omega)
    rw [← hx] at z
    have zs := hW _ _ u32.1 z.2.1 z.2.2.1
    have w := a4 _ u32.1 n1 n3 b.2.2.2.1 (by rw [← k0, ← hx]; omega)
    rw [← k0, ← hx] at w
    have bl := b.2.2.2.2.2
    refine ⟨r x.toNatClampNeg + 1, by omega, hWV, q, M, ⟨hFE, hSG⟩, hMT, Or.inr ⟨by omega, by rw [nv]; omega, by omega, by rw [f]; exact zs.2.2.2.1, A, r, m0, w.1, rfl, ?_, ?_, ?_, ?_, ?_⟩⟩
    · rw [f, nv, p, q2]; exact a3
    · rw [f, nv]; exact a4
    · rw [f, nv]
      intro y hy hyn hyf hyr
      rw [← ex] at hyr
      have c1 : y ≠ u.toNatClampNeg := by intro c; rw [c] at hyr; omega
      have c2 : y ≠ e.toNatClampNeg := by intro c; rw [c] at hyf; exact n4 hyf
      rw [mo y c1 c2]
      exact a5 y hy hyn hyf (by omega)
    · have y2 := f1.2.2 x.toNatClampNeg z.2.1 zs.2.1 zs.2.2.2.1
      exact y2.2 (by rw [z.2.2.2]; omega)
    · rw [f, nv]; exact a7
theorem cip_cl {s t : GS} (hP : PP s) (h5 : t.2.2.1 109 20 = s.2.2.1 109 20) (h : CIP s t) (hcl : CLP s t 1024) : ∀ u v w, RPQ s (s.1 151) u v w → pf t u < 9000000000000000 → pf t v ≤ pf t u + w ∧ pf t v < 9000000000000000 := by
  intro u v w hr hu
  have hb := rp_b hP.1 u v w hr
  have bb := bi_b (pqp_2 hP) h.1 hb.1 hu
  have key : pf t v ≤ pf t u + w := by
    obtain ⟨hu32, hv32, hr⟩ := hr
    rcases hr with ⟨p1, p2⟩ | ⟨p1, p2, p3, p4, p5⟩
    · obtain ⟨n1, n2, n3, n4, n5, n6⟩ := hP.1 u v hu32 hv32 p1
      by_cases c : (s.1 151 u).toInt = (v : Int)
      · have g := hP.2.1.1 u hu32 n1 n3 (by omega)
        have eu : (s.1 151 u).toNatClampNeg = v := by show (s.1 151 u).toInt.toNat = v; omega
        rw [eu] at g
        have ev : (s.1 151 v).toNatClampNeg = u := by show (s.1 151 v).toInt.toNat = u; omega
        have g2 := h.2.1 v hv32 n2 n4 (by omega)
        rw [ev] at g2
        by_cases c2 : pf t v < 9000000000000000
        · have := g2.1 c2
          omega
        · exact absurd hu (g2.2 c2)
      · have eu := pfx (t := t) h5 n1
        have ev := pfx (t := t) h5 n2
        rw [eu] at hu
        rw [eu, ev, p2]
        exact hcl u v hu32 hv32 (by omega) p1 hu c
    · obtain ⟨n1, n2, n3, n4, n5, n6⟩ := hP.1 v u hv32 hu32 p4
      have g := hP.2.1.1 v hv32 p1 p2 (by omega)
      have ev : (s.1 151 v).toNatClampNeg = u := by show (s.1 151 v).toInt.toNat = u; omega
      rw [ev] at g
      have eu : (s.1 151 u).toNatClampNeg = v := by show (s.1 151 u).toInt.toNat = v; omega
      have g2 := (h.2.1 u hu32 n2 n4 (by omega)).1 hu
      rw [eu] at g2
      omega
  exact ⟨key, by omega⟩
theorem fls_pp {S : GS} {e : Int} {n : Nat} (h : FLS S e n) : PPS S := by
  obtain ⟨hW, q, M, f1, f2, f3⟩ := h
  exact ⟨q, M, f1.1, f1.2⟩
/-- free first ones stay at 0 -/
def SP0 (s t : GS) : Prop := ∀ k : Nat, (k : Int) < nnq s → spq s k → (t.2.1 149 k).toInt = 0
def NBX (s t : GS) (k : Nat) (e : Int) : Prop := ∀ v : Nat, v < k → (v : Int) < nnq s → ¬ FSQ s v → (s.1 151 v).toInt < 0 → (t.2.1 149 v).toInt < 9000000000000000 → 0 ≤ e ∧ (t.2.1 149 e.toNat).toInt ≤ (t.2.1 149 v).toInt
theorem nbx_n {s t : GS} {k : Nat} {e : Int} (h : NBX s t k e) (hk : ¬ FSQ s k → (s.1 151 k).toInt < 0 → (t.2.1 149 k).toInt < 9000000000000000 → 0 ≤ e ∧ (t.2.1 149 e.toNat).toInt ≤ (t.2.1 149 k).toInt) : NBX s t (k + 1) e := by
  intro v hv hn hf hm hp
  by_cases c : v = k
  · rw [c] at hf hm hp ⊢
    exact hk hf hm hp
  · exact h v (by omega) hn hf hm hp
theorem nbx_y {s t : GS} {k : Nat} {e c : Int} (h : NBX s t k e) (hc : c = (k : Int)) (hk : e < 0 ∨ (t.2.1 149 k).toInt < (t.2.1 149 e.toNat).toInt) : NBX s t (k + 1) c := by
  have ec : c.toNat = k := by omega
  intro v hv hn hf hm hp
  rw [ec]
  refine ⟨by omega, ?_⟩
  by_cases d : v = k
  · rw [d]; exact Int.le_refl _
  · have a := h v (by omega) hn hf hm hp
    rcases hk with q | q
    · omega
    · omega
theorem cip_lb {s t : GS} {q : Nat → Int} {M : Int} (hP : PP s) (h5 : t.2.2.1 109 20 = s.2.2.1 109 20) (h : CIP s t) (h0 : SP0 s t) (hf : FE (RPQ s (s.1 151)) q) (hs : SGR s q M) : ∀ v, v < 32 → pf t v < 9000000000000000 → q v ≤ pf t v := by
  obtain ⟨r, r1, r2⟩ := bi_rank (pqp_ok hP).2 h.1
  have key : ∀ (m v : Nat), r v < m → v < 32 → pf t v < 9000000000000000 → q v ≤ pf t v := by
    intro m
    induction m with
    | zero => intro v hr; omega
    | succ m ih =>
      intro v hr hv hp
      by_cases c : spq s v
      · have hn : (v : Int) < nnq s := by
          by_cases d : (v : Int) < nnq s
          · exact d
          · exfalso
            unfold pf at hp
            unfold nnq at d
            rw [h5, if_neg d] at hp
            omega
        have a := (hs.1 v hv hn c.1).1 c.2
        have b := h0 v hn c
        rw [pfx h5 hn, b]
        exact a
      · obtain ⟨a1, a2, a3, a4, a5⟩ := r2 v hv hp c
        have b := ih _ (by omega) a1 a3
        have d := hf _ _ _ a2
        omega
  exact fun v hv hp => key (r v + 1) v (by omega) hv hp
/-- the next prices: at most C above the old ones -/
theorem sgr_n {s t : GS} {q : Nat → Int} {M C : Int} (hP : PP s) (h5 : t.2.2.1 109 20 = s.2.2.1 109 20) (h : CIP s t) (hcl : CLP s t 1024) (h0 : SP0 s t) (hf : FE (RPQ s (s.1 151)) q) (hs : SGR s q M) (hC : 0 ≤ C) (hM : ∀ y : Nat, y < 32 → (y : Int) < nnq s → ¬ FSQ s y → (s.1 151 y).toInt < 0 → pf t y < 9000000000000000 → M + C ≤ pf t y) : FE (RPQ s (s.1 151)) (fun v => if pf t v < 9000000000000000 ∧ pf t v - q v ≤ C then pf t v else q v + C) ∧ SGR s (fun v => if pf t v < 9000000000000000 ∧ pf t v - q v ≤ C then pf t v else q v + C) (M + C) := by
  have lb := cip_lb hP h5 h h0 hf hs
  refine ⟨fe_min hf (cip_cl hP h5 h hcl), fun x hx hn hfx => ⟨fun hm => ?_, fun hm => ?_⟩, fun y hy hn hfy => ⟨fun hm => ?_, fun hm => ?_⟩⟩
  · have a := h0 x hn ⟨hfx, hm⟩
    have e := pfx (t := t) h5 hn
    dsimp only
    split
    · rw [e, a]; exact Int.le_refl _
    · rename_i nc
      have : ¬ pf t x - q x ≤ C := fun z => nc ⟨by omega, z⟩
      omega
  · have a := (hs.1 x hx hn hfx).2 hm
    dsimp only
    split
    · rename_i yc
      have := lb x hx yc.1
      omega
    · omega
  · have a := (hs.2 y hy hn hfy).1 hm
    dsimp only
    split
    · rename_i yc
      exact hM y hy hn hfy hm yc.1
    · omega
  · have a := (hs.2 y hy hn hfy).2 hm
    dsimp only
    split
    · rename_i yc
      omega
    · omega
theorem sgr_c {s t : GS} {q : Nat → Int} {M : Int} (h1 : t.1 111 = s.1 111) (h2 : t.1 151 = s.1 151) (h4 : t.2.2.1 109 18 = s.2.2.1 109 18) (h5 : t.2.2.1 109 20 = s.2.2.1 109 20) (h : SGR s q M) : SGR t q M := by
  have f : FSQ t = FSQ s := by funext v; unfold FSQ; rw [h1, h4]
  have n : nnq t = nnq s := by unfold nnq; rw [h5]
  unfold SGR
  rw [f, n, h2]
  exact h
/-- nothing more to pair: prices as high as one likes -/
def PEE (S : GS) : Prop := ∃ (q : Nat → Int) (M : Int), 1000000000000 ≤ M ∧ FE (RPQ S (S.1 151)) q ∧ SGR S q M
theorem fls_0 {s t : GS} {e : Int32} (hP : PP s) (hS : PPS s) (h1 : t.1 111 = s.1 111) (h2 : t.1 151 = s.1 151) (h3 : t.2.1 152 = s.2.1 152) (h4 : t.2.2.1 109 18 = s.2.2.1 109 18) (h5 : t.2.2.1 109 20 = s.2.2.1 109 20) (h : CIP s t) (hcl : CLP s t 1024) (h0 : SP0 s t) (hN : NBX s t 32 e.toInt) (he : e.toInt < 0 ∨ (In e 0 31 ∧ e.toInt < nnq s ∧ ¬ FSQ s e.toNatClampNeg ∧ (s.1 151 e.toNatClampNeg).toInt < 0 ∧ (t.2.1 149 e.toNatClampNeg).toInt < 9000000000000000)) : (∃ n, FLS t e.toInt n) ∧ (e.toInt < 0 → PEE t) := by
  obtain ⟨w1, w2, w3⟩ := flp_no hP h1 h2 h3 h4 h5
  have f : FSQ t = FSQ s := by funext v; unfold FSQ; rw [h1, h4]
  have n : nnq t = nnq s := by unfold nnq; rw [h5]
  have p : pwq t = pwq s := by funext u v; unfold pwq; rw [h3]
  have ok := pqp_ok hP
  have cl := cip_cl hP h5 h hcl
  obtain ⟨q, M, hf, hs⟩ := hS
  have lb := cip_lb hP h5 h h0 hf hs
  have hm1 : ∀ e : Int, (e < 0 ∨ ∀ x : Nat, x < 32 → (x : Int) < nnq s → FSQ s x → 0 ≤ (s.1 151 x).toInt → (s.1 151 x).toInt ≠ e) → MTQ s (s.1 151) e := by
    intro e q
    refine ⟨fun x hx hn hf hm => ?_, fun y hy hn hf _ hm => hP.2.1.2 y hy hn hf (by omega) hm⟩
    have g := hP.2.1.1 x hx hn hf hm
    refine ⟨?_, g.2⟩
    rcases q with q | q
    · omega
    · exact q x hx hn hf hm
  rcases he with he | ⟨he, hen, hef, hem, he9⟩
  · refine ⟨⟨0, w1, q, M, ⟨w3 _ hf, sgr_c h1 h2 h4 h5 hs⟩, w2 _ (hm1 _ (Or.inl he)), Or.inl ⟨he, rfl⟩⟩, fun _ => ?_⟩
    obtain ⟨C, C0, C1⟩ : ∃ C : Int, 0 ≤ C ∧ 1000000000000 ≤ M + C := by
      by_cases c : 0 ≤ M
      · exact ⟨1000000000000, by omega, by omega⟩
      · exact ⟨1000000000000 - M, by omega, by omega⟩
    obtain ⟨g1, g2⟩ := sgr_n (C := C) hP h5 h hcl h0 hf hs C0 (fun y hy hn hfy hm hp => by
      rw [pfx h5 hn] at hp
      have := (hN y hy hn hfy hm hp).1
      omega)
    exact ⟨_, M + C, C1, w3 _ g1, sgr_c h1 h2 h4 h5 g2⟩
  · have e32 := nat32 he
    have een : e.toNatClampNeg = e.toInt.toNat := rfl
    have hen2 : (e.toNatClampNeg : Int) < nnq s := by omega
    obtain ⟨r, r1, r2⟩ := bi_rank ok.2 h.1
    have hfin : pf t e.toNatClampNeg < 9000000000000000 := by rw [pfx h5 hen2]; exact he9
    have le := lb _ e32.1 hfin
    have lM := (hs.2 _ e32.1 hen2 hef).1 hem
    obtain ⟨C, hC⟩ : ∃ C : Int, C = pf t e.toNatClampNeg - M := ⟨_, rfl⟩
    have C0 : 0 ≤ C := by omega
    obtain ⟨g1, g2⟩ := sgr_n (C := C) hP h5 h hcl h0 hf hs C0 (fun y hy hn hfy hm hp => by
      rw [pfx h5 hn] at hp ⊢
      have := (hN y hy hn hfy hm hp).2
      rw [← een, ← pfx (t := t) h5 hen2] at this
      omega)
    have q2 : ∀ x, pf t x < 9000000000000000 → pf t x - q x ≤ C → (if pf t x < 9000000000000000 ∧ pf t x - q x ≤ C then pf t x else q x + C) = pf t x := fun x a b => if_pos ⟨a, b⟩
    refine ⟨⟨r e.toNatClampNeg + 1, w1, _, M + C, ⟨w3 _ g1, sgr_c h1 h2 h4 h5 g2⟩, w2 _ (hm1 _ (Or.inr (fun x hx hxn hxf hxm c => ?_))), Or.inr ⟨he.1, by rw [n]; exact hen, by have := he.2; omega, by rw [f]; exact hef, fun y => y < 32 ∧ pf t y < 9000000000000000 ∧ pf t y - q y ≤ C, r, s.1 151, ⟨e32.1, hfin, by show pf t e.toNatClampNeg - q e.toNatClampNeg ≤ C; omega⟩, rfl, fun y hy hyn hyf hyA => ?_, fun x hx hxn hxf hxA hxm => ?_, fun x _ _ _ _ => by rw [h2], ?_, fun x hx hxn hxf hxA hxm => ?_⟩⟩, fun z => by have := he.1; omega⟩
    · have g := (hP.2.1.1 x hx hxn hxf hxm).2.2.2
      have ec : (s.1 151 x).toNatClampNeg = e.toNatClampNeg := by show (s.1 151 x).toInt.toNat = e.toInt.toNat; rw [c]
      rw [ec] at g
      omega
    · rw [n] at hyn
      rw [f] at hyf
      obtain ⟨y1, y2, y3⟩ := hyA
      have hb := h.2.2 y hy hyn hyf y2
      obtain ⟨q1, k2, q3, q4, q5⟩ := r2 y hy y2 (fun z => hyf z.1)
      have epd : pdp s t y = (t.1 148 y).toNatClampNeg := by unfold pdp; rw [if_neg hyf]
      have ewt : wtp s t y = pwq s (t.1 148 y).toNatClampNeg y := by unfold wtp; rw [if_neg hyf]
      rw [epd, ewt] at k2
      rw [epd] at q1 q3 q4
      rw [epd, ewt] at q5
      have hpw : pwq s (t.1 148 y).toNatClampNeg y < 9000000000000000 := by
        rcases k2.2.2 with z | z
        · exact z.1
        · exact absurd z.2.1 hyf
      have g := (cl _ _ _ k2 q3).1
      have fe := hf _ _ _ k2
      have in2 : pf t (t.1 148 y).toNatClampNeg - q (t.1 148 y).toNatClampNeg ≤ C := by omega
      rw [p]
      refine ⟨hb.1, hb.2, hpw, ⟨q1, q3, in2⟩, ?_, q4⟩
      try dsimp only
      rw [q2 y y2 y3, q2 _ q3 in2]
      omega
    · rw [n] at hxn
      rw [f] at hxf
      obtain ⟨y1, y2, y3⟩ := hxA
      obtain ⟨q1, k2, q3, q4, q5⟩ := r2 x hx y2 (fun z => by have := z.2; omega)
      have epd : pdp s t x = (s.1 151 x).toNatClampNeg := by unfold pdp; rw [if_pos hxf]
      rw [epd] at q1 k2 q3 q4 q5
      have fe := hf _ _ _ k2
      exact ⟨⟨q1, q3, by omega⟩, q4⟩
    · rw [← een]
      try dsimp only
      rw [q2 _ hfin (by omega)]
      omega
    · rw [n] at hxn
      rw [f] at hxf
      obtain ⟨y1, y2, y3⟩ := hxA
      try dsimp only
      rw [q2 x y2 y3, pfx h5 hxn, h0 x hxn ⟨hxf, hxm⟩]
      exact Int.le_refl _
theorem pps_0 {s : GS} (h : PWI s) (hm : ∀ k : Nat, (k : Int) < nnq s → (s.1 151 k).toInt < 0) : PPS s := by
  refine ⟨fun v => if (s.1 111 (32 * (s.2.2.1 109 18).toNatClampNeg + v)).toInt < 13 then 0 else -1000000, -1000000, fun u v w hr => ?_, fun x hx hn hf => ⟨fun _ => ?_, fun q => by have := hm x hn; omega⟩, fun y hy hn hf => ⟨fun _ => ?_, fun q => by have := hm y hn; omega⟩⟩
  · obtain ⟨h1, h2, h3⟩ := hr
    rcases h3 with ⟨p1, p2⟩ | ⟨p1, p2, p3, p4, p5⟩
    · obtain ⟨n1, n2, n3, n4, n5, n6⟩ := h u v h1 h2 p1
      dsimp only
      unfold FSQ at n3 n4
      rw [if_pos n3, if_neg n4]
      omega
    · have := hm v p1
      omega
  · dsimp only
    unfold FSQ at hf
    rw [if_pos hf]
    exact Int.le_refl _
  · dsimp only
    unfold FSQ at hf
    rw [if_neg hf]
    exact Int.le_refl _
/-! the weights of pairs are the least ones -/
def PWM (g : GVW) (s : GS) (k : Nat) : Prop := (∀ u v : Nat, u < 32 → v < 32 → pwq s u v < 9000000000000000 → ∃ p, p < k ∧ PEL g p ∧ ptl g p = u ∧ phd g p = v ∧ pwt g p = pwq s u v) ∧ ∀ p, p < k → PEL g p → pwq s (ptl g p) (phd g p) ≤ pwt g p
theorem pwm_0 {g : GVW} {s : GS} (h : ∀ u v : Nat, u < 32 → v < 32 → ¬ pwq s u v < 9000000000000000) : PWM g s 0 := ⟨fun u v hu hv q => absurd q (h u v hu hv), fun p hp => absurd hp (Nat.not_lt_zero p)⟩
theorem pwm_n {g : GVW} {s : GS} {k : Nat} (h : PWM g s k) (hn : ¬ PEL g k) : PWM g s (k + 1) := by
  refine ⟨fun u v hu hv q => ?_, fun p hp hl => ?_⟩
  · obtain ⟨p, p1, p2⟩ := h.1 u v hu hv q
    exact ⟨p, by omega, p2⟩
  · by_cases c : p = k
    · rw [c] at hl; exact absurd hl hn
    · exact h.2 p (by omega) hl
theorem pwm_y {g : GVW} {s T : GS} {k i : Nat} {w : Int64} (h : PWM g s k) (hy : PEL g k) (a32 : ptl g k < 32) (b32 : phd g k < 32) (hi : i = 32 * ptl g k + phd g k) (hT : T.2.1 152 = vp_updL (s.2.1 152) i w) (hw : (w.toInt = pwt g k ∧ pwt g k < pwq s (ptl g k) (phd g k)) ∨ (w.toInt = pwq s (ptl g k) (phd g k) ∧ pwq s (ptl g k) (phd g k) ≤ pwt g k)) : PWM g T (k + 1) := by
  have e1 : pwq T (ptl g k) (phd g k) = w.toInt := by unfold pwq; rw [hT, ← hi, ul_eq]
  have e2 : ∀ a b, b < 32 → ¬ (a = ptl g k ∧ b = phd g k) → pwq T a b = pwq s a b := by
    intro a b hb hn
    unfold pwq
    rw [hT, ul_ne (by
      intro c
      apply hn
      rw [hi] at c
      exact ⟨by omega, by omega⟩)]
  refine ⟨fun u v hu hv q => ?_, fun p hp hl => ?_⟩
  · by_cases c : u = ptl g k ∧ v = phd g k
    · rw [c.1, c.2, e1] at q ⊢
      rcases hw with ⟨w1, w2⟩ | ⟨w1, w2⟩
      · exact ⟨k, by omega, hy, rfl, rfl, w1.symm⟩
      · obtain ⟨p, p1, p2, p3, p4, p5⟩ := h.1 (ptl g k) (phd g k) a32 b32 (by omega)
        exact ⟨p, by omega, p2, p3, p4, by omega⟩
    · rw [e2 u v hv c] at q ⊢
      obtain ⟨p, p1, p2⟩ := h.1 u v hu hv q
      exact ⟨p, by omega, p2⟩
  · by_cases c : p = k
    · rw [c, e1]
      rcases hw with ⟨w1, w2⟩ | ⟨w1, w2⟩
      · omega
      · omega
    · have a := h.2 p (by omega) hl
      by_cases d : ptl g p = ptl g k ∧ phd g p = phd g k
      · rw [d.1, d.2] at a ⊢
        rw [e1]
        rcases hw with ⟨w1, w2⟩ | ⟨w1, w2⟩
        · omega
        · omega
      · by_cases b : phd g p < 32
        · rw [e2 _ _ b d]; exact a
        · have b2 : ¬ (32 * ptl g p + phd g p = i) ∨ (32 * ptl g p + phd g p = i) := by omega
          rcases b2 with b2 | b2
          · unfold pwq
            rw [hT, ul_ne b2]
            exact a
          · unfold pwq at a e1 ⊢
            rw [← hi] at e1
            rw [b2] at a ⊢
            rw [e1]
            rcases hw with ⟨w1, w2⟩ | ⟨w1, w2⟩
            · unfold pwq at w2
              rw [← hi] at w2
              omega
            · unfold pwq at w1
              rw [← hi] at w1
              omega
theorem pwm_c {g : GVW} {s t : GS} {k : Nat} (h : PWM g s k) (h3 : t.2.1 152 = s.2.1 152) : PWM g t k := by
  have p : pwq t = pwq s := by funext u v; unfold pwq; rw [h3]
  unfold PWM
  rw [p]
  exact h
/-! what a pairing by mates weighs -/
noncomputable def inq (P : Prop) : Int := Classical.epsilon (fun z : Int => (P → z = 1) ∧ (¬ P → z = 0))
theorem inq_ok (P : Prop) : (P → inq P = 1) ∧ (¬ P → inq P = 0) := by
  have h : ∃ z : Int, (P → z = 1) ∧ (¬ P → z = 0) := by
    by_cases c : P
    · exact ⟨1, fun _ => rfl, fun q => absurd c q⟩
    · exact ⟨0, fun q => absurd q c, fun _ => rfl⟩
  exact Classical.epsilon_spec h
theorem sn_swap {a : Nat → Nat → Int} {m : Nat} : ∀ n : Nat, sm (fun p => sm (fun q => a p q) m) n = sm (fun q => sm (fun p => a p q) n) m := by
  intro n
  induction n with
  | zero => exact (sm_0 m (fun _ _ => rfl)).symm
  | succ n ih =>
    rw [sm_s, ih, ← sm_add]
    exact sm_eq m (fun k _ => rfl)
theorem sn_pt {f : Nat → Int} {a n : Nat} (ha : a < n) (h : ∀ k, k < n → k ≠ a → f k = 0) : sm f n = f a := by
  have t := sm_one (f := fun _ => 0) (h := f) (u := a) (d := f a) n ha (fun k hk hn => h k hk hn) (by show f a = 0 + f a; omega)
  rw [sm_0 (f := fun _ => 0) n (fun _ _ => rfl)] at t
  omega
/-- F: first ones that have a mate; m: the mate -/
def MTG (F B : Nat → Prop) (m : Nat → Nat) : Prop := (∀ u, u < 32 → F u → m u < 32 ∧ B (m u) ∧ m (m u) = u) ∧ (∀ v, v < 32 → B v → m v < 32 ∧ F (m v) ∧ m (m v) = v) ∧ ∀ u, F u → ¬ B u
theorem mt_sum {F B : Nat → Prop} {m : Nat → Nat} (h : MTG F B m) (g : Nat → Int) : sm (fun u => inq (F u) * g (m u)) 32 = sm (fun v => inq (B v) * g v) 32 := by
  have a : ∀ u, u < 32 → inq (F u) * g (m u) = sm (fun v => inq (F u ∧ m u = v) * g v) 32 := by
    intro u hu
    by_cases c : F u
    · have b := h.1 u hu c
      rw [sn_pt b.1 (fun k _ hn => by rw [(inq_ok (F u ∧ m u = k)).2 (fun z => hn z.2.symm), Int.zero_mul]), (inq_ok (F u ∧ m u = m u)).1 ⟨c, rfl⟩, (inq_ok (F u)).1 c]
    · rw [(inq_ok (F u)).2 c, Int.zero_mul, sm_0 32 (fun k _ => by rw [(inq_ok (F u ∧ m u = k)).2 (fun z => c z.1), Int.zero_mul])]
  have b : ∀ v, v < 32 → sm (fun u => inq (F u ∧ m u = v) * g v) 32 = inq (B v) * g v := by
    intro v hv
    by_cases c : B v
    · have d := h.2.1 v hv c
      rw [sn_pt d.1 (fun k hk hn => by rw [(inq_ok (F k ∧ m k = v)).2 (fun z => hn (by rw [← z.2]; exact ((h.1 k hk z.1).2.2).symm)), Int.zero_mul]), (inq_ok (F (m v) ∧ m (m v) = v)).1 ⟨d.2.1, d.2.2⟩, (inq_ok (B v)).1 c]
    · rw [(inq_ok (B v)).2 c, Int.zero_mul, sm_0 32 (fun k hk => by rw [(inq_ok (F k ∧ m k = v)).2 (fun z => c (by rw [← z.2]; exact (h.1 k hk z.1).2.1)), Int.zero_mul])]
  rw [sm_eq 32 a, sn_swap, sm_eq 32 b]
/-- the pairing of mates, place by place -/
theorem mt_wit {g : GVW} {F B : Nat → Prop} {m pc : Nat → Nat} (h : MTG F B m) (hp : ∀ u, u < 32 → F u → pc u < 160 ∧ PEL g (pc u) ∧ ptl g (pc u) = u ∧ phd g (pc u) = m u) : ∃ x : Nat → Int, PFE g x ∧ sm x 160 = sm (fun u => inq (F u)) 32 ∧ sm (fun p => pwt g p * x p) 160 = sm (fun u => inq (F u) * pwt g (pc u)) 32 ∧ (∀ p, x p ≠ 0 → ∃ u, u < 32 ∧ F u ∧ pc u = p) ∧ ∀ v, v < 32 → dvN (ptl g) (phd g) x 160 v = inq (B v) - inq (F v) := by
  have tot : ∀ H : Nat → Int, sm (fun p => H p * sm (fun u => inq (F u) * dl (pc u) p) 32) 160 = sm (fun u => inq (F u) * H (pc u)) 32 := by
    intro H
    rw [sm_eq (h := fun p => sm (fun u => inq (F u) * (H p * dl (pc u) p)) 32) 160 (fun p _ => by
      show H p * sm (fun u => inq (F u) * dl (pc u) p) 32 = _
      rw [← sn_mul]
      exact sm_eq 32 (fun u _ => Int.mul_left_comm _ _ _)), sn_swap]
    refine sm_eq 32 (fun u hu => ?_)
    show sm (fun p => inq (F u) * (H p * dl (pc u) p)) 160 = inq (F u) * H (pc u)
    by_cases c : F u
    · rw [sn_mul, sn_dl (hp u hu c).1]
    · rw [(inq_ok (F u)).2 c, Int.zero_mul]
      exact sm_0 160 (fun k _ => Int.zero_mul _)
  have zo : ∀ p, sm (fun u => inq (F u) * dl (pc u) p) 32 = 0 ∨ (sm (fun u => inq (F u) * dl (pc u) p) 32 = 1 ∧ PEL g p) := by
    intro p
    by_cases c : ∃ u, u < 32 ∧ F u ∧ pc u = p
    · obtain ⟨u, u1, u2, u3⟩ := c
      right
      have a := hp u u1 u2
      refine ⟨?_, by rw [← u3]; exact a.2.1⟩
      rw [sn_pt u1 (fun k hk hn => by
        by_cases d : F k
        · have b := hp k hk d
          rw [dl_n (fun z => hn (by rw [← b.2.2.1, z, ← u3]; exact a.2.2.1)), Int.mul_zero]
        · rw [(inq_ok (F k)).2 d, Int.zero_mul]), (inq_ok (F u)).1 u2, u3, dl_e]
      decide
    · left
      refine sm_0 32 (fun k hk => ?_)
      by_cases d : F k
      · rw [dl_n (fun z => c ⟨k, hk, d, z⟩), Int.mul_zero]
      · rw [(inq_ok (F k)).2 d, Int.zero_mul]
  have dve : ∀ v, v < 32 → dvN (ptl g) (phd g) (fun p => sm (fun u => inq (F u) * dl (pc u) p) 32) 160 v = inq (B v) - inq (F v) := by
    intro v hv
    have e : dvN (ptl g) (phd g) (fun p => sm (fun u => inq (F u) * dl (pc u) p) 32) 160 v = inq (B v) - inq (F v) := by
      unfold dvN
      rw [sm_eq (h := fun p => (dl (phd g p) v - dl (ptl g p) v) * sm (fun u => inq (F u) * dl (pc u) p) 32) 160 (fun p _ => Int.mul_comm _ _), tot (fun p => dl (phd g p) v - dl (ptl g p) v)]
      rw [sm_eq (h := fun u => inq (F u) * dl (m u) v - inq (F u) * dl u v) 32 (fun u hu => by
        show inq (F u) * (dl (phd g (pc u)) v - dl (ptl g (pc u)) v) = inq (F u) * dl (m u) v - inq (F u) * dl u v
        by_cases c : F u
        · rw [(hp u hu c).2.2.1, (hp u hu c).2.2.2, Int.mul_sub]
        · rw [(inq_ok (F u)).2 c, Int.zero_mul, Int.zero_mul, Int.zero_mul]; decide), sn_sub]
      have a := mt_sum h (fun w => dl w v)
      have b := sn_pt (f := fun w => inq (B w) * dl w v) hv (fun k _ hn => by show inq (B k) * dl k v = 0; rw [dl_n hn, Int.mul_zero])
      have c := sn_pt (f := fun w => inq (F w) * dl w v) hv (fun k _ hn => by show inq (F k) * dl k v = 0; rw [dl_n hn, Int.mul_zero])
      rw [dl_e, Int.mul_one] at b c
      rw [a, b, c]
    exact e
  refine ⟨fun p => sm (fun u => inq (F u) * dl (pc u) p) 32, ⟨fun p _ => zo p, fun v hv => ?_⟩, ?_, tot (pwt g), fun p hp2 => ?_, dve⟩
  · rw [dve v hv]
    have f1 := inq_ok (F v)
    have f2 := inq_ok (B v)
    by_cases c : F v
    · rw [f1.1 c, f2.2 (h.2.2 v c)]; exact ⟨by decide, by decide⟩
    · rw [f1.2 c]
      by_cases d : B v
      · rw [f2.1 d]; exact ⟨by decide, by decide⟩
      · rw [f2.2 d]; exact ⟨by decide, by decide⟩
  · have a := tot (fun _ => 1)
    rw [sm_eq (h := fun p => (1 : Int) * sm (fun u => inq (F u) * dl (pc u) p) 32) 160 (fun p _ => (Int.one_mul _).symm), a]
    exact sm_eq 32 (fun u _ => Int.mul_one _)
  · by_cases c : ∃ u, u < 32 ∧ F u ∧ pc u = p
    · exact c
    · exfalso
      apply hp2
      refine sm_0 32 (fun k hk => ?_)
      by_cases d : F k
      · rw [dl_n (fun z => c ⟨k, hk, d, z⟩), Int.mul_zero]
      · rw [(inq_ok (F k)).2 d, Int.zero_mul]
end
section
/-! THE REFERENCE'S ANSWER -/
/-- from places to pipes, for all at once -/
theorem lyo_g {g : GVW} {N : NT} (h : LYO g N 160) : ∃ pl : Nat → Nat, (∀ e, e < N.1 → pl e < 160 ∧ PEL g (pl e) ∧ N.2.1 e = ptl g (pl e) ∧ N.2.2.1 e = phd g (pl e) ∧ N.2.2.2.1 e = pwt g (pl e) ∧ N.2.2.2.2 e = 1) ∧ ∀ x : Nat → Int, PFE g x → ZO N (fun e => x (pl e)) ∧ (∀ v, dvN N.2.1 N.2.2.1 (fun e => x (pl e)) N.1 v = dvN (ptl g) (phd g) x 160 v) ∧ sm (fun e => x (pl e)) N.1 = sm x 160 ∧ sm (fun e => N.2.2.2.1 e * x (pl e)) N.1 = sm (fun p => pwt g p * x p) 160 := by
  obtain ⟨pl, h1, h2, h3⟩ := h
  refine ⟨pl, h1, fun x hx => ?_⟩
  have z : ∀ p, p < 160 → ¬ PEL g p → x p = 0 := by
    intro p hp hn
    rcases hx.1 p hp with k | k
    · exact k
    · exact absurd k.2 hn
  refine ⟨fun e he => ?_, fun v => ?_, h3 x z, ?_⟩
  · rcases hx.1 _ (h1 e he).1 with k | k
    · exact Or.inl k
    · exact Or.inr k.1
  · have a := h3 (fun p => x p * (dl (phd g p) v - dl (ptl g p) v)) (fun p hp hn => by show x p * _ = 0; rw [z p hp hn, Int.zero_mul])
    have b : dvN N.2.1 N.2.2.1 (fun e => x (pl e)) N.1 v = sm (fun e => x (pl e) * (dl (phd g (pl e)) v - dl (ptl g (pl e)) v)) N.1 := sm_eq _ (fun e he => by
      show x (pl e) * (dl (N.2.2.1 e) v - dl (N.2.1 e) v) = _
      rw [(h1 e he).2.2.1, (h1 e he).2.2.2.1])
    rw [b]
    exact a
  · have a := h3 (fun p => pwt g p * x p) (fun p hp hn => by show _ * x p = 0; rw [z p hp hn, Int.mul_zero])
    rw [← a]
    exact sm_eq _ (fun e he => by show N.2.2.2.1 e * x (pl e) = pwt g (pl e) * x (pl e); rw [(h1 e he).2.2.2.2.1])
theorem lyo_x (g : GVW) : ∀ q : Nat, ∃ N : NT, LYO g N q := by
  intro q
  induction q with
  | zero => exact ⟨(0, fun _ => 0, fun _ => 0, fun _ => 0, fun _ => 0), lyo_0 rfl⟩
  | succ q ih =>
    obtain ⟨N, hN⟩ := ih
    by_cases c : PEL g q
    · refine ⟨(N.1 + 1, fun e => if e = N.1 then ptl g q else N.2.1 e, fun e => if e = N.1 then phd g q else N.2.2.1 e, fun e => if e = N.1 then pwt g q else N.2.2.2.1 e, fun e => if e = N.1 then 1 else N.2.2.2.2 e), lyo_y hN c rfl (if_pos rfl) (if_pos rfl) (if_pos rfl) (if_pos rfl) (fun e he => ⟨if_neg he, if_neg he, if_neg he, if_neg he⟩)⟩
    · exact ⟨N, lyo_n hN c⟩
theorem prv_i {g : GVW} {n : Nat} {x q : Nat → Int} {M : Int} (hg : GOK g n) (hx : PFE g x) (hM : 1000000000000 ≤ M) (h1 : ∀ p, p < 160 → PEL g p → x p = 0 → q (phd g p) ≤ q (ptl g p) + pwt g p) (h2 : ∀ p, p < 160 → x p = 1 → q (ptl g p) ≤ q (phd g p) - pwt g p) (hs : SGN (LWg g) n (fun v => dvN (ptl g) (phd g) x 160 v) q M) : PRV g (sm x 160) (sm (fun p => pwt g p * x p) 160) := by
  obtain ⟨N, hN⟩ := lyo_x g 160
  obtain ⟨kN, kL⟩ := lyo_k hg.1 hg.2.1 hg.2.2.1 hg.2.2.2 hN
  have hP := lyo_c hN
  obtain ⟨pl, p1, p2⟩ := lyo_g hN
  have n32 := hg.2.2.1
  refine ⟨⟨x, hx, rfl, rfl⟩, fun y hy => ?_⟩
  obtain ⟨a1, a2, a3, a4⟩ := p2 x hx
  obtain ⟨b1, b2, b3, b4⟩ := p2 y hy
  have hf : FE (RSA N (fun e => x (pl e)) 1) q := by
    intro u v w hr
    obtain ⟨e, he, hr⟩ := hr
    obtain ⟨c1, c2, c3, c4, c5, c6⟩ := p1 e he
    have ze := a1 e he
    dsimp only at ze hr
    rcases hr with ⟨r1, r2, r3, r4⟩ | ⟨r1, r2, r3, r4⟩
    · rw [c6] at r4
      rw [r1, r2, r3, c3, c4, c5]
      exact h1 _ c1 c2 (by rcases ze with z | z <;> omega)
    · have z := h2 _ c1 (by rcases ze with z | z <;> omega)
      rw [r1, r2, r3, c3, c4, c5]
      omega
  have mc := mc_le kN kL (fun e he => (p1 e he).2.2.2.2.2) a1 b1 (fun v hv => by rw [a2 v]; exact hx.2 v (by omega)) (fun v hv => by rw [b2 v]; exact hy.2 v (by omega)) hf (by
    intro v hv
    have z := hs v hv
    dsimp only at z
    rw [a2 v]
    exact z)
  have z1 := zo_sum kN a1 hP
  have z2 := zo_sum kN b1 hP
  rw [a3, a4, b3, b4] at mc
  rw [a4] at z1
  rw [b4] at z2
  have key : sm y 160 ≤ sm x 160 := by
    rcases Int.lt_or_le (sm x 160) (sm y 160) with c | c
    · exfalso
      have a := Int.mul_le_mul_of_nonneg_left (show 1 ≤ sm y 160 - sm x 160 by omega) (show 0 ≤ M by omega)
      rw [Int.mul_one] at a
      omega
    · exact c
  refine ⟨key, fun e => ?_⟩
  rw [e, Int.sub_self, Int.mul_zero] at mc
  omega
/-! mates -/
def FMU (S : GS) (u : Nat) : Prop := (u : Int) < nnq S ∧ FSQ S u ∧ 0 ≤ (S.1 151 u).toInt
def BMU (S : GS) (v : Nat) : Prop := (v : Int) < nnq S ∧ ¬ FSQ S v ∧ 0 ≤ (S.1 151 v).toInt
theorem fmu_m {S : GS} (hP : PP S) : MTG (FMU S) (BMU S) (fun u => (S.1 151 u).toNatClampNeg) := by
  refine ⟨fun u hu hF => ?_, fun v hv hB => ?_, fun u hF hB => hB.2.1 hF.2.1⟩
  · obtain ⟨a1, a2, a3, a4⟩ := hP.2.1.1 u hu hF.1 hF.2.1 hF.2.2
    obtain ⟨b1, b2, b3, b4, b5⟩ := hP.1 u _ hu a2 a3
    refine ⟨a2, ⟨b2, b4, by rw [a4]; omega⟩, ?_⟩
    show (S.1 151 (S.1 151 u).toNatClampNeg).toInt.toNat = u
    rw [a4]
    omega
  · obtain ⟨a1, a2, a3, a4⟩ := hP.2.1.2 v hv hB.1 hB.2.1 (by omega) hB.2.2
    refine ⟨a1, ⟨a2, a3, by rw [a4]; omega⟩, ?_⟩
    show (S.1 151 (S.1 151 v).toNatClampNeg).toInt.toNat = v
    rw [a4]
    omega
noncomputable def pcz (g : GVW) (S : GS) (u : Nat) : Nat := Classical.epsilon (fun p => p < 160 ∧ PEL g p ∧ ptl g p = u ∧ phd g p = (S.1 151 u).toNatClampNeg ∧ pwt g p = pwq S u (S.1 151 u).toNatClampNeg)
theorem ref_prv {g : GVW} {S : GS} {n : Nat} (hg : GOK g n) (hn : nnq S = (n : Int)) (hL : ∀ v, LWg g v ↔ FSQ S v) (hP : PP S) (hE : PEE S) (hW : PWM g S 160) : PRV g (sm (fun u => inq (FMU S u)) 32) (sm (fun u => inq (FMU S u) * pwq S u (S.1 151 u).toNatClampNeg) 32) := by
  have hM := fmu_m hP
  have n32 := hg.2.2.1
  have pc : ∀ u, u < 32 → FMU S u → pcz g S u < 160 ∧ PEL g (pcz g S u) ∧ ptl g (pcz g S u) = u ∧ phd g (pcz g S u) = (S.1 151 u).toNatClampNeg ∧ pwt g (pcz g S u) = pwq S u (S.1 151 u).toNatClampNeg := by
    intro u hu hF
    obtain ⟨a1, a2, a3, a4⟩ := hP.2.1.1 u hu hF.1 hF.2.1 hF.2.2
    exact Classical.epsilon_spec (hW.1 u _ hu a2 a3)
  obtain ⟨x, x1, x2, x3, x4, x5⟩ := mt_wit (g := g) hM (fun u hu hF => ⟨(pc u hu hF).1, (pc u hu hF).2.1, (pc u hu hF).2.2.1, (pc u hu hF).2.2.2.1⟩)
  obtain ⟨q, M, m1, hf, hs⟩ := hE
  have e3 : sm (fun u => inq (FMU S u) * pwt g (pcz g S u)) 32 = sm (fun u => inq (FMU S u) * pwq S u (S.1 151 u).toNatClampNeg) 32 := sm_eq 32 (fun u hu => by
    show inq (FMU S u) * pwt g (pcz g S u) = inq (FMU S u) * pwq S u (S.1 151 u).toNatClampNeg
    by_cases c : FMU S u
    · rw [(pc u hu c).2.2.2.2]
    · rw [(inq_ok (FMU S u)).2 c, Int.zero_mul, Int.zero_mul])
  have b32 : ∀ p, p < 160 → PEL g p → ptl g p < 32 ∧ phd g p < 32 := by
    intro p hp hl
    have a := pel_n hg.1 hp hl
    have b := hg.2.1
    exact ⟨by omega, by omega⟩
  have r := prv_i (q := q) hg x1 m1 (fun p hp hl _ => ?_) (fun p hp h => ?_) (fun v hv => ?_)
  · rw [x2, x3, e3] at r
    exact r
  · have b := b32 p hp hl
    have w := hW.2 p hp hl
    by_cases c : pwq S (ptl g p) (phd g p) < 9000000000000000
    · have f := hf (ptl g p) (phd g p) (pwq S (ptl g p) (phd g p)) ⟨b.1, b.2, Or.inl ⟨c, rfl⟩⟩
      omega
    · have := hg.2.2.2 p hp
      omega
  · obtain ⟨u, u1, u2, u3⟩ := x4 p (by rw [h]; decide)
    obtain ⟨c1, c2, c3, c4, c5⟩ := pc u u1 u2
    rw [u3] at c2 c3 c4 c5
    obtain ⟨a1, a2, a3, a4⟩ := hP.2.1.1 u u1 u2.1 u2.2.1 u2.2.2
    have f := hf (S.1 151 u).toNatClampNeg u (-pwq S u (S.1 151 u).toNatClampNeg) ⟨a2, u1, Or.inr ⟨u2.1, u2.2.1, by have e : ((S.1 151 u).toNatClampNeg : Int) = (S.1 151 u).toInt := clx u2.2.2; omega, a3, rfl⟩⟩
    rw [c3, c4, c5]
    omega
  · have v32 : v < 32 := by omega
    have vn : (v : Int) < nnq S := by omega
    have e := x5 v v32
    dsimp only
    rw [e]
    have i1 := inq_ok (FMU S v)
    have i2 := inq_ok (BMU S v)
    refine ⟨fun l => ?_, fun l => ?_⟩
    · have l2 := (hL v).mp l
      have nb : ¬ BMU S v := fun z => z.2.1 l2
      have s1 := hs.1 v v32 vn l2
      rw [i2.2 nb]
      by_cases c : FMU S v
      · rw [i1.1 c]
        exact ⟨fun z => by omega, fun _ => s1.2 c.2.2⟩
      · rw [i1.2 c]
        refine ⟨fun _ => s1.1 ?_, fun z => by omega⟩
        rcases Int.lt_or_le (S.1 151 v).toInt 0 with d | d
        · exact d
        · exact absurd ⟨vn, l2, d⟩ c
    · have l2 : ¬ FSQ S v := fun z => l ((hL v).mpr z)
      have nf : ¬ FMU S v := fun z => l2 z.2.1
      have s1 := hs.2 v v32 vn l2
      rw [i1.2 nf]
      by_cases c : BMU S v
      · rw [i2.1 c]
        exact ⟨fun z => by omega, fun _ => s1.2 c.2.2⟩
      · rw [i2.2 c]
        refine ⟨fun _ => s1.1 ?_, fun z => by omega⟩
        rcases Int.lt_or_le (S.1 151 v).toInt 0 with d | d
        · exact d
        · exact absurd ⟨vn, l2, d⟩ c
/-! the graph that is shown, place by place -/
theorem gz_b {s : GS} (hI : Inv s) : bs s = 160 * (s.2.2.1 109 18).toNatClampNeg := by
  have k2 : (s.2.2.1 109 19).toInt = 160 * (s.2.2.1 109 18).toInt := hI.2.2.2.2.2.2.2.2.2.1
  have i18 := inv_F hI (z := s.2.2.1 109 18) 0 1 rfl rfl
  show (s.2.2.1 109 19).toInt.toNat = 160 * (s.2.2.1 109 18).toInt.toNat
  have := i18.1
  omega
theorem gz_e {s : GS} {p : Nat} {x f t : Int32} (hI : Inv s) (e : x = s.1 112 (bs s + p)) (h : x.toInt ≠ 0) (hf : f = s.1 113 (bs s + p)) (ht : t = s.1 114 (bs s + p)) : f = (gvZ s).2.1 p ∧ t = (gvZ s).2.2.1 p := by
  rw [gz_b hI] at e hf ht
  exact ⟨tg_is e h hf, ht⟩
theorem gz_w {s : GS} {p : Nat} {w : Int32} (hI : Inv s) (hw : w = s.1 115 (bs s + p)) : w = (gvZ s).2.2.2.1 p := by
  rw [gz_b hI] at hw
  exact hw
theorem pz_0 {s : GS} {p : Nat} {x : Int32} (hI : Inv s) (e : x = s.1 112 (bs s + p)) (h : x.toInt = 0) : ¬ PEL (gvZ s) p := by
  rw [gz_b hI] at e
  exact fun z => z.1 (tg_no e h)
theorem pz_2 {s : GS} {p : Nat} {f t : Int32} (E : f = (gvZ s).2.1 p ∧ t = (gvZ s).2.2.1 p) (c : FSQ s f.toNatClampNeg ↔ FSQ s t.toNatClampNeg) : ¬ PEL (gvZ s) p := by
  intro h
  apply h.2.2
  rw [← E.1, ← E.2]
  exact c
theorem pz_3 {s : GS} {p : Nat} {f t : Int32} (E : f = (gvZ s).2.1 p ∧ t = (gvZ s).2.2.1 p) (h0 : f.toInt ≠ -1) (h1 : f.toInt ≠ t.toInt) (c1 : FSQ s f.toNatClampNeg) (c2 : ¬ FSQ s t.toNatClampNeg) : PEL (gvZ s) p ∧ ptl (gvZ s) p = f.toNatClampNeg ∧ phd (gvZ s) p = t.toNatClampNeg := by
  have k1 : ((gvZ s).1 f.toNatClampNeg).toInt < 13 := c1
  unfold PEL ptl phd
  rw [← E.1, ← E.2, if_pos k1, if_pos k1]
  exact ⟨⟨h0, h1, fun q => c2 (q.mp c1)⟩, rfl, rfl⟩
theorem pz_4 {s : GS} {p : Nat} {f t : Int32} (E : f = (gvZ s).2.1 p ∧ t = (gvZ s).2.2.1 p) (h0 : f.toInt ≠ -1) (h1 : f.toInt ≠ t.toInt) (c1 : ¬ FSQ s f.toNatClampNeg) (c2 : FSQ s t.toNatClampNeg) : PEL (gvZ s) p ∧ ptl (gvZ s) p = t.toNatClampNeg ∧ phd (gvZ s) p = f.toNatClampNeg := by
  have k1 : ¬ ((gvZ s).1 f.toNatClampNeg).toInt < 13 := c1
  unfold PEL ptl phd
  rw [← E.1, ← E.2, if_neg k1, if_neg k1]
  exact ⟨⟨h0, h1, fun q => c1 (q.mpr c2)⟩, rfl, rfl⟩
theorem pwz_y {s sc T : GS} {p i : Nat} {u v w w2 : Int32} {a b c : Int64} (h : PWM (gvZ s) sc p) (E : PEL (gvZ s) p ∧ ptl (gvZ s) p = u.toNatClampNeg ∧ phd (gvZ s) p = v.toNatClampNeg) (hu : In u 0 31) (hv : In v 0 31) (hi : i = 32 * u.toNatClampNeg + v.toNatClampNeg) (ew : w = (gvZ s).2.2.2.1 p) (ea : a = w.toInt64) (eb : b = sc.2.1 152 i) (hT : T.2.1 152 = vp_updL (sc.2.1 152) i c) (hc : (w2 = (gvZ s).2.2.2.1 p ∧ c = w2.toInt64 ∧ a.toInt < b.toInt) ∨ (c = sc.2.1 152 i ∧ b.toInt ≤ a.toInt)) : PWM (gvZ s) T (p + 1) := by
  obtain ⟨E1, E2, E3⟩ := E
  have u32 := nat32 hu
  have v32 := nat32 hv
  have pw : pwq sc (ptl (gvZ s) p) (phd (gvZ s) p) = b.toInt := by unfold pwq; rw [E2, E3, ← hi, eb]
  have wt : pwt (gvZ s) p = a.toInt := by rw [u_i2l ea, ew]; rfl
  refine pwm_y h E1 (by rw [E2]; exact u32.1) (by rw [E3]; exact v32.1) (by rw [E2, E3]; exact hi) hT ?_
  rw [pw, wt]
  rcases hc with ⟨c1, c2, c3⟩ | ⟨c1, c2⟩
  · exact Or.inl ⟨by rw [u_i2l c2, c1, u_i2l ea, ew], c3⟩
  · exact Or.inr ⟨by rw [c1, eb], c2⟩
theorem sp0_1 {s t T : GS} {v : Nat} {w : Int64} (h : SP0 s t) (hT : T.2.1 149 = vp_updL (t.2.1 149) v w) (hv : ¬ spq s v) : SP0 s T := by
  intro k hk hs
  rw [hT, ul_ne (fun c => hv (by rw [← c]; exact hs))]
  exact h k hk hs
theorem sp0_2 {s : GS} {v x : Int32} (hP : PP s) (hv : In v 0 31) (hn : (v.toNatClampNeg : Int) < nnq s) (nf : ¬ FSQ s v.toNatClampNeg) (ex : x = s.1 151 v.toNatClampNeg) (hx : 0 ≤ x.toInt) : ¬ spq s x.toNatClampNeg := by
  intro h
  have v32 := nat32 hv
  rw [ex] at hx h
  obtain ⟨a1, a2, a3, a4⟩ := hP.2.1.2 _ v32.1 hn nf (by omega) hx
  have := h.2
  omega
theorem nbx_w {s t : GS} {k : Nat} {e : Int} (h : NBX s t k e) (hk : nnq s ≤ (k : Int)) : NBX s t 32 e := fun v _ hn => h v (by omega) hn
/-- the sums so far -/
def MSM (S : GS) (a b : Int) (k : Nat) : Prop := a = sm (fun u => inq (FMU S u)) k ∧ b = sm (fun u => inq (FMU S u) * pwq S u (S.1 151 u).toNatClampNeg) k
theorem msm_0 {S : GS} : MSM S 0 0 0 := ⟨rfl, rfl⟩
theorem msm_n {S : GS} {a b : Int} {k : Nat} (h : MSM S a b k) (hn : ¬ FMU S k) : MSM S a b (k + 1) := by
  refine ⟨?_, ?_⟩
  · rw [sm_s, ← h.1, (inq_ok (FMU S k)).2 hn]; omega
  · rw [sm_s, ← h.2, (inq_ok (FMU S k)).2 hn, Int.zero_mul]; omega
theorem msm_b {S : GS} {a b : Int} {k : Nat} (hP : PP S) (h : MSM S a b k) (hk : k ≤ 32) : (0 ≤ a ∧ a ≤ 32) ∧ -32000000 ≤ b ∧ b ≤ 32000000 := by
  have i : ∀ u, inq (FMU S u) = 0 ∨ inq (FMU S u) = 1 := fun u => by
    by_cases c : FMU S u
    · exact Or.inr ((inq_ok _).1 c)
    · exact Or.inl ((inq_ok _).2 c)
  have a1 := sn_mono (f := fun _ => 0) (h := fun u => inq (FMU S u)) k (fun u _ => by show 0 ≤ inq (FMU S u); rcases i u with z | z <;> omega)
  have a2 := sn_ab (f := fun u => inq (FMU S u)) (B := 1) k (fun u _ => by show -1 ≤ inq (FMU S u) ∧ inq (FMU S u) ≤ 1; rcases i u with z | z <;> omega)
  have a3 := sn_ab (f := fun u => inq (FMU S u) * pwq S u (S.1 151 u).toNatClampNeg) (B := 1000000) k (fun u hu => by
    show -1000000 ≤ inq (FMU S u) * pwq S u (S.1 151 u).toNatClampNeg ∧ inq (FMU S u) * pwq S u (S.1 151 u).toNatClampNeg ≤ 1000000
    by_cases c : FMU S u
    · have u32 : u < 32 := by omega
      obtain ⟨b1, b2, b3, b4⟩ := hP.2.1.1 u u32 c.1 c.2.1 c.2.2
      have d := hP.1 u _ u32 b2 b3
      rw [(inq_ok _).1 c, Int.one_mul]
      exact ⟨d.2.2.2.2.1, d.2.2.2.2.2⟩
    · rw [(inq_ok _).2 c, Int.zero_mul]; exact ⟨by decide, by decide⟩)
  rw [sm_0 (f := fun _ => 0) k (fun _ _ => rfl)] at a1
  have e1 := h.1
  have e2 := h.2
  exact ⟨⟨by omega, by omega⟩, by omega, by omega⟩
theorem msm_y {S : GS} {k : Nat} {x y z w q : Int64} {m i : Int32} (hP : PP S) (h : MSM S x.toInt y.toInt k) (hk : k < 32) (hF : FMU S k) (em : m = S.1 151 k) (ei : i.toNatClampNeg = 32 * k + m.toNatClampNeg) (ez : z = x + Int64.ofInt 1) (eq : q = S.2.1 152 i.toNatClampNeg) (ew : w = y + q) : MSM S z.toInt w.toInt (k + 1) := by
  have b := msm_b hP h (by omega)
  obtain ⟨b1, b2, b3, b4⟩ := hP.2.1.1 k hk hF.1 hF.2.1 hF.2.2
  have d := hP.1 k _ hk b2 b3
  have o1 : (Int64.ofInt 1).toInt = 1 := rfl
  have qv : q.toInt = pwq S k (S.1 151 k).toNatClampNeg := by rw [eq, ei, em]; rfl
  have z1 := ladd_t ez (by rw [o1]; omega) (by rw [o1]; omega)
  have w1 := ladd_t ew (by rw [qv]; omega) (by rw [qv]; omega)
  refine ⟨?_, ?_⟩
  · rw [sm_s, ← h.1, (inq_ok (FMU S k)).1 hF, z1, o1]
  · rw [sm_s, ← h.2, (inq_ok (FMU S k)).1 hF, w1, qv, Int.one_mul]
theorem msm_e {S : GS} {a b : Int} {k : Nat} (h : MSM S a b k) (hk : nnq S ≤ (k : Int)) (h32 : k ≤ 32) : MSM S a b 32 := by
  have key : ∀ j : Nat, MSM S a b (k + j) := by
    intro j
    induction j with
    | zero => exact h
    | succ j ih => exact msm_n (k := k + j) ih (fun z => by have := z.1; omega)
  have r := key (32 - k)
  rw [show k + (32 - k) = 32 by omega] at r
  exact r
/-- what the reference says -/
def PAZ (s t : GS) (x : Int32) (z : Int64) : Prop := ((t.2.2.1 109 0).toInt = 1 ∧ ¬ In x 0 1) ∨ ((t.2.2.1 109 0).toInt = 0 ∧ In x 0 1 ∧ PRA (gvZ s) x.toInt z.toInt)
theorem gok_Z {s : GS} (hI : Inv s) : GOK (gvZ s) (s.2.2.1 109 20).toNatClampNeg := by
  have i := inv_F hI (z := s.2.2.1 109 20) 0 32 rfl rfl
  unfold In at i
  have e : (s.2.2.1 109 20).toNatClampNeg = (s.2.2.1 109 20).toInt.toNat := rfl
  refine ⟨ndq_z hI, by rw [gvz_n hI]; omega, by omega, fun p hp => ?_⟩
  have g1 := inv_F hI (z := s.2.2.1 109 18) 0 1 rfl rfl
  have ge : (s.2.2.1 109 18).toNatClampNeg = (s.2.2.1 109 18).toInt.toNat := rfl
  unfold In at g1
  have w := hI.1.1 115 (160 * (s.2.2.1 109 18).toNatClampNeg + p) (Nat.lt_of_lt_of_le (show _ < 480 by omega) (Nat.le_of_ble_eq_true rfl))
  have e2 : rI 115 = (-1000000, 1000000) := rfl
  rw [e2] at w
  exact w
theorem ref_e {s S : GS} {a b : Int64} {k : Nat} (hI : Inv s) (h1 : S.1 111 = s.1 111) (h4 : S.2.2.1 109 18 = s.2.2.1 109 18) (h5 : S.2.2.1 109 20 = s.2.2.1 109 20) (hP : PP S) (hE : PEE S) (hW : PWM (gvZ s) S 160) (h : MSM S a.toInt b.toInt k) (hk : nnq S ≤ (k : Int)) (h32 : k ≤ 32) : PRV (gvZ s) a.toInt b.toInt := by
  have m := msm_e h hk h32
  have i := inv_F hI (z := s.2.2.1 109 20) 0 32 rfl rfl
  unfold In at i
  have r := ref_prv (gok_Z hI) (S := S) (by unfold nnq; rw [h5]; have e : (s.2.2.1 109 20).toNatClampNeg = (s.2.2.1 109 20).toInt.toNat := rfl; omega) (fun v => by
    show ((gvZ s).1 v).toInt < 13 ↔ FSQ S v
    unfold FSQ
    rw [h1, h4]
    exact Iff.rfl) hP hE hW
  rw [m.1, m.2]
  exact r
end
