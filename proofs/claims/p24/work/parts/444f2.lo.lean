/-! WHAT A TEXT OF COMMANDS DOES TO A GRAPH -/
section CG
variable {T U : Nat → Int32} {n : Nat}
theorem tkS_cg {a p : Nat} (hT : ∀ i, i < n → T i = U i) (h : tkS T n a p) : tkS U n a p := by
  obtain ⟨h1, h2, h3, h4⟩ := h
  exact ⟨h1, h2, fun i hi hp => by rw [← hT i (by omega)]; exact h3 i hi hp, fun hp => by rw [← hT p hp]; exact h4 hp⟩
theorem tkG_cg {a p : Nat} (hT : ∀ i, i < n → T i = U i) (h : tkG T n a p) : tkG U n a p := by
  obtain ⟨h1, h2, h3, h4⟩ := h
  exact ⟨h1, h2, fun i hi hp => by rw [← hT i (by omega)]; exact h3 i hi hp, fun hp => by rw [← hT p hp]; exact h4 hp⟩
theorem tkN_cg {a : Nat} (hT : ∀ i, i < n → T i = U i) : ∀ k, a + k ≤ n → tkN U a k = tkN T a k
  | 0, _ => rfl
  | k + 1, h => by
    unfold tkN
    rw [tkN_cg hT k (by omega), hT (a + k) (by omega)]
theorem tkQ_cg {p q : Nat} (hT : ∀ i, i < n → T i = U i) (h : tkQ T n p q) : tkQ U n p q := by
  rcases h with ⟨h1, h2, h3⟩ | ⟨h1, h2, h3, h4⟩
  · exact Or.inl ⟨h1, h2, by rw [← hT p h2]; exact h3⟩
  · exact Or.inr ⟨h1, by rw [← hT p (by omega)]; exact h2, h3, by rw [← hT (p + 1) h3]; exact h4⟩
theorem tkn_cg {a p e : Nat} {k v : Int} (hT : ∀ i, i < n → T i = U i) (h : TKN T n a p e k v) : TKN U n a p e k v := by
  obtain ⟨hs, h⟩ := h
  refine ⟨tkS_cg hT hs, ?_⟩
  rcases h with h | ⟨h1, h2, h3, h4, h5⟩ | ⟨q, h1, h2, h3⟩ | ⟨h1, h2, h3, h4, h5⟩ | ⟨h1, h2, h3, h4, h5, h6⟩
  · exact Or.inl h
  · exact Or.inr (Or.inl ⟨h1, by rw [← hT p h1]; exact h2, h3, h4, by rw [← hT p h1]; exact h5⟩)
  · refine Or.inr (Or.inr (Or.inl ⟨q, tkQ_cg hT h1, tkG_cg hT h2, ?_⟩))
    rcases h3 with ⟨a1, a2, a3⟩ | h3
    · refine Or.inl ⟨a1, a2, ?_⟩
      obtain ⟨g1, g2, -, -⟩ := h2
      rw [tkN_cg hT (e - q) (by omega)]
      exact a3
    · exact Or.inr h3
  · exact Or.inr (Or.inr (Or.inr (Or.inl ⟨h1, by rw [← hT p h1]; exact h2, h3, h4, h5⟩)))
  · exact Or.inr (Or.inr (Or.inr (Or.inr ⟨h1, by rw [← hT p h1]; exact h2, by rw [← hT p h1]; exact h3, fun q hq => h4 q (tkQ_cg (fun i hi => (hT i hi).symm) hq), h5, h6⟩)))
theorem tsq_cg {a : Nat} (hT : ∀ i, i < n → T i = U i) : ∀ (i : Nat) {p e : Nat} {k v : Int}, TSQ T n a i p e k v → TSQ U n a i p e k v
  | 0, _, _, _, _, h => tkn_cg hT h
  | i + 1, _, _, _, _, ⟨p0, e0, k0, v0, h1, h2⟩ => ⟨p0, e0, k0, v0, tsq_cg hT i h1, tkn_cg hT h2⟩
theorem cmp_cg {a p e : Nat} {c : Int} {V : Nat → Int} (hT : ∀ i, i < n → T i = U i) (h : CMP T n a p c V e) : CMP U n a p c V e := by
  obtain ⟨h1, ⟨e0, h2⟩, h3, q, v, h4⟩ := h
  exact ⟨h1, ⟨e0, tsq_cg hT 0 h2⟩, fun i hi => by
    obtain ⟨q, f, h⟩ := h3 i hi
    exact ⟨q, f, tsq_cg hT _ h⟩, q, v, tsq_cg hT _ h4⟩
theorem cmx_cg {a p : Nat} {f : Int} (hT : ∀ i, i < n → T i = U i) (h : CMX T n a f p) : CMX U n a f p := by
  rcases h with ⟨e1, k1, w1, h1, h2⟩ | ⟨c1, p1, f1, h1, h2, i1, h3, h4, e1, k1, w1, h5, h6⟩
  · exact Or.inl ⟨e1, k1, w1, tsq_cg hT 0 h1, h2⟩
  · exact Or.inr ⟨c1, p1, f1, h1, tsq_cg hT 0 h2, i1, h3, fun j hj => by
      obtain ⟨q, g, w, h⟩ := h4 j hj
      exact ⟨q, g, w, tsq_cg hT _ h⟩, e1, k1, w1, tsq_cg hT _ h5, h6⟩
theorem cme_cg {a : Nat} (hT : ∀ i, i < n → T i = U i) (h : CME T n a) : CME U n a := by
  obtain ⟨p, e, v, h⟩ := h
  exact ⟨p, e, v, tsq_cg hT 0 h⟩
end CG
/-- numbers of at most seven digits -/
theorem tkN_b {T : Nat → Int32} {a : Nat} : ∀ k, (∀ i, a ≤ i → i < a + k → tkD (T i)) → 0 ≤ tkN T a k ∧ tkN T a k < (10 : Int) ^ k
  | 0, _ => ⟨Int.le_refl 0, by show (0 : Int) < 10 ^ 0; decide⟩
  | k + 1, h => by
    have ih := tkN_b k (fun i h1 h2 => h i h1 (by omega))
    have hd := h (a + k) (by omega) (by omega)
    unfold tkD at hd
    show 0 ≤ 10 * tkN T a k + ((T (a + k)).toInt - 48) ∧ 10 * tkN T a k + ((T (a + k)).toInt - 48) < (10 : Int) ^ (k + 1)
    rw [Int.pow_succ]
    omega
theorem tkN_7 {T : Nat → Int32} {a k : Nat} (hk : k ≤ 7) (h : ∀ i, a ≤ i → i < a + k → tkD (T i)) : 0 ≤ tkN T a k ∧ tkN T a k ≤ 9999999 := by
  have b := tkN_b k h
  have p : (10 : Int) ^ k ≤ 10000000 := (by decide : ∀ k, k ≤ 7 → (10 : Int) ^ k ≤ 10000000) k hk
  omega
theorem lx_st {tn z54 z64 z65 z69 : Int64} {c : Int32} (e54 : z54 = Int64.ofInt 10 * tn) (e64 : z64 = c.toInt64) (e65 : z65 = z54 + z64) (e69 : z69 = z65 - Int64.ofInt 48) (h : 0 ≤ tn.toInt ∧ tn.toInt ≤ 9999999) (hc : 48 ≤ c.toInt ∧ c.toInt ≤ 57) : z69.toInt = 10 * tn.toInt + (c.toInt - 48) := by
  have a1 : z54.toInt = 10 * tn.toInt := by
    rw [e54, Int64.toInt_mul, show (Int64.ofInt 10).toInt = 10 from rfl]
    exact Int.bmod_eq_of_le (by omega) (by omega)
  have a2 : z64.toInt = c.toInt := tx_i2l e64
  have a3 : z65.toInt = 10 * tn.toInt + c.toInt := by
    rw [e65, Int64.toInt_add, a1, a2]
    exact Int.bmod_eq_of_le (by omega) (by omega)
  rw [e69, Int64.toInt_sub, a3, show (Int64.ofInt 48).toInt = 48 from rfl]
  rw [Int.bmod_eq_of_le (by omega) (by omega)]
  omega
theorem lx_ng {x z : Int64} (e : z = -x) (h : 0 ≤ x.toInt ∧ x.toInt ≤ 9999999) : z.toInt = - x.toInt := by
  rw [e, Int64.toInt_neg]
  exact Int.bmod_eq_of_le (by omega) (by omega)
/-- the reference's first fault stays -/
def FSM (s t : GS) : Prop := t.2.2.1 109 23 = s.2.2.1 109 23 ∧ t.2.2.1 109 24 = s.2.2.1 109 24
def FBL (s t : GS) (w p : Int) : Prop := ((s.2.2.1 109 23).toInt = 0 → (t.2.2.1 109 23).toInt = w ∧ (t.2.2.1 109 24).toInt = p) ∧ ((s.2.2.1 109 23).toInt ≠ 0 → FSM s t)
theorem fsm_tr {s u t : GS} (h : FSM s u) (g : FSM u t) : FSM s t := ⟨g.1.trans h.1, g.2.trans h.2⟩
theorem fbl_tr {s u t : GS} {w p : Int} (h : FSM s u) (g : FBL u t w p) : FBL s t w p := by
  unfold FBL FSM at g ⊢
  rw [h.1, h.2] at g
  exact g
/-- what the reference's token says of a token: k its kind, v its value -/
def NTK (s t : GS) (k v : Int) : Prop := (k = 0 → (t.2.2.1 109 28).toInt = 0) ∧ (k = 1 → (t.2.2.1 109 28).toInt = 1 ∧ (t.2.2.1 109 30).toInt = v + 97) ∧ (k = 2 → (t.2.2.1 109 28).toInt = 2 ∧ (t.2.2.2.1 109 31).toInt = v) ∧ (k = 3 → (t.2.2.1 109 28).toInt = 3 ∧ (t.2.2.1 109 30).toInt = 59) ∧ (k = 4 → (t.2.2.1 109 28).toInt = 3 ∧ (t.2.2.1 109 30).toInt ≠ 59 ∧ FBL s t 1 (t.2.2.1 109 29).toInt) ∧ (k = 5 → (t.2.2.1 109 28).toInt = 2 ∧ FBL s t 3 (t.2.2.1 109 29).toInt) ∧ (k ≠ 4 → k ≠ 5 → FSM s t)
section NTK
variable {s t : GS} {v : Int}
theorem ntk_0 (h : t.2.2.1 109 28 = Int32.ofInt 0) (f : FSM s t) : NTK s t 0 v := ⟨fun _ => by rw [h]; rfl, fun e => absurd e (by decide), fun e => absurd e (by decide), fun e => absurd e (by decide), fun e => absurd e (by decide), fun e => absurd e (by decide), fun _ _ => f⟩
theorem ntk_1 (h : t.2.2.1 109 28 = Int32.ofInt 1) (hs : (t.2.2.1 109 30).toInt = v + 97) (f : FSM s t) : NTK s t 1 v := ⟨fun e => absurd e (by decide), fun _ => ⟨by rw [h]; rfl, hs⟩, fun e => absurd e (by decide), fun e => absurd e (by decide), fun e => absurd e (by decide), fun e => absurd e (by decide), fun _ _ => f⟩
theorem ntk_2 (h : t.2.2.1 109 28 = Int32.ofInt 2) (hv : (t.2.2.2.1 109 31).toInt = v) (f : FSM s t) : NTK s t 2 v := ⟨fun e => absurd e (by decide), fun e => absurd e (by decide), fun _ => ⟨by rw [h]; rfl, hv⟩, fun e => absurd e (by decide), fun e => absurd e (by decide), fun e => absurd e (by decide), fun _ _ => f⟩
theorem ntk_3 (h : t.2.2.1 109 28 = Int32.ofInt 3) (hs : (t.2.2.1 109 30).toInt = 59) (f : FSM s t) : NTK s t 3 v := ⟨fun e => absurd e (by decide), fun e => absurd e (by decide), fun e => absurd e (by decide), fun _ => ⟨by rw [h]; rfl, hs⟩, fun e => absurd e (by decide), fun e => absurd e (by decide), fun _ _ => f⟩
theorem ntk_4 (h : t.2.2.1 109 28 = Int32.ofInt 3) (hs : (t.2.2.1 109 30).toInt ≠ 59) (f : FBL s t 1 (t.2.2.1 109 29).toInt) : NTK s t 4 v := ⟨fun e => absurd e (by decide), fun e => absurd e (by decide), fun e => absurd e (by decide), fun e => absurd e (by decide), fun _ => ⟨by rw [h]; rfl, hs, f⟩, fun e => absurd e (by decide), fun e _ => absurd rfl e⟩
theorem ntk_5 (h : t.2.2.1 109 28 = Int32.ofInt 2) (f : FBL s t 3 (t.2.2.1 109 29).toInt) : NTK s t 5 v := ⟨fun e => absurd e (by decide), fun e => absurd e (by decide), fun e => absurd e (by decide), fun e => absurd e (by decide), fun e => absurd e (by decide), fun _ => ⟨by rw [h]; rfl, f⟩, fun _ e => absurd rfl e⟩
end NTK
/-- two graphs that are alike -/
def GEQ (g h : GVW) : Prop := (∀ i, i < 32 → g.1 i = h.1 i) ∧ (∀ i, i < 160 → g.2.1 i = h.2.1 i) ∧ (∀ i, i < 160 → g.2.2.1 i = h.2.2.1 i) ∧ (∀ i, i < 160 → g.2.2.2.1 i = h.2.2.2.1 i) ∧ (∀ i, i < 160 → g.2.2.2.2.1 i = h.2.2.2.2.1 i) ∧ (∀ i, i < 160 → g.2.2.2.2.2.1 i = h.2.2.2.2.2.1 i) ∧ g.2.2.2.2.2.2.1 = h.2.2.2.2.2.2.1 ∧ g.2.2.2.2.2.2.2 = h.2.2.2.2.2.2.2
theorem upd_e {f g : Nat → Int32} {m p : Nat} {x : Int32} (h : ∀ i, i < m → f i = g i) : ∀ i, i < m → upd f p x i = upd g p x i := by
  intro i hi
  by_cases c : i = p
  · rw [c, ug_at, ug_at]
  · rw [ug_ne c, ug_ne c]; exact h i hi
section GE
variable {g h : GVW}
theorem geq_N {p : Nat} {l : Int32} (q : GEQ g h) : GEQ (gqN g p l) (gqN h p l) := by
  obtain ⟨q1, q2, q3, q4, q5, q6, q7, q8⟩ := q
  exact ⟨upd_e q1, q2, q3, q4, q5, q6, by show g.2.2.2.2.2.2.1 + 1 = h.2.2.2.2.2.2.1 + 1; rw [q7], by show g.2.2.2.2.2.2.2 + 1 = h.2.2.2.2.2.2.2 + 1; rw [q8]⟩
theorem geq_A {p : Nat} {a b w r k : Int32} (q : GEQ g h) : GEQ (gqA g p a b w r k) (gqA h p a b w r k) := by
  obtain ⟨q1, q2, q3, q4, q5, q6, q7, q8⟩ := q
  exact ⟨q1, upd_e q2, upd_e q3, upd_e q4, upd_e q5, upd_e q6, q7, by show g.2.2.2.2.2.2.2 + 1 = h.2.2.2.2.2.2.2 + 1; rw [q8]⟩
theorem geq_D {p : Nat} (q : GEQ g h) : GEQ (gqD g p) (gqD h p) := by
  obtain ⟨q1, q2, q3, q4, q5, q6, q7, q8⟩ := q
  exact ⟨q1, upd_e q2, q3, q4, q5, q6, q7, by show g.2.2.2.2.2.2.2 + 1 = h.2.2.2.2.2.2.2 + 1; rw [q8]⟩
theorem ite_e {f g f2 g2 : Nat → Int32} {m : Nat} {P : Prop} [Decidable P] (h : ∀ i, i < m → f i = g i) (h2 : ∀ i, i < m → f2 i = g2 i) : ∀ i, i < m → (if P then f else f2) i = (if P then g else g2) i := by
  intro i hi
  by_cases c : P
  · rw [if_pos c, if_pos c]; exact h i hi
  · rw [if_neg c, if_neg c]; exact h2 i hi
theorem geq_W {p : Nat} {w v : Int32} (q : GEQ g h) : GEQ (gqW g p w v) (gqW h p w v) := by
  obtain ⟨q1, q2, q3, q4, q5, q6, q7, q8⟩ := q
  exact ⟨q1, q2, q3, ite_e (upd_e q4) q4, ite_e (upd_e q5) q5, ite_e (upd_e q6) q6, q7, by show g.2.2.2.2.2.2.2 + 1 = h.2.2.2.2.2.2.2 + 1; rw [q8]⟩
theorem geq_L {p : Nat} {l : Int32} (q : GEQ g h) : GEQ (gqL g p l) (gqL h p l) := by
  obtain ⟨q1, q2, q3, q4, q5, q6, q7, q8⟩ := q
  exact ⟨upd_e q1, q2, q3, q4, q5, q6, q7, by show g.2.2.2.2.2.2.2 + 1 = h.2.2.2.2.2.2.2 + 1; rw [q8]⟩
theorem geq_f (q : GEQ g h) : fpl (ctg g.2.1) = fpl (ctg h.2.1) := fpl_cg (fun j hj => by unfold ctg; rw [q.2.1 j hj])
end GE
/-- a command can be carried out -/
def gvT (g : GVW) (x : Int) : Prop := 0 ≤ x ∧ x ≤ 159 ∧ (g.2.1 x.toNat).toInt ≠ -1
def dkC (g : GVW) (c : Int) (V : Nat → Int) : Prop := g.2.2.2.2.2.2.2 ≤ 3999 ∧ (c = 13 → g.2.2.2.2.2.2.1 ≤ 31) ∧ (c = 0 → (0 ≤ V 0 ∧ V 0 < g.2.2.2.2.2.2.1) ∧ (0 ≤ V 1 ∧ V 1 < g.2.2.2.2.2.2.1) ∧ (-1000000 ≤ V 2 ∧ V 2 ≤ 1000000) ∧ (0 ≤ V 3 ∧ V 3 ≤ 1000000) ∧ fpl (ctg g.2.1) < 160) ∧ (c = 19 → gvT g (V 0)) ∧ (c = 22 → gvT g (V 0) ∧ (-1000000 ≤ V 1 ∧ V 1 ≤ 1000000))
/-- what it does -/
def opC (g : GVW) (c : Int) (V : Nat → Int) : GVW := if c = 13 then gqN g g.2.2.2.2.2.2.1.toNat (Int32.ofInt (V 0)) else if c = 0 then gqA g (fpl (ctg g.2.1)) (Int32.ofInt (V 0)) (Int32.ofInt (V 1)) (Int32.ofInt (V 2)) (Int32.ofInt (V 3)) (Int32.ofInt (V 4)) else if c = 19 then gqD g (V 0).toNat else gqW g (V 0).toNat (Int32.ofInt 0) (Int32.ofInt (V 1))
theorem gvT_e {g h : GVW} {x : Int} (q : GEQ g h) (t : gvT g x) : gvT h x := ⟨t.1, t.2.1, by rw [← q.2.1 x.toNat (by have := t.1; have := t.2.1; omega)]; exact t.2.2⟩
theorem geq_s {g h : GVW} (q : GEQ g h) : GEQ h g := by
  obtain ⟨q1, q2, q3, q4, q5, q6, q7, q8⟩ := q
  exact ⟨fun i hi => (q1 i hi).symm, fun i hi => (q2 i hi).symm, fun i hi => (q3 i hi).symm, fun i hi => (q4 i hi).symm, fun i hi => (q5 i hi).symm, fun i hi => (q6 i hi).symm, q7.symm, q8.symm⟩
theorem geq_t {g h k : GVW} (q : GEQ g h) (r : GEQ h k) : GEQ g k := by
  obtain ⟨q1, q2, q3, q4, q5, q6, q7, q8⟩ := q
  obtain ⟨r1, r2, r3, r4, r5, r6, r7, r8⟩ := r
  exact ⟨fun i hi => (q1 i hi).trans (r1 i hi), fun i hi => (q2 i hi).trans (r2 i hi), fun i hi => (q3 i hi).trans (r3 i hi), fun i hi => (q4 i hi).trans (r4 i hi), fun i hi => (q5 i hi).trans (r5 i hi), fun i hi => (q6 i hi).trans (r6 i hi), q7.trans r7, q8.trans r8⟩
theorem geq_r {g : GVW} : GEQ g g := ⟨fun _ _ => rfl, fun _ _ => rfl, fun _ _ => rfl, fun _ _ => rfl, fun _ _ => rfl, fun _ _ => rfl, rfl, rfl⟩
theorem dkC_e {g h : GVW} {c : Int} {V W : Nat → Int} (q : GEQ g h) (hc : cmI c) (hV : ∀ i, i < cmA c → V i = W i) (t : dkC g c V) : dkC h c W := by
  obtain ⟨t1, t2, t3, t4, t5⟩ := t
  have e7 := q.2.2.2.2.2.2.1
  have e8 := q.2.2.2.2.2.2.2
  refine ⟨by rw [← e8]; exact t1, fun e => by rw [← e7]; exact t2 e, fun e => ?_, fun e => ?_, fun e => ?_⟩
  · have hA : cmA c = 5 := by rw [e]; rfl
    rw [hA] at hV
    rw [← hV 0 (by omega), ← hV 1 (by omega), ← hV 2 (by omega), ← hV 3 (by omega), ← e7, ← geq_f q]
    exact t3 e
  · have hA : cmA c = 1 := by rw [e]; rfl
    rw [hA] at hV
    rw [← hV 0 (by omega)]
    exact gvT_e q (t4 e)
  · have hA : cmA c = 2 := by rw [e]; rfl
    rw [hA] at hV
    rw [← hV 0 (by omega), ← hV 1 (by omega)]
    exact ⟨gvT_e q (t5 e).1, (t5 e).2⟩
theorem opC_e {g h : GVW} {c : Int} {V W : Nat → Int} (q : GEQ g h) (hc : cmI c) (hV : ∀ i, i < cmA c → V i = W i) : GEQ (opC g c V) (opC h c W) := by
  have e7 := q.2.2.2.2.2.2.1
  unfold opC
  rcases hc with e | e | e | e
  · have hA : cmA c = 1 := by rw [e]; rfl
    rw [hA] at hV
    rw [if_pos e, if_pos e, hV 0 (by omega), e7]
    exact geq_N q
  · have hA : cmA c = 5 := by rw [e]; rfl
    rw [hA] at hV
    rw [if_neg (by omega), if_pos e, if_neg (by omega), if_pos e, hV 0 (by omega), hV 1 (by omega), hV 2 (by omega), hV 3 (by omega), hV 4 (by omega), geq_f q]
    exact geq_A q
  · have hA : cmA c = 1 := by rw [e]; rfl
    rw [hA] at hV
    rw [if_neg (by omega), if_neg (by omega), if_pos e, if_neg (by omega), if_neg (by omega), if_pos e, hV 0 (by omega)]
    exact geq_D q
  · have hA : cmA c = 2 := by rw [e]; rfl
    rw [hA] at hV
    rw [if_neg (by omega), if_neg (by omega), if_neg (by omega), if_neg (by omega), if_neg (by omega), if_neg (by omega), hV 0 (by omega), hV 1 (by omega)]
    exact geq_W q
/-- the saved graph -/
def gvS (s : GS) : GVW := (s.1 17, s.1 18, s.1 19, s.1 20, s.1 21, s.1 22, (s.2.2.1 16 1).toInt, (s.2.2.1 16 0).toInt)
def TQS (s : GS) : Prop := ∀ p : Nat, p < 160 → (s.1 18 p).toInt ≠ -1 → (p : Int) < (s.2.2.1 16 3).toInt
theorem gvS_cg {s t : GS} {L : FM} (h : Fr L s t) (hq : (qI L.1 17 && qI L.1 18 && qI L.1 19 && qI L.1 20 && qI L.1 21 && qI L.1 22 && qF L.2.2.1 16 1 && qF L.2.2.1 16 0) = true) : gvS t = gvS s := by
  simp only [Bool.and_eq_true] at hq
  obtain ⟨⟨⟨⟨⟨⟨⟨q1, q2⟩, q3⟩, q4⟩, q5⟩, q6⟩, q7⟩, q8⟩ := hq
  unfold gvS
  rw [h.1 17 q1, h.1 18 q2, h.1 19 q3, h.1 20 q4, h.1 21 q5, h.1 22 q6, h.2.2.1 16 1 q7, h.2.2.1 16 0 q8]
theorem tqs_fr {s t : GS} {L : FM} (hT : TQS s) (h : Fr L s t) (hq : (qI L.1 18 && qF L.2.2.1 16 3) = true) : TQS t := by
  rw [Bool.and_eq_true] at hq
  intro p hp hn
  rw [h.1 18 hq.1] at hn
  rw [h.2.2.1 16 3 hq.2]
  exact hT p hp hn
/-- what stands in given -/
def V31 (s : GS) : Nat → Int := fun i => (s.1 31 i).toInt
section OPC
variable {s : GS} {c : Int} {g : GVW} {V : Nat → Int}
theorem opC_13 (h : c = 13) : opC (gvC s) c (V31 s) = gqN (gvC s) (s.2.2.1 2 1).toNatClampNeg (s.1 31 0) := by
  unfold opC
  rw [if_pos h]
  show gqN (gvC s) _ (Int32.ofInt (s.1 31 0).toInt) = _
  rw [Int32.ofInt_toInt]
  rfl
theorem opC_0 {p : Nat} (h : c = 0) (hp : fpl (ctg (s.1 4)) = p) : opC (gvC s) c (V31 s) = gqA (gvC s) p (s.1 31 0) (s.1 31 1) (s.1 31 2) (s.1 31 3) (s.1 31 4) := by
  unfold opC
  rw [if_neg (by omega), if_pos h]
  show gqA (gvC s) (fpl (ctg (s.1 4))) (Int32.ofInt (s.1 31 0).toInt) (Int32.ofInt (s.1 31 1).toInt) (Int32.ofInt (s.1 31 2).toInt) (Int32.ofInt (s.1 31 3).toInt) (Int32.ofInt (s.1 31 4).toInt) = _
  rw [Int32.ofInt_toInt, Int32.ofInt_toInt, Int32.ofInt_toInt, Int32.ofInt_toInt, Int32.ofInt_toInt, hp]
theorem opC_19 (h : c = 19) : opC (gvC s) c (V31 s) = gqD (gvC s) (s.1 31 0).toNatClampNeg := by
  unfold opC
  rw [if_neg (by omega), if_neg (by omega), if_pos h]
  rfl
theorem opC_22 (h : c = 22) : opC (gvC s) c (V31 s) = gqW (gvC s) (s.1 31 0).toNatClampNeg (Int32.ofInt 0) (s.1 31 1) := by
  unfold opC
  rw [if_neg (by omega), if_neg (by omega), if_neg (by omega)]
  show gqW (gvC s) (s.1 31 0).toInt.toNat (Int32.ofInt 0) (Int32.ofInt (s.1 31 1).toInt) = _
  rw [Int32.ofInt_toInt]
  rfl
theorem dk_13 (h : c = 13) (h1 : g.2.2.2.2.2.2.2 ≤ 3999) (h2 : g.2.2.2.2.2.2.1 ≤ 31) : dkC g c V := ⟨h1, fun _ => h2, fun e => absurd e (by omega), fun e => absurd e (by omega), fun e => absurd e (by omega)⟩
theorem dk_0 (h : c = 0) (h1 : g.2.2.2.2.2.2.2 ≤ 3999) (h2 : (0 ≤ V 0 ∧ V 0 < g.2.2.2.2.2.2.1) ∧ (0 ≤ V 1 ∧ V 1 < g.2.2.2.2.2.2.1) ∧ (-1000000 ≤ V 2 ∧ V 2 ≤ 1000000) ∧ (0 ≤ V 3 ∧ V 3 ≤ 1000000) ∧ fpl (ctg g.2.1) < 160) : dkC g c V := ⟨h1, fun e => absurd e (by omega), fun _ => h2, fun e => absurd e (by omega), fun e => absurd e (by omega)⟩
theorem dk_19 (h : c = 19) (h1 : g.2.2.2.2.2.2.2 ≤ 3999) (h2 : gvT g (V 0)) : dkC g c V := ⟨h1, fun e => absurd e (by omega), fun e => absurd e (by omega), fun _ => h2, fun e => absurd e (by omega)⟩
theorem dk_22 (h : c = 22) (h1 : g.2.2.2.2.2.2.2 ≤ 3999) (h2 : gvT g (V 0)) (h3 : -1000000 ≤ V 1 ∧ V 1 ≤ 1000000) : dkC g c V := ⟨h1, fun e => absurd e (by omega), fun e => absurd e (by omega), fun e => absurd e (by omega), fun _ => ⟨h2, h3⟩⟩
theorem dk_t (hc : cmI c) (h13 : c ≠ 13) (h0 : c ≠ 0) (h : dkC g c V) : gvT g (V 0) := by
  rcases hc with e | e | e | e
  · exact absurd e h13
  · exact absurd e h0
  · exact h.2.2.2.1 e
  · exact (h.2.2.2.2 e).1
end OPC
/-- k commands have been carried out: the place a, the graph g -/
def LRN (T : Nat → Int32) (n : Nat) (g0 : GVW) : Nat → Nat → GVW → Prop
  | 0, a, g => a = 0 ∧ g = g0
  | k + 1, a, g => ∃ a0 g1 p c V, LRN T n g0 k a0 g1 ∧ CMP T n a0 p c V a ∧ dkC g1 c V ∧ g = opC g1 c V
/-- how a text ends: z the answer, f the fault's number (0: none), p its place, g the graph -/
def LOT (T : Nat → Int32) (n : Nat) (g0 : GVW) (z f p : Int) (g : GVW) : Prop :=
  (∃ (k a : Nat) (g1 : GVW), LRN T n g0 k a g1 ∧ CME T n a ∧ z = (k : Int) ∧ f = 0 ∧ GEQ g g1) ∨
  (∃ (k a q : Nat) (g1 : GVW), LRN T n g0 k a g1 ∧ (CMX T n a f q ∨ ∃ c V e, CMP T n a q c V e ∧ ¬ dkC g1 c V ∧ f = 4) ∧ z = -4 ∧ p = (q : Int) ∧ GEQ g g0)
theorem cmp_l {T : Nat → Int32} {n a p e : Nat} {c : Int} {V : Nat → Int} (h : CMP T n a p c V e) : a < e := by
  have le : ∀ (i : Nat) {p e : Nat} {k v : Int}, TSQ T n a i p e k v → a ≤ e := by
    intro i
    induction i with
    | zero => intro p e k v h; have := tkn_e h; omega
    | succ i ih =>
      intro p e k v h
      obtain ⟨p0, e0, k0, v0, h1, h2⟩ := h
      have := ih h1
      have := tkn_e h2
      omega
  obtain ⟨-, -, -, q, v, p0, e0, k0, v0, h1, h2⟩ := h
  have h3 := le _ h1
  have h4 := tkn_e h2
  have h5 := h4.2.2.2.1 (by decide)
  omega
theorem lrn_l {T : Nat → Int32} {n : Nat} {g0 : GVW} : ∀ (k : Nat) {a : Nat} {g : GVW}, LRN T n g0 k a g → k ≤ a
  | 0, _, _, _ => Nat.zero_le _
  | k + 1, _, _, ⟨a0, g1, p, c, V, h1, h2, h3, h4⟩ => by
    have := lrn_l k h1
    have := cmp_l h2
    omega
theorem lrn_u {T U : Nat → Int32} {n : Nat} {g0 h0 : GVW} (hT : ∀ i, i < n → T i = U i) (q : GEQ g0 h0) : ∀ (k : Nat) {a b : Nat} {g h : GVW}, LRN T n g0 k a g → LRN U n h0 k b h → a = b ∧ GEQ g h
  | 0, _, _, _, _, ⟨h1, h2⟩, ⟨g1, g2⟩ => by
    rw [h1, h2, g1, g2]
    exact ⟨rfl, q⟩
  | k + 1, _, _, _, _, ⟨a0, x1, p1, c1, V1, h1, h2, h3, h4⟩, ⟨b0, y1, p2, c2, V2, g1, g2, g3, g4⟩ => by
    obtain ⟨ea, eg⟩ := lrn_u hT q k h1 g1
    subst ea
    have u := cmp_u (cmp_cg hT h2) g2
    obtain ⟨-, ec, ee, eV⟩ := u
    subst ec
    rw [h4, g4]
    exact ⟨ee, opC_e eg h2.1 eV⟩
/-- at a place where a run of k commands stands one more can't be there and not be there -/
theorem lrn_x {T U : Nat → Int32} {n : Nat} {g0 h0 : GVW} (hT : ∀ i, i < n → T i = U i) (q : GEQ g0 h0) {k : Nat} {a : Nat} {g : GVW} (h : LRN T n g0 k a g) (hx : CME T n a ∨ ∃ f p, CMX T n a f p ∨ ∃ c V e, CMP T n a p c V e ∧ ¬ dkC g c V ∧ f = 4) : ∀ (j : Nat) {b : Nat} {y : GVW}, LRN U n h0 j b y → j ≤ k
  | j, b, y, r => by
    rcases Nat.lt_or_ge k j with c | c
    · exfalso
      have low : ∀ (i : Nat) {b2 : Nat} {y2 : GVW}, LRN U n h0 (k + 1 + i) b2 y2 → ∃ b3 y3, LRN U n h0 (k + 1) b3 y3 := by
        intro i
        induction i with
        | zero => intro b2 y2 r2; exact ⟨b2, y2, r2⟩
        | succ i ih =>
          intro b2 y2 r2
          obtain ⟨a0, x1, p1, c1, V1, h1, -⟩ := r2
          exact ih h1
      obtain ⟨b3, y3, r3⟩ := low (j - (k + 1)) (by rw [show k + 1 + (j - (k + 1)) = j by omega]; exact r)
      obtain ⟨a0, x1, p1, c1, V1, g1, g2, g3, -⟩ := r3
      obtain ⟨ea, eg⟩ := lrn_u hT q k h g1
      subst ea
      rcases hx with hx | ⟨f, p, hx | ⟨c2, V2, e2, k1, k2, -⟩⟩
      · exact cme_p (cme_cg hT hx) g2
      · exact cmx_n g2 (cmx_cg hT hx)
      · have u := cmp_u (cmp_cg hT k1) g2
        obtain ⟨-, ec, -, eV⟩ := u
        subst ec
        exact k2 (dkC_e (geq_s eg) k1.1 (fun i hi => (eV i hi).symm) g3)
    · exact c
/-- a text has one end -/
theorem lot_u {T U : Nat → Int32} {n : Nat} {g0 h0 : GVW} {z f p z2 f2 p2 : Int} {g h : GVW} (hT : ∀ i, i < n → T i = U i) (q : GEQ g0 h0) (l : LOT T n g0 z f p g) (m : LOT U n h0 z2 f2 p2 h) : z = z2 ∧ f = f2 ∧ (f ≠ 0 → p = p2) ∧ GEQ g h := by
  have hU : ∀ i, i < n → U i = T i := fun i hi => (hT i hi).symm
  have qs := geq_s q
  rcases l with ⟨k, a, g1, l1, l2, l3, l4, l5⟩ | ⟨k, a, w, g1, l1, l2, l3, l4, l5⟩ <;> rcases m with ⟨j, b, h1, m1, m2, m3, m4, m5⟩ | ⟨j, b, w2, h1, m1, m2, m3, m4, m5⟩
  · have c1 := lrn_x hT q l1 (Or.inl l2) j m1
    have c2 := lrn_x hU qs m1 (Or.inl m2) k l1
    have e : k = j := by omega
    subst e
    exact ⟨by rw [l3, m3], by rw [l4, m4], fun c => absurd l4 c, geq_t l5 (geq_t (lrn_u hT q k l1 m1).2 (geq_s m5))⟩
  · have c1 := lrn_x hT q l1 (Or.inl l2) j m1
    have c2 := lrn_x hU qs m1 (Or.inr ⟨f2, w2, m2⟩) k l1
    have e : k = j := by omega
    subst e
    obtain ⟨ea, -⟩ := lrn_u hT q k l1 m1
    subst ea
    rcases m2 with m2 | ⟨c, V, e, m2, -⟩
    · exact (cme_x (cme_cg hT l2) m2).elim
    · exact (cme_p (cme_cg hT l2) m2).elim
  · have c1 := lrn_x hT q l1 (Or.inr ⟨f, w, l2⟩) j m1
    have c2 := lrn_x hU qs m1 (Or.inl m2) k l1
    have e : k = j := by omega
    subst e
    obtain ⟨ea, -⟩ := lrn_u hT q k l1 m1
    subst ea
    rcases l2 with l2 | ⟨c, V, e, l2, -⟩
    · exact (cme_x m2 (cmx_cg hT l2)).elim
    · exact (cme_p m2 (cmp_cg hT l2)).elim
  · have c1 := lrn_x hT q l1 (Or.inr ⟨f, w, l2⟩) j m1
    have c2 := lrn_x hU qs m1 (Or.inr ⟨f2, w2, m2⟩) k l1
    have e : k = j := by omega
    subst e
    obtain ⟨ea, eg⟩ := lrn_u hT q k l1 m1
    subst ea
    have both : f = f2 ∧ w = w2 := by
      rcases l2 with l2 | ⟨c, V, e, l2, l6, l7⟩ <;> rcases m2 with m2 | ⟨c3, V3, e3, m2, m6, m7⟩
      · exact cmx_u (cmx_cg hT l2) m2
      · exact (cmx_n m2 (cmx_cg hT l2)).elim
      · exact (cmx_n (cmp_cg hT l2) m2).elim
      · exact ⟨by rw [l7, m7], (cmp_u (cmp_cg hT l2) m2).1⟩
    exact ⟨by rw [l3, m3], both.1, fun _ => by rw [l4, m4, both.2], geq_t l5 (geq_t q (geq_s m5))⟩
/-! the reference's commands -/
def DON (s : GS) (c : Int) (m : Nat) : Prop :=
  (c = 110 → (s.1 110 2).toInt ≤ 31) ∧
  (c = 97 → fpl (thg s 320) < 160 ∧ nq (s.1 128 m) 0 ((s.1 110 2).toInt - 1) ∧ nq (s.1 128 (m + 1)) 0 ((s.1 110 2).toInt - 1) ∧ nq (s.1 128 (m + 2)) (-1000000) 1000000 ∧ nq (s.1 128 (m + 3)) 0 1000000) ∧
  ((c = 116 ∨ c = 119) → nq (s.1 128 m) 0 159 ∧ thg s 320 (s.1 128 m).toNatClampNeg = true) ∧
  (c = 119 → nq (s.1 128 (m + 1)) (-1000000) 1000000)
theorem don_97 {s : GS} {c : Int} {m : Nat} (h : c = 97) (h1 : fpl (thg s 320) < 160 ∧ nq (s.1 128 m) 0 ((s.1 110 2).toInt - 1) ∧ nq (s.1 128 (m + 1)) 0 ((s.1 110 2).toInt - 1) ∧ nq (s.1 128 (m + 2)) (-1000000) 1000000 ∧ nq (s.1 128 (m + 3)) 0 1000000) : DON s c m := ⟨fun e => absurd e (by omega), fun _ => h1, fun e => absurd e (by omega), fun e => absurd e (by omega)⟩
theorem don_110 {s : GS} {c : Int} {m : Nat} (h : c = 110) (h1 : (s.1 110 2).toInt ≤ 31) : DON s c m := ⟨fun _ => h1, fun e => absurd e (by omega), fun e => absurd e (by omega), fun e => absurd e (by omega)⟩
theorem don_116 {s : GS} {c : Int} {m : Nat} (h : c = 116) (h1 : nq (s.1 128 m) 0 159 ∧ thg s 320 (s.1 128 m).toNatClampNeg = true) : DON s c m := ⟨fun e => absurd e (by omega), fun e => absurd e (by omega), fun _ => h1, fun e => absurd e (by omega)⟩
theorem don_119 {s : GS} {c : Int} {m : Nat} (h : c = 119) (h1 : nq (s.1 128 m) 0 159 ∧ thg s 320 (s.1 128 m).toNatClampNeg = true) (h2 : nq (s.1 128 (m + 1)) (-1000000) 1000000) : DON s c m := ⟨fun e => absurd e (by omega), fun e => absurd e (by omega), fun _ => h1, fun _ => h2⟩
theorem thg_t {s : GS} {z w j : Int32} (e : w = s.1 112 j.toNatClampNeg) (hj : j.toInt = 320 + z.toInt) (hz : 0 ≤ z.toInt) : thg s 320 z.toNatClampNeg = decide (w.toInt ≠ 0) := by
  unfold thg
  rw [e, show j.toNatClampNeg = 320 + z.toNatClampNeg from by show j.toInt.toNat = 320 + z.toInt.toNat; omega]
