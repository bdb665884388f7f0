/-! TOKENS OF A TEXT OF COMMANDS -/
def tkD (c : Int32) : Prop := 48 ≤ c.toInt ∧ c.toInt ≤ 57
/-- blanks from a on, up to p -/
def tkS (T : Nat → Int32) (n a p : Nat) : Prop := a ≤ p ∧ p ≤ n ∧ (∀ i, a ≤ i → i < p → (T i).toInt = 32) ∧ (p < n → (T p).toInt ≠ 32)
/-- digits from a on, up to p -/
def tkG (T : Nat → Int32) (n a p : Nat) : Prop := a ≤ p ∧ p ≤ n ∧ (∀ i, a ≤ i → i < p → tkD (T i)) ∧ (p < n → ¬ tkD (T p))
/-- the number of the k digits from a on -/
def tkN (T : Nat → Int32) (a : Nat) : Nat → Int
  | 0 => 0
  | k + 1 => 10 * tkN T a k + ((T (a + k)).toInt - 48)
/-- where the digits of a number at p begin -/
def tkQ (T : Nat → Int32) (n p q : Nat) : Prop := (q = p ∧ p < n ∧ tkD (T p)) ∨ (q = p + 1 ∧ (T p).toInt = 45 ∧ p + 1 < n ∧ tkD (T (p + 1)))
def tkL (c : Int32) : Prop := 97 ≤ c.toInt ∧ c.toInt ≤ 122
/-- the token from a on: its place p, its end e, its kind k (0 none, 1 letter, 2 number, 3 semicolon, 4 no token, 5 too long), its value v -/
def TKN (T : Nat → Int32) (n a p e : Nat) (k v : Int) : Prop := tkS T n a p ∧
  ((p = n ∧ e = p ∧ k = 0) ∨
   (p < n ∧ tkL (T p) ∧ e = p + 1 ∧ k = 1 ∧ v = (T p).toInt - 97) ∨
   (∃ q, tkQ T n p q ∧ tkG T n q e ∧ ((e - q ≤ 7 ∧ k = 2 ∧ v = (if q = p then tkN T q (e - q) else - tkN T q (e - q))) ∨ (7 < e - q ∧ k = 5))) ∨
   (p < n ∧ (T p).toInt = 59 ∧ e = p + 1 ∧ k = 3 ∧ v = 59) ∨
   (p < n ∧ ¬ tkL (T p) ∧ (T p).toInt ≠ 59 ∧ (∀ q, ¬ tkQ T n p q) ∧ e = p + 1 ∧ k = 4))
section TKU
variable {T : Nat → Int32} {n a : Nat}
theorem tkS_u {p q : Nat} (h : tkS T n a p) (g : tkS T n a q) : p = q := by
  obtain ⟨h1, h2, h3, h4⟩ := h
  obtain ⟨g1, g2, g3, g4⟩ := g
  rcases Nat.lt_trichotomy p q with c | c | c
  · exact absurd (g3 p h1 c) (h4 (by omega))
  · exact c
  · exact absurd (h3 q g1 c) (g4 (by omega))
theorem tkG_u {p q : Nat} (h : tkG T n a p) (g : tkG T n a q) : p = q := by
  obtain ⟨h1, h2, h3, h4⟩ := h
  obtain ⟨g1, g2, g3, g4⟩ := g
  rcases Nat.lt_trichotomy p q with c | c | c
  · exact absurd (g3 p h1 c) (h4 (by omega))
  · exact c
  · exact absurd (h3 q g1 c) (g4 (by omega))
theorem tkQ_u {p q r : Nat} (h : tkQ T n p q) (g : tkQ T n p r) : q = r := by
  rcases h with ⟨h1, h2, h3⟩ | ⟨h1, h2, h3, h4⟩ <;> rcases g with ⟨g1, g2, g3⟩ | ⟨g1, g2, g3, g4⟩
  · omega
  · have := h3.1; have := h3.2; omega
  · have := g3.1; have := g3.2; omega
  · omega
theorem tkQ_l {p q : Nat} (h : tkQ T n p q) : p < n ∧ ¬ tkL (T p) ∧ (T p).toInt ≠ 59 := by
  unfold tkL
  rcases h with ⟨h1, h2, h3⟩ | ⟨h1, h2, h3, h4⟩
  · have := h3.1; have := h3.2; exact ⟨h2, by omega, by omega⟩
  · exact ⟨by omega, by omega, by omega⟩
/-- a place has one token -/
theorem tkn_u {p e p2 e2 : Nat} {k v k2 v2 : Int} (h : TKN T n a p e k v) (g : TKN T n a p2 e2 k2 v2) : p = p2 ∧ e = e2 ∧ k = k2 ∧ ((k = 1 ∨ k = 2) → v = v2) := by
  obtain ⟨hs, h⟩ := h
  obtain ⟨gs, g⟩ := g
  have ep := tkS_u hs gs
  subst ep
  refine ⟨rfl, ?_⟩
  rcases h with ⟨h1, h2, h3⟩ | ⟨h1, h2, h3, h4, h5⟩ | ⟨q, h1, h2, h3⟩ | ⟨h1, h2, h3, h4, -⟩ | ⟨h1, h2, h3, h4, h5, h6⟩ <;> rcases g with ⟨g1, g2, g3⟩ | ⟨g1, g2, g3, g4, g5⟩ | ⟨r, g1, g2, g3⟩ | ⟨g1, g2, g3, g4, -⟩ | ⟨g1, g2, g3, g4, g5, g6⟩
  · exact ⟨by omega, by omega, fun c => by omega⟩
  · omega
  · have := (tkQ_l g1).1; omega
  · omega
  · omega
  · omega
  · exact ⟨by omega, by omega, fun _ => by omega⟩
  · exact absurd h2 (tkQ_l g1).2.1
  · unfold tkL at h2; omega
  · exact absurd h2 g2
  · have := (tkQ_l h1).1; omega
  · exact absurd g2 (tkQ_l h1).2.1
  · have er := tkQ_u h1 g1
    subst er
    have ee := tkG_u h2 g2
    subst ee
    rcases h3 with ⟨a1, a2, a3⟩ | ⟨a1, a2⟩ <;> rcases g3 with ⟨b1, b2, b3⟩ | ⟨b1, b2⟩
    · exact ⟨rfl, by omega, fun _ => by rw [a3, b3]⟩
    · omega
    · omega
    · exact ⟨rfl, by omega, fun c => by omega⟩
  · exact absurd g2 (tkQ_l h1).2.2
  · exact absurd h1 (g4 q)
  · omega
  · unfold tkL at g2; omega
  · exact absurd h2 (tkQ_l g1).2.2
  · exact ⟨by omega, by omega, fun c => by omega⟩
  · exact absurd h2 g3
  · omega
  · exact absurd g2 h2
  · exact absurd g1 (h4 r)
  · exact absurd g2 h3
  · exact ⟨by omega, by omega, fun c => by omega⟩
theorem tkn_e {p e : Nat} {k v : Int} (h : TKN T n a p e k v) : a ≤ p ∧ p ≤ e ∧ e ≤ n ∧ (k ≠ 0 → p < e) ∧ 0 ≤ k ∧ k ≤ 5 := by
  obtain ⟨⟨s1, s2, -, -⟩, h⟩ := h
  rcases h with ⟨h1, h2, h3⟩ | ⟨h1, h2, h3, h4, h5⟩ | ⟨q, h1, h2, h3⟩ | ⟨h1, h2, h3, h4, -⟩ | ⟨h1, h2, h3, h4, h5, h6⟩
  · exact ⟨s1, by omega, by omega, fun c => absurd h3 c, by omega, by omega⟩
  · exact ⟨s1, by omega, by omega, fun c => by omega, by omega, by omega⟩
  · obtain ⟨g1, g2, g3, g4⟩ := h2
    have hq : p ≤ q ∧ p < e := by
      rcases h1 with ⟨c1, c2, c3⟩ | ⟨c1, c2, c3, c4⟩
      · refine ⟨by omega, ?_⟩
        rcases Nat.lt_or_ge p e with c | c
        · exact c
        · exact absurd (by rw [c1] at g1; rw [show e = p by omega]; exact c3) (g4 (by omega))
      · exact ⟨by omega, by omega⟩
    exact ⟨s1, by omega, by omega, fun _ => hq.2, by omega, by omega⟩
  · exact ⟨s1, by omega, by omega, fun c => by omega, by omega, by omega⟩
  · exact ⟨s1, by omega, by omega, fun c => by omega, by omega, by omega⟩
end TKU
section TKI
variable {T : Nat → Int32} {n a p e : Nat} {k v : Int}
theorem tkn_0 (hs : tkS T n a p) (h : p = n) (he : e = p) (hk : k = 0) : TKN T n a p e k v := ⟨hs, Or.inl ⟨h, he, hk⟩⟩
theorem tkn_1 (hs : tkS T n a p) (h : p < n) (hl : tkL (T p)) (he : e = p + 1) (hk : k = 1) (hv : v = (T p).toInt - 97) : TKN T n a p e k v := ⟨hs, Or.inr (Or.inl ⟨h, hl, he, hk, hv⟩)⟩
theorem tkn_2 {q : Nat} {x : Int} (hs : tkS T n a p) (hq : tkQ T n p q) (hx : x = 0 ↔ q = p) (h : tkG T n q e ∧ ((e - q ≤ 7 ∧ k = 2 ∧ v = (if x = 0 then tkN T q (e - q) else - tkN T q (e - q))) ∨ (7 < e - q ∧ k = 5))) : TKN T n a p e k v := by
  refine ⟨hs, Or.inr (Or.inr (Or.inl ⟨q, hq, h.1, ?_⟩))⟩
  rcases h.2 with ⟨h1, h2, h3⟩ | h2
  · refine Or.inl ⟨h1, h2, ?_⟩
    rw [h3]
    by_cases c : x = 0
    · rw [if_pos c, if_pos (hx.mp c)]
    · rw [if_neg c, if_neg (fun z => c (hx.mpr z))]
  · exact Or.inr h2
theorem tkn_3 (hs : tkS T n a p) (h : p < n) (hc : (T p).toInt = 59) (he : e = p + 1) (hk : k = 3) (hv : v = 59) : TKN T n a p e k v := ⟨hs, Or.inr (Or.inr (Or.inr (Or.inl ⟨h, hc, he, hk, hv⟩)))⟩
theorem tkn_4 (hs : tkS T n a p) (h : p < n) (hl : ¬ tkL (T p)) (hc : (T p).toInt ≠ 59) (hq : ∀ q, ¬ tkQ T n p q) (he : e = p + 1) (hk : k = 4) : TKN T n a p e k v := ⟨hs, Or.inr (Or.inr (Or.inr (Or.inr ⟨h, hl, hc, hq, he, hk⟩)))⟩
theorem nq_1 (h : ¬ tkD (T p)) (hm : (T p).toInt ≠ 45) : ∀ q, ¬ tkQ T n p q := by
  intro q hq
  rcases hq with ⟨-, -, h3⟩ | ⟨-, h2, -⟩
  · exact h h3
  · exact hm h2
theorem nq_2 (h : (T p).toInt = 45) (hn : p + 1 < n → ¬ tkD (T (p + 1))) : ∀ q, ¬ tkQ T n p q := by
  intro q hq
  rcases hq with ⟨-, -, h3⟩ | ⟨-, -, h3, h4⟩
  · have := h3.1; omega
  · exact hn h3 h4
/-- a semicolon is 59, a letter is below 26 -/
theorem tkn_v3 (h : TKN T n a p e k v) (hk : k = 3) : v = 59 := by
  rcases h.2 with ⟨h1, h2, h3⟩ | ⟨h1, h2, h3, h4, h5⟩ | ⟨q, h1, h2, h3⟩ | ⟨h1, h2, h3, h4, h5⟩ | ⟨h1, h2, h3, h4, h5, h6⟩
  · omega
  · omega
  · rcases h3 with ⟨a1, a2, a3⟩ | ⟨a1, a2⟩ <;> omega
  · exact h5
  · omega
theorem tkn_v1 (h : TKN T n a p e k v) (hk : k = 1) : 0 ≤ v ∧ v ≤ 25 := by
  rcases h.2 with ⟨h1, h2, h3⟩ | ⟨h1, h2, h3, h4, h5⟩ | ⟨q, h1, h2, h3⟩ | ⟨h1, h2, h3, h4, h5⟩ | ⟨h1, h2, h3, h4, h5, h6⟩
  · omega
  · have := h2.1; have := h2.2; omega
  · rcases h3 with ⟨a1, a2, a3⟩ | ⟨a1, a2⟩ <;> omega
  · omega
  · omega
/-- a number has been read -/
theorem rdn_i {q : Nat} {d y x : Int} (h1 : q ≤ e) (h2 : e ≤ n) (hd : ∀ i, q ≤ i → i < e → tkD (T i)) (hn : e < n → ¬ tkD (T e)) (ed : d = (e : Int) - q) (hy : d ≤ 7 → y = tkN T q d.toNat) (hk : (d ≤ 7 ∧ k = 2) ∨ (7 < d ∧ k = 5)) (hv : v = (if x = 0 then y else - y)) : tkG T n q e ∧ ((e - q ≤ 7 ∧ k = 2 ∧ v = (if x = 0 then tkN T q (e - q) else - tkN T q (e - q))) ∨ (7 < e - q ∧ k = 5)) := by
  refine ⟨⟨h1, h2, hd, hn⟩, ?_⟩
  have en : d.toNat = e - q := by omega
  rcases hk with ⟨k1, k2⟩ | ⟨k1, k2⟩
  · refine Or.inl ⟨by omega, k2, ?_⟩
    rw [hv, hy k1, en]
  · exact Or.inr ⟨by omega, k2⟩
end TKI
theorem t_ngf {z x : Int32} (hz : z = -x) (hx : In x 0 9999999) : z.toInt = -x.toInt := by
  obtain ⟨x1, x2⟩ := hx
  rw [hz, Int32.toInt_neg]
  exact Int.bmod_eq_of_le (by omega) (by omega)
/-- the i-th token from a on -/
def TSQ (T : Nat → Int32) (n a : Nat) : Nat → Nat → Nat → Int → Int → Prop
  | 0, p, e, k, v => TKN T n a p e k v
  | i + 1, p, e, k, v => ∃ p0 e0 k0 v0, TSQ T n a i p0 e0 k0 v0 ∧ TKN T n e0 p e k v
theorem tsq_u {T : Nat → Int32} {n a : Nat} : ∀ (i : Nat) {p e p2 e2 : Nat} {k v k2 v2 : Int}, TSQ T n a i p e k v → TSQ T n a i p2 e2 k2 v2 → p = p2 ∧ e = e2 ∧ k = k2 ∧ ((k = 1 ∨ k = 2) → v = v2)
  | 0, _, _, _, _, _, _, _, _, h, g => tkn_u h g
  | i + 1, _, _, _, _, _, _, _, _, ⟨_, _, _, _, h1, h2⟩, ⟨_, _, _, _, g1, g2⟩ => by
    have hh := (tsq_u i h1 g1).2.1
    subst hh
    exact tkn_u h2 g2
/-- how many things a command wants, and of which kind -/
def cmA (c : Int) : Nat := if c = 13 then 1 else if c = 0 then 5 else if c = 19 then 1 else 2
def cmI (c : Int) : Prop := c = 13 ∨ c = 0 ∨ c = 19 ∨ c = 22
def cmK (c : Int) (i : Nat) : Int := if i = cmA c + 1 then 3 else if (c = 13 ∧ i = 1) ∨ (c = 0 ∧ i = 5) then 1 else 2
def cmF (k : Int) : Int := if k = 4 then 1 else if k = 5 then 3 else 2
/-- a command c with the values V, from a to e; its place p -/
def CMP (T : Nat → Int32) (n a p : Nat) (c : Int) (V : Nat → Int) (e : Nat) : Prop := cmI c ∧ (∃ e0, TSQ T n a 0 p e0 1 c) ∧ (∀ i, i < cmA c → ∃ q f, TSQ T n a (i + 1) q f (cmK c (i + 1)) (V i)) ∧ ∃ q v, TSQ T n a (cmA c + 1) q e 3 v
/-- no command from a on: fault f at place p -/
def CMX (T : Nat → Int32) (n a : Nat) (f : Int) (p : Nat) : Prop :=
  (∃ e k v, TSQ T n a 0 p e k v ∧ k ≠ 0 ∧ ¬ (k = 1 ∧ cmI v) ∧ f = cmF k) ∨
  (∃ c p0 e0, cmI c ∧ TSQ T n a 0 p0 e0 1 c ∧ ∃ i, i ≤ cmA c ∧ (∀ j, j < i → ∃ q g w, TSQ T n a (j + 1) q g (cmK c (j + 1)) w) ∧ ∃ e k v, TSQ T n a (i + 1) p e k v ∧ k ≠ cmK c (i + 1) ∧ f = cmF k)
theorem cmp_u {T : Nat → Int32} {n a p p2 e e2 : Nat} {c c2 : Int} {V V2 : Nat → Int} (h : CMP T n a p c V e) (g : CMP T n a p2 c2 V2 e2) : p = p2 ∧ c = c2 ∧ e = e2 ∧ ∀ i, i < cmA c → V i = V2 i := by
  obtain ⟨h1, ⟨e0, h2⟩, h3, q, v, h4⟩ := h
  obtain ⟨g1, ⟨f0, g2⟩, g3, r, w, g4⟩ := g
  have u0 := tsq_u 0 h2 g2
  have uc := u0.2.2.2 (Or.inl rfl)
  subst uc
  refine ⟨u0.1, rfl, (tsq_u _ h4 g4).2.1, fun i hi => ?_⟩
  obtain ⟨q1, f1, k1⟩ := h3 i hi
  obtain ⟨q2, f2, k2⟩ := g3 i hi
  refine (tsq_u _ k1 k2).2.2.2 ?_
  unfold cmK
  rw [if_neg (by omega)]
  by_cases cc : (c = 13 ∧ i + 1 = 1) ∨ (c = 0 ∧ i + 1 = 5)
  · rw [if_pos cc]; exact Or.inl rfl
  · rw [if_neg cc]; exact Or.inr rfl
theorem cmx_n {T : Nat → Int32} {n a p p2 e : Nat} {c f : Int} {V : Nat → Int} (h : CMP T n a p c V e) (g : CMX T n a f p2) : False := by
  obtain ⟨h1, ⟨e0, h2⟩, h3, q, v, h4⟩ := h
  rcases g with ⟨e1, k, w, g1, g2, g3, g4⟩ | ⟨c2, p0, f0, g1, g2, i, g3, g4, e1, k, w, g5, g6, g7⟩
  · have u0 := tsq_u 0 h2 g1
    exact g3 ⟨u0.2.2.1.symm, by rw [← u0.2.2.2 (Or.inl rfl)]; exact h1⟩
  · have u0 := tsq_u 0 h2 g2
    have uc := u0.2.2.2 (Or.inl rfl)
    subst uc
    rcases Nat.lt_or_ge i (cmA c) with ci | ci
    · obtain ⟨q1, f1, k1⟩ := h3 i ci
      exact g6 (tsq_u _ k1 g5).2.2.1.symm
    · have ei : i = cmA c := by omega
      subst ei
      refine g6 ?_
      rw [← (tsq_u _ h4 g5).2.2.1]
      unfold cmK
      rw [if_pos rfl]
theorem cmx_u {T : Nat → Int32} {n a p p2 : Nat} {f f2 : Int} (h : CMX T n a f p) (g : CMX T n a f2 p2) : f = f2 ∧ p = p2 := by
  rcases h with ⟨e1, k1, w1, h1, h2, h3, h4⟩ | ⟨c1, p1, f1, h1, h2, i1, h3, h4, e1, k1, w1, h5, h6, h7⟩ <;> rcases g with ⟨e2, k2, w2, g1, g2, g3, g4⟩ | ⟨c2, q2, r2, g1, g2, i2, g3, g4, e2, k2, w2, g5, g6, g7⟩
  · have u := tsq_u 0 h1 g1
    exact ⟨by rw [h4, g4, u.2.2.1], u.1⟩
  · have u := tsq_u 0 h1 g2
    exact absurd ⟨u.2.2.1, by rw [u.2.2.2 (Or.inl u.2.2.1)]; exact g1⟩ h3
  · have u := tsq_u 0 g1 h2
    exact absurd ⟨u.2.2.1, by rw [u.2.2.2 (Or.inl u.2.2.1)]; exact h1⟩ g3
  · have u0 := tsq_u 0 h2 g2
    have uc := u0.2.2.2 (Or.inl rfl)
    subst uc
    rcases Nat.lt_trichotomy i1 i2 with ci | ci | ci
    · obtain ⟨q, r, w, k⟩ := g4 i1 ci
      exact absurd (tsq_u _ h5 k).2.2.1 h6
    · subst ci
      have u := tsq_u _ h5 g5
      exact ⟨by rw [h7, g7, u.2.2.1], u.1⟩
    · obtain ⟨q, r, w, k⟩ := h4 i2 ci
      exact absurd (tsq_u _ g5 k).2.2.1 g6
/-- the text ends from a on -/
def CME (T : Nat → Int32) (n a : Nat) : Prop := ∃ p e v, TSQ T n a 0 p e 0 v
theorem cme_p {T : Nat → Int32} {n a p e : Nat} {c : Int} {V : Nat → Int} (h : CME T n a) (g : CMP T n a p c V e) : False := by
  obtain ⟨p1, e1, v1, h⟩ := h
  obtain ⟨-, ⟨e0, g2⟩, -⟩ := g
  have := (tsq_u 0 h g2).2.2.1
  omega
theorem cme_x {T : Nat → Int32} {n a p : Nat} {f : Int} (h : CME T n a) (g : CMX T n a f p) : False := by
  obtain ⟨p1, e1, v1, h⟩ := h
  rcases g with ⟨e2, k, w, g1, g2, g3, g4⟩ | ⟨c2, p0, f0, g1, g2, -⟩
  · exact g2 (tsq_u 0 h g1).2.2.1.symm
  · have := (tsq_u 0 h g2).2.2.1
    omega
