section
/-! GROUPS BY GAIN -/
/-- what the arc p adds to the joints of u with the group c; L: the nodes' labels -/
noncomputable def lk (F T L : Nat → Int) (u : Nat) (c : Int) (p : Nat) : Int := ind (F p = (u : Int) ∧ T p ≠ (u : Int) ∧ 0 ≤ T p ∧ L (T p).toNat = c) + ind (T p = (u : Int) ∧ F p ≠ (u : Int) ∧ 0 ≤ F p ∧ L (F p).toNat = c)
noncomputable def LKN (F T L : Nat → Int) (u : Nat) (c : Int) : Int := sm (lk F T L u c) 160
noncomputable def DG (F T : Nat → Int) (u : Nat) : Int := JD F T (Int32.ofInt (-1)) u
noncomputable def WTO (F T L : Nat → Int) (n u : Nat) (c : Int) : Int := sm (fun v => ind (v ≠ u ∧ L v = c) * DG F T v) n
noncomputable def WTA (F T L : Nat → Int) (n : Nat) (c : Int) : Int := sm (fun v => ind (L v = c) * DG F T v) n
noncomputable def MJ (F T : Nat → Int) : Int := sm (fun p => ind (F p ≠ T p)) 160
/-- what u gains in the group c -/
noncomputable def SCR (F T L : Nat → Int) (n u : Nat) (c : Int) : Int := 2 * MJ F T * LKN F T L u c - DG F T u * WTO F T L n u c
/-- the least label that nobody has -/
def FRL (L : Nat → Int) (n : Nat) (z : Int) : Prop := 0 ≤ z ∧ (∀ v, v < n → L v ≠ z) ∧ ∀ k : Int, 0 ≤ k → k < z → ∃ v, v < n ∧ L v = k
/-- the group a begins no later than the group b -/
def LOQ (L : Nat → Int) (n : Nat) (a b : Int) : Prop := ∀ x, x < n → L x = b → ∃ y, y ≤ x ∧ L y = a
/-- another group in which u has a neighbour -/
def NGB (B : Nat → Nat → Prop) (L : Nat → Int) (n u : Nat) (c : Int) : Prop := ∃ w, w < n ∧ B u w ∧ L w ≠ L u ∧ L w = c
/-- c is the best of the groups of which P holds -/
def BST (F T L : Nat → Int) (n u : Nat) (P : Int → Prop) (c : Int) : Prop := P c ∧ ∀ d, P d → SCR F T L n u d < SCR F T L n u c ∨ (SCR F T L n u d = SCR F T L n u c ∧ LOQ L n c d)
/-- where u goes -/
def BGQ (F T : Nat → Int) (B : Nat → Nat → Prop) (n : Nat) (L : Nat → Int) (u : Nat) (z : Int) : Prop :=
  (z = L u ∧ 0 ≤ SCR F T L n u (L u) ∧ ∀ c, NGB B L n u c → SCR F T L n u c ≤ SCR F T L n u (L u)) ∨
  (BST F T L n u (NGB B L n u) z ∧ SCR F T L n u (L u) < SCR F T L n u z ∧ 0 ≤ SCR F T L n u z) ∨
  (FRL L n z ∧ SCR F T L n u (L u) < 0 ∧ ∀ c, NGB B L n u c → SCR F T L n u c < 0)
def upk (L : Nat → Int) (k : Nat) (z : Int) : Nat → Int := fun v => if v = k then z else L v
def SWP (F T : Nat → Int) (B : Nat → Nat → Prop) (n : Nat) : Nat → (Nat → Int) → (Nat → Int) → Prop
  | 0, L, M => M = L
  | k + 1, L, M => ∃ (N : Nat → Int) (z : Int), SWP F T B n k L N ∧ BGQ F T B n N k z ∧ M = upk N k z
def ITR (F T : Nat → Int) (B : Nat → Nat → Prop) (n : Nat) : Nat → (Nat → Int) → (Nat → Int) → Prop
  | 0, L, M => M = L
  | r + 1, L, M => ∃ N : Nat → Int, SWP F T B n n L N ∧ ((N = L ∧ M = L) ∨ (N ≠ L ∧ ITR F T B n r N M))
def lbl (n : Nat) (f : Nat → Int32) : Nat → Int := fun v => if v < n then (f v).toInt else -1
def idl (n : Nat) : Nat → Int := fun v => if v < n then (v : Int) else -1
section GRP
variable {F T L M N : Nat → Int} {B : Nat → Nat → Prop} {n u v : Nat} {c d z : Int}
/-! sums -/
end GRP
/-! the class's state: homes, members, degrees, weights -/
def CGI (F T : Nat → Int) (n : Nat) (hm mb dg wt : Nat → Int32) : Prop := (∀ u, u < n → (dg u).toInt = DG F T u) ∧ (∀ c u : Nat, c < 32 → (bt (mb c) u = true ↔ (u < n ∧ (hm u).toInt = (c : Int)))) ∧ ∀ c : Nat, c < 32 → (∃ u, u < n ∧ (hm u).toInt = (c : Int)) → (wt c).toInt = WTA F T (lbl n hm) n (c : Int)
section GRQ
variable {F T L : Nat → Int} {B : Nat → Nat → Prop} {n : Nat} {hm mb dg wt f : Nat → Int32}
/-! how it begins -/
/-! links: the joints of u, group by group -/
/-! scores -/
/-! the search among the neighbours -/
end GRQ
/-! the reference: joints, degrees, joints of pairs -/
section GRR
variable {F T L : Nat → Int} {B : Nat → Nat → Prop} {n : Nat} {dg jo : Nat → Int32}
end GRR
section GRS
variable {F T L : Nat → Int} {B : Nat → Nat → Prop} {n u : Nat} {c : Int}
/-! the reference's search for the best group -/
end GRS
/-! what is answered -/
abbrev nG (g : GVW) : Nat := g.2.2.2.2.2.2.1.toNat
def GRF (g : GVW) (L : Nat → Int) : Prop := ITR (ARE g 0) (ARE g 1) (NBR g) (nG g) 20 (idl (nG g)) L
def GRG (g : GVW) (hm mb dg wt : Nat → Int32) (j : Int) : Prop := CGI (ARE g 0) (ARE g 1) (nG g) hm mb dg wt ∧ j = MJ (ARE g 0) (ARE g 1) ∧ GRF g (lbl (nG g) hm)
def GRQ (g : GVW) (s : GS) : Prop := (s.2.2.1 86 4).toInt = g.2.2.2.2.2.2.2 ∧ GRG g (s.1 89) (s.1 90) (s.1 91) (s.1 92) (s.2.2.1 86 5).toInt
/-! the gain -/
section GNC
variable {F T L : Nat → Int} {n : Nat}
end GNC
/-! the reference's answers -/
/-! small steps -/
theorem mji_y {F T : Nat → Int} {m k : Nat} {y z : Int} (h : y = sm (fun p => ind (F p ≠ T p)) m) (ne : F m ≠ T m) (hz : z = y + 1) (hk : k = m + 1) : z = sm (fun p => ind (F p ≠ T p)) k := by
  subst hk
  rw [sm_s, ind_y ne, ← h]
  exact hz
theorem mji_n {F T : Nat → Int} {m k : Nat} {y : Int} (h : y = sm (fun p => ind (F p ≠ T p)) m) (e : F m = T m) (hk : k = m + 1) : y = sm (fun p => ind (F p ≠ T p)) k := by
  subst hk
  rw [sm_s, ind_n (fun z => z e), ← h]
  omega
theorem mji_e {F T : Nat → Int} {m : Nat} {y : Int} (h : y = sm (fun p => ind (F p ≠ T p)) m) (hm : m ≤ 160) (ht : ∀ p, m ≤ p → p < 160 → F p = T p) : y = MJ F T := by
  unfold MJ
  rw [h, sm_top 160 hm (fun k a b => ind_n (fun z => z (ht k a b)))]
end
section
/-! SIZES -/
noncomputable def CT9 (g : GVW) : Int := sm (fun p => ind (ARE g 0 p ≠ -1)) 160
def LT9 (F : Nat → Int) (m : Nat) (z : Int) : Prop := (z = -1 ∧ ∀ p, p < m → F p = -1) ∨ (∃ p : Nat, p < m ∧ F p ≠ -1 ∧ z = (p : Int) ∧ ∀ q, q < m → F q ≠ -1 → q ≤ p)
def SZV (g : GVW) (w z : Int) : Prop := (w = 0 → z = g.2.2.2.2.2.2.1) ∧ (w = 1 → z = CT9 g) ∧ (w = 2 → z = MJ (ARE g 0) (ARE g 1)) ∧ (w = 3 → LT9 (ARE g 0) 160 z)
theorem ct9_y {F : Nat → Int} {m k : Nat} {y z : Int} (h : y = sm (fun p => ind (F p ≠ -1)) m) (ne : F m ≠ -1) (hz : z = y + 1) (hk : k = m + 1) : z = sm (fun p => ind (F p ≠ -1)) k := by
  rw [hk, sm_s, ← h, ind_y ne, hz]
theorem ct9_n {F : Nat → Int} {m k : Nat} {y z : Int} (h : y = sm (fun p => ind (F p ≠ -1)) m) (e : F m = -1) (hz : z = y) (hk : k = m + 1) : z = sm (fun p => ind (F p ≠ -1)) k := by
  rw [hk, sm_s, ← h, ind_n (fun z => z e), hz, Int.add_zero]
theorem lt9_0 {F : Nat → Int} {z : Int} (h : z = -1) : LT9 F 0 z := Or.inl ⟨h, fun p hp => absurd hp (Nat.not_lt_zero _)⟩
theorem lt9_n {F : Nat → Int} {m k : Nat} {z : Int} (h : LT9 F m z) (e : F m = -1) (hk : k = m + 1) : LT9 F k z := by
  subst hk
  rcases h with ⟨a, b⟩ | ⟨p, a, b, c, d⟩
  · refine Or.inl ⟨a, fun p hp => ?_⟩
    by_cases q : p = m
    · rw [q]; exact e
    · exact b p (by omega)
  · refine Or.inr ⟨p, by omega, b, c, fun q hq hn => ?_⟩
    by_cases r : q = m
    · rw [r] at hn; exact absurd e hn
    · exact d q (by omega) hn
theorem lt9_y {F : Nat → Int} {m k : Nat} {y z : Int} (ne : F m ≠ -1) (hz : z = (m : Int)) (hk : k = m + 1) : LT9 F k z := by
  subst hk
  exact Or.inr ⟨m, by omega, ne, hz, fun q hq _ => by omega⟩
theorem lt9_u {F T : Nat → Int} (h : ∀ p, p < 160 → F p = T p) {y z : Int} (a : LT9 F 160 y) (b : LT9 T 160 z) : y = z := by
  rcases a with ⟨a1, a2⟩ | ⟨p, a1, a2, a3, a4⟩
  · rcases b with ⟨b1, b2⟩ | ⟨q, b1, b2, b3, b4⟩
    · rw [a1, b1]
    · exact absurd ((h q b1).symm.trans (a2 q b1)) b2
  · rcases b with ⟨b1, b2⟩ | ⟨q, b1, b2, b3, b4⟩
    · exact absurd ((h p a1).trans (b2 p a1)) a2
    · have c := b4 p a1 (by rw [← h p a1]; exact a2)
      have d := a4 q b1 (by rw [h q b1]; exact b2)
      omega
theorem szv_u {g h : GVW} (q : GEW g h) {w y z : Int} (hw : 0 ≤ w ∧ w ≤ 3) (a : SZV g w y) (b : SZV h w z) : y = z := by
  obtain ⟨a0, a1, a2, a3⟩ := a
  obtain ⟨b0, b1, b2, b3⟩ := b
  by_cases c0 : w = 0
  · rw [a0 c0, b0 c0]
    exact q.2.2.2
  · by_cases c1 : w = 1
    · rw [a1 c1, b1 c1]
      exact sm_eq 160 (fun p hp => by rw [are_e q hp])
    · by_cases c2 : w = 2
      · rw [a2 c2, b2 c2]
        exact sm_eq 160 (fun p hp => by rw [are_e q hp, are_e q hp])
      · exact lt9_u (fun p hp => are_e q hp) (a3 (by omega)) (b3 (by omega))
/-- the class's greatest place: below top -/
theorem lt9_c {g : GVW} {t : Int32} {z : Int} (hq : ∀ p : Nat, p < 160 → (g.2.1 p).toInt ≠ -1 → (p : Int) < t.toInt) (hx : TP9 g.2.1 t) (h0 : 0 ≤ t.toInt ∧ t.toInt ≤ 160) (hz : z = t.toInt - 1) : LT9 (ARE g 0) 160 z := by
  have e : ∀ p, p < 160 → ARE g 0 p = (g.2.1 p).toInt := fun p hp => are_f hp rfl
  by_cases c : 0 < t.toInt
  · refine Or.inr ⟨(t.toInt - 1).toNat, by omega, by rw [e _ (by omega)]; exact hx c, by omega, fun q hp hn => ?_⟩
    have := hq q hp (by rw [← e q hp]; exact hn)
    omega
  · refine Or.inl ⟨by omega, fun p hp => ?_⟩
    exact Classical.byContradiction fun hn => by
      have := hq p hp (by rw [← e p hp]; exact hn)
      omega
/-- arcs and tops of both graphs of the class -/
def SZC (s : GS) : Prop := ((s.2.2.1 2 2).toInt = CT9 (gvC s) ∧ TP9 (s.1 4) (s.2.2.1 2 3)) ∧ (s.2.2.1 32 2).toInt = CT9 (gvD s) ∧ TP9 (s.1 34) (s.2.2.1 32 3)
def SZR (s t : GS) (x z : Int32) : Prop := ((t.2.2.1 109 0).toInt = 1 ∧ ¬ In x 0 3) ∨ ((t.2.2.1 109 0).toInt = 0 ∧ In x 0 3 ∧ SZV (gvZ s) x.toInt z.toInt)
/-- arcs counted by the log -/
theorem ct9_f (g : GVW) : CT9 g = sm (fun p => ind ((g.2.1 p).toInt ≠ -1)) 160 := sm_eq 160 (fun p hp => by rw [are_f hp rfl])
theorem ct9_v {g h : GVW} (q : ∀ i, i < 160 → g.2.1 i = h.2.1 i) : CT9 g = CT9 h := by
  rw [ct9_f, ct9_f]
  exact sm_eq 160 (fun p hp => by rw [q p hp])
theorem ct9_up {f : Nat → Int32} {p : Nat} {a : Int32} (hp : p < 160) (h : (f p).toInt = -1) (ha : a.toInt ≠ -1) : sm (fun i => ind ((upd f p a i).toInt ≠ -1)) 160 = sm (fun i => ind ((f i).toInt ≠ -1)) 160 + 1 := by
  refine sm_one (u := p) 160 hp (fun k hk hne => ?_) ?_
  · show ind ((upd f p a k).toInt ≠ -1) = ind ((f k).toInt ≠ -1)
    rw [ug_ne hne]
  · show ind ((upd f p a p).toInt ≠ -1) = ind ((f p).toInt ≠ -1) + 1
    rw [ug_at, ind_y ha, ind_n (fun z => z h)]; rfl
theorem ct9_dn {f : Nat → Int32} {p : Nat} (hp : p < 160) (h : (f p).toInt ≠ -1) : sm (fun i => ind ((upd f p (Int32.ofInt (-1)) i).toInt ≠ -1)) 160 = sm (fun i => ind ((f i).toInt ≠ -1)) 160 + -1 := by
  refine sm_one (u := p) 160 hp (fun k hk hne => ?_) ?_
  · show ind ((upd f p (Int32.ofInt (-1)) k).toInt ≠ -1) = ind ((f k).toInt ≠ -1)
    rw [ug_ne hne]
  · show ind ((upd f p (Int32.ofInt (-1)) p).toInt ≠ -1) = ind ((f p).toInt ≠ -1) + -1
    rw [ug_at, ind_n (fun z => z rfl), ind_y h]; rfl
theorem ct9_r {g : GVW} {r : Nat → Int32} {k : Nat} (hw : RW7 r k) (l9 : (((r (7 * k)).toInt = 1 → (r (7 * k + 1)).toNatClampNeg < 160 ∧ (g.2.1 (r (7 * k + 1)).toNatClampNeg).toInt = -1) ∧ ((r (7 * k)).toInt = 2 → (r (7 * k + 1)).toNatClampNeg < 160 ∧ (g.2.1 (r (7 * k + 1)).toNatClampNeg).toInt ≠ -1))) : CT9 (gqR g r k) = CT9 g + dd7 (r (7 * k)) := by
  rw [ct9_f, ct9_f]
  unfold gqR
  by_cases c1 : (r (7 * k)).toInt = 1
  · rw [if_pos c1, dd7_1 c1]
    unfold RW7 at hw
    rw [if_neg (by omega), if_pos c1] at hw
    have ha : (r (7 * k + 2)).toInt ≠ -1 := by
      have := hw.2.1.1
      omega
    exact ct9_up (l9.1 c1).1 (l9.1 c1).2 ha
  · rw [if_neg c1]
    unfold gqP
    by_cases c2 : (r (7 * k)).toInt = 2
    · rw [dd7_2 c2, if_neg (by omega), if_pos c2]
      exact ct9_dn (l9.2 c2).1 (l9.2 c2).2
    · rw [dd7_n c1 c2, Int.add_zero]
      by_cases c0 : (r (7 * k)).toInt = 0
      · rw [if_pos c0]; rfl
      · rw [if_neg c0, if_neg c2]
        by_cases c3 : (r (7 * k)).toInt = 3
        · rw [if_pos c3]; rfl
        · rw [if_neg c3]; rfl
theorem ct9_his {s : GS} {H : Nat → GVW} (hK : KL s) (h : HIS s H) : ∀ k : Nat, (k : Int) ≤ (s.2.2.1 2 0).toInt → CT9 (H k) = ca7 (s.1 30) k
  | 0, _ => by
    rw [ct9_f]
    exact sm_0 160 (fun p hp => ind_n (fun z => z (h.1.1 p hp)))
  | k + 1, hk => by
    have hk2 : (k : Int) < (s.2.2.1 2 0).toInt := by omega
    obtain ⟨a, -, -, -, e⟩ := h.2 k hk2
    rw [ct9_v a.2.1, ct9_r (hK.1 k hk2) e, ct9_his hK h k (by omega)]
    rfl
theorem szc_of {s : GS} {H : Nat → GVW} (hK : KL s) (h1 : HIS s H) (h2 : GEV (H (s.2.2.1 2 0).toInt.toNat) (gvC s)) (h3 : SHW s H) : SZC s := by
  have a := h3.2.1
  have b := h3.2.2.1
  obtain ⟨k2, k32⟩ := hK.2.2.2
  exact ⟨⟨k2.2.2.1.trans ((ct9_his hK h1 _ (by omega)).symm.trans (ct9_v h2.2.1)), k2.2.2.2⟩, k32.2.2.1.trans ((ct9_his hK h1 _ (by omega)).symm.trans (ct9_v h3.1.2.1).symm), k32.2.2.2⟩
end
