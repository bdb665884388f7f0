section
/-! SORTING -/
theorem cn_up {F G : Nat → Int} {i : Nat} {v : Int} (hn : ∀ k, k ≠ i → G k = F k) : ∀ n : Nat, (n ≤ i → cn G v n = cn F v n) ∧ (i < n → cn G v n + (if F i = v then 1 else 0) = cn F v n + (if G i = v then 1 else 0))
  | 0 => ⟨fun _ => rfl, fun h => absurd h (Nat.not_lt_zero i)⟩
  | n + 1 => by
    have ih := cn_up (v := v) hn n
    have st : ∀ H : Nat → Int, cn H v (n + 1) = cn H v n + (if H n = v then 1 else 0) := fun H => by
      by_cases c : H n = v
      · rw [cn_hit c, if_pos c]
      · rw [cn_miss c, if_neg c]; omega
    refine ⟨fun h => ?_, fun h => ?_⟩
    · rw [st G, st F, hn n (by omega), ih.1 (by omega)]
    · by_cases c : n = i
      · rw [st G, st F, ih.1 (by omega), c]; omega
      · have q := ih.2 (by omega)
        rw [st G, st F, hn n c]; omega
theorem cn_sw {F G : Nat → Int} {i j n : Nat} {v : Int} (hi : i < n) (hj : j < n) (gi : G i = F j) (gj : G j = F i) (ho : ∀ k, k ≠ i → k ≠ j → G k = F k) : cn G v n = cn F v n := by
  by_cases e : i = j
  · subst e
    exact cn_eq n (fun k _ => by
      by_cases c : k = i
      · rw [c]; exact gi
      · exact ho k c c)
  · have h1 := (cn_up (F := F) (G := fun k => if k = i then F j else F k) (i := i) (v := v) (fun k hk => if_neg hk) n).2 hi
    have h2 := (cn_up (F := fun k => if k = i then F j else F k) (G := G) (i := j) (v := v) (fun k hk => by
      by_cases c : k = i
      · rw [if_pos c, c]; exact gi
      · rw [if_neg c]; exact ho k c hk) n).2 hj
    have e1 : (if i = i then F j else F i) = F j := if_pos rfl
    have e2 : (if j = i then F j else F j) = F j := by split <;> rfl
    rw [e1] at h1
    rw [e2, gj] at h2
    omega
theorem cn_ab {F : Nat → Int} {v : Int} {k : Nat} : ∀ m : Nat, (∀ i, k ≤ i → i < k + m → F i ≠ v) → cn F v (k + m) = cn F v k
  | 0, _ => rfl
  | m + 1, h => by
    show cn F v (k + m + 1) = _
    rw [cn_miss (h (k + m) (by omega) (by omega))]
    exact cn_ab m (fun i a b => h i a (by omega))
def SRT (F : Nat → Int) (n : Nat) : Prop := ∀ p q : Nat, p < q → q < n → F p ≤ F q
/-- two sorted rows of the same values are the same -/
theorem srt_l {F G : Nat → Int} {n k : Nat} (hp : ∀ v, cn F v n = cn G v n) (hG : SRT G n) (hk : k < n) (hb : ∀ i, i < k → F i = G i) (hl : F k < G k) : False := by
  have a : cn G (F k) n = cn G (F k) k := by
    obtain ⟨m, rfl⟩ := Nat.exists_eq_add_of_le (Nat.le_of_lt hk)
    refine cn_ab m (fun i h1 h2 e => ?_)
    by_cases c : i = k
    · rw [c] at e; omega
    · have := hG k i (by omega) h2; omega
  have b : cn F (F k) k = cn G (F k) k := cn_eq k (fun i hi => hb i hi)
  have c : cn F (F k) (k + 1) = cn F (F k) k + 1 := cn_hit rfl
  have d := cn_mono F (F k) (show k + 1 ≤ n by omega)
  have e := hp (F k)
  omega
theorem srt_u {F G : Nat → Int} {n : Nat} (hp : ∀ v, cn F v n = cn G v n) (hF : SRT F n) (hG : SRT G n) : ∀ k, k < n → F k = G k := by
  intro k
  induction k using Nat.strongRecOn with
  | ind k ih =>
    intro hk
    rcases Int.lt_trichotomy (F k) (G k) with c | c | c
    · exact (srt_l hp hG hk (fun i hi => ih i hi (by omega)) c).elim
    · exact c
    · exact (srt_l (fun v => (hp v).symm) hF hk (fun i hi => (ih i hi (by omega)).symm) c).elim
/-! a value is put in, with a gap -/
def kvl (f : Nat → Int64) (k : Nat) : Int := (f k).toInt
def PRM (f g : Nat → Int64) (n : Nat) : Prop := ∀ v : Int, cn (kvl f) v n = cn (kvl g) v n
section INS
variable {f f0 : Nat → Int64} {n i j g : Nat} {key z : Int64}
theorem prm_r : PRM f f n := fun _ => rfl
theorem prm_t {h : Nat → Int64} (a : PRM f f0 n) (b : PRM f0 h n) : PRM f h n := fun v => (a v).trans (b v)
theorem vp_at {x : Int64} : vp_updL f j x j = x := if_pos rfl
theorem vp_ne {k : Nat} {x : Int64} (h : k ≠ j) : vp_updL f j x k = f k := if_neg h
theorem hol_0 (h : key = f i) : PRM (vp_updL f i key) f n := fun v => cn_eq n (fun k _ => by
  show (vp_updL f i key k).toInt = (f k).toInt
  by_cases c : k = i
  · rw [c, vp_at, h]
  · rw [vp_ne c])
theorem hol_s (h : PRM (vp_updL f j key) f0 n) (hj : j < n) (hi : i < n) (hij : i ≠ j) (hz : z = f i) : PRM (vp_updL (vp_updL f j z) i key) f0 n := fun v => by
  rw [← h v]
  refine cn_sw hi hj ?_ ?_ (fun k a b => ?_)
  · show (vp_updL (vp_updL f j z) i key i).toInt = (vp_updL f j key j).toInt
    rw [vp_at, vp_at]
  · show (vp_updL (vp_updL f j z) i key j).toInt = (vp_updL f j key i).toInt
    rw [vp_ne (fun e => hij e.symm), vp_at, vp_ne hij, hz]
  · show (vp_updL (vp_updL f j z) i key k).toInt = (vp_updL f j key k).toInt
    rw [vp_ne a, vp_ne b, vp_ne b]
/-- gap 1: the first i are sorted; while the i-th is put in, its place is j -/
def IN2 (f : Nat → Int64) (i j : Nat) (key : Int64) : Prop := (∀ p q : Nat, p < q → q ≤ i → p ≠ j → q ≠ j → (f p).toInt ≤ (f q).toInt) ∧ (∀ p : Nat, j < p → p ≤ i → key.toInt < (f p).toInt) ∧ j ≤ i
theorem in2_0 (h : SRT (kvl f) i) : IN2 f i i key := ⟨fun p q a b c d => h p q a (by omega), fun p a b => by omega, Nat.le_refl _⟩
theorem in2_s (h : IN2 f i (j + 1) key) (hz : z = f j) (hk : key.toInt < z.toInt) : IN2 (vp_updL f (j + 1) z) i j key := by
  obtain ⟨h1, h2, h3⟩ := h
  refine ⟨fun p q a b c d => ?_, fun p a b => ?_, by omega⟩
  · by_cases e : p = j + 1
    · rw [e, vp_at, vp_ne (by omega), hz]
      exact h1 j q (by omega) b (by omega) (by omega)
    · rw [vp_ne e]
      by_cases e2 : q = j + 1
      · rw [e2, vp_at, hz]
        exact h1 p j (by omega) (by omega) e (by omega)
      · rw [vp_ne e2]
        exact h1 p q a b e e2
  · by_cases e : p = j + 1
    · rw [e, vp_at]; exact hk
    · rw [vp_ne e]
      exact h2 p (by omega) b
theorem in2_e (h : IN2 f i j key) (hl : ∀ p : Nat, p + 1 = j → (f p).toInt ≤ key.toInt) : SRT (kvl (vp_updL f j key)) (i + 1) := by
  obtain ⟨h1, h2, h3⟩ := h
  intro p q a b
  show (vp_updL f j key p).toInt ≤ (vp_updL f j key q).toInt
  by_cases e : p = j
  · rw [e, vp_at, vp_ne (by omega)]
    exact Int.le_of_lt (h2 q (by omega) (by omega))
  · rw [vp_ne e]
    by_cases e2 : q = j
    · rw [e2, vp_at]
      have l := hl (j - 1) (by omega)
      by_cases e3 : p = j - 1
      · rw [e3]; exact l
      · have := h1 p (j - 1) (by omega) (by omega) e (by omega)
        omega
    · rw [vp_ne e2]
      exact h1 p q a (by omega) e e2
end INS

theorem sL_w {s : GS} {q j : Nat} {v : Int64} : (sL s q j v).2.1 q = vp_updL (s.2.1 q) j v := by simp [sL]
/-! the gaps -/
def GPS (g : Int) : Prop := g = 0 ∨ g = 1 ∨ g = 4 ∨ g = 13 ∨ g = 40 ∨ g = 121 ∨ g = 364 ∨ g = 1093
theorem gps_3 {g z : Int} (h : GPS g) (h0 : 0 < g) (hl : g < 700) (hz : z = 3 * g + 1) : GPS z := by
  unfold GPS at *
  omega
theorem gps_d {g z : Int} (h : GPS g) (hz : z = g / 3) : GPS z ∧ (z = 0 → g = 0 ∨ g = 1) := by
  unfold GPS at *
  omega
theorem srt_m {F : Nat → Int} {n m : Nat} (h : SRT F n) (hm : m ≤ n) : SRT F m := fun p q a b => h p q a (by omega)
theorem srt_1 {F : Nat → Int} {n : Nat} (h : n ≤ 1) : SRT F n := fun p q a b => by omega
/-! two sorted pieces become one -/
section MRG
variable {V : Int → Int} {F M G : Nat → Int} {fs hf en a b k n sz : Nat} {x : Int}
/-- sorted by V from p to q -/
def SRV (V : Int → Int) (F : Nat → Int) (p q : Nat) : Prop := ∀ i j : Nat, p ≤ i → i < j → j < q → V (F i) ≤ V (F j)
/-- how often v stands from p to q -/
def cnr (F : Nat → Int) (v : Int) (p q : Nat) : Int := cn F v q - cn F v p
theorem cnr_s {v : Int} (h : fs ≤ k) : cnr F v fs (k + 1) = cnr F v fs k + (if F k = v then 1 else 0) := by
  unfold cnr
  by_cases c : F k = v
  · rw [cn_hit c, if_pos c]; omega
  · rw [cn_miss c, if_neg c]; omega
theorem cnr_0 {v : Int} : cnr F v k k = 0 := by unfold cnr; omega
theorem cnr_cg {v : Int} (hk : fs ≤ k) (h : ∀ i, fs ≤ i → i < k → F i = G i) : cnr F v fs k = cnr G v fs k := by
  obtain ⟨m, rfl⟩ := Nat.exists_eq_add_of_le hk
  clear hk
  induction m with
  | zero => rw [Nat.add_zero, cnr_0, cnr_0]
  | succ m ih =>
    have e := ih (fun i p q => h i p (by omega))
    show cnr F v fs (fs + m + 1) = cnr G v fs (fs + m + 1)
    rw [cnr_s (by omega), cnr_s (by omega), e, h (fs + m) (by omega) (by omega)]
/-- M from fs to k: what F has from fs to a and from hf to b, in order; nothing that is left is smaller -/
def MRI (V : Int → Int) (F M : Nat → Int) (fs hf en a b k : Nat) : Prop := (∀ v, cnr M v fs k = cnr F v fs a + cnr F v hf b) ∧ SRV V M fs k ∧ (∀ i j : Nat, fs ≤ i → i < k → a ≤ j → j < hf → V (M i) ≤ V (F j)) ∧ (∀ i j : Nat, fs ≤ i → i < k → b ≤ j → j < en → V (M i) ≤ V (F j))
theorem mri_0 : MRI V F M fs hf en fs hf fs := ⟨fun v => by rw [cnr_0, cnr_0, cnr_0]; rfl, fun i j p q r => by omega, fun i j p q => by omega, fun i j p q => by omega⟩
theorem mri_p {N : Nat → Int} (h : MRI V F M fs hf en a b k) (hk : fs ≤ k) (hN : N k = x) (ho : ∀ i, i ≠ k → N i = M i) (hx : ∀ i : Nat, fs ≤ i → i < k → V (M i) ≤ V x) : SRV V N fs (k + 1) := fun i j p q r => by
  by_cases e : j = k
  · rw [e, hN, ho i (by omega)]; exact hx i p (by omega)
  · rw [ho i (by omega), ho j e]; exact h.2.1 i j p q (by omega)
theorem mri_a {N : Nat → Int} (h : MRI V F M fs hf en a b k) (hk : fs ≤ k) (ha : fs ≤ a) (hah : a < hf) (hs : SRV V F fs hf) (hN : N k = F a) (ho : ∀ i, i ≠ k → N i = M i) (hb : ∀ j : Nat, b ≤ j → j < en → V (F a) ≤ V (F j)) : MRI V F N fs hf en (a + 1) b (k + 1) := by
  have cg : ∀ v, cnr N v fs k = cnr M v fs k := fun v => cnr_cg hk (fun i p q => ho i (by omega))
  refine ⟨fun v => ?_, mri_p h hk hN ho (fun i p q => h.2.2.1 i a p q (Nat.le_refl _) hah), fun i j p q r t => ?_, fun i j p q r t => ?_⟩
  · rw [cnr_s hk, cnr_s ha, cg v, h.1 v, hN]; omega
  · by_cases e : i = k
    · rw [e, hN]; exact hs a j ha (by omega) t
    · rw [ho i e]; exact h.2.2.1 i j p (by omega) (by omega) t
  · by_cases e : i = k
    · rw [e, hN]; exact hb j r t
    · rw [ho i e]; exact h.2.2.2 i j p (by omega) r t
theorem mri_b {N : Nat → Int} (h : MRI V F M fs hf en a b k) (hk : fs ≤ k) (hb : hf ≤ b) (hbe : b < en) (hs : SRV V F hf en) (hN : N k = F b) (ho : ∀ i, i ≠ k → N i = M i) (ha : ∀ j : Nat, a ≤ j → j < hf → V (F b) ≤ V (F j)) : MRI V F N fs hf en a (b + 1) (k + 1) := by
  have cg : ∀ v, cnr N v fs k = cnr M v fs k := fun v => cnr_cg hk (fun i p q => ho i (by omega))
  refine ⟨fun v => ?_, mri_p h hk hN ho (fun i p q => h.2.2.2 i b p q (Nat.le_refl _) hbe), fun i j p q r t => ?_, fun i j p q r t => ?_⟩
  · rw [cnr_s hk, cnr_s hb, cg v, h.1 v, hN]; omega
  · by_cases e : i = k
    · rw [e, hN]; exact ha j r t
    · rw [ho i e]; exact h.2.2.1 i j p (by omega) r t
  · by_cases e : i = k
    · rw [e, hN]; exact hs b j hb (by omega) t
    · rw [ho i e]; exact h.2.2.2 i j p (by omega) (by omega) t
/-- pieces of sz are sorted -/
def BLS (V : Int → Int) (F : Nat → Int) (sz n : Nat) : Prop := ∀ m : Nat, SRV V F (m * sz) (min ((m + 1) * sz) n)
theorem bls_1 (n : Nat) : BLS V F 1 n := fun m i j p q r => by
  have : min ((m + 1) * 1) n ≤ m + 1 := by omega
  omega
theorem bls_e (h : BLS V F sz n) (hn : n ≤ sz) : SRV V F 0 n := fun i j p q r => h 0 i j (by omega) q (by
  have : min ((0 + 1) * sz) n = n := by rw [Nat.zero_add, Nat.one_mul]; omega
  omega)
/-- what is merged so far: pieces of twice the size, the same values -/
def MGB (V : Int → Int) (F M : Nat → Int) (sz n m : Nat) : Prop := (∀ q, q < m → SRV V M (q * (2 * sz)) (min ((q + 1) * (2 * sz)) n)) ∧ ∀ v, cn M v (min (m * (2 * sz)) n) = cn F v (min (m * (2 * sz)) n)
theorem mgb_0 : MGB V F M sz n 0 := ⟨fun q hq => by omega, fun v => by rw [Nat.zero_mul, Nat.zero_min]; rfl⟩
end MRG

section MG2
variable {V : Int → Int} {F M N : Nat → Int} {fs hf en n sz m : Nat}
theorem srv_cg {p q : Nat} (h : SRV V M p q) (e : ∀ i, p ≤ i → i < q → N i = M i) : SRV V N p q := fun i j a b c => by
  rw [e i a (by omega), e j (by omega) c]
  exact h i j a b c
theorem mgb_s (h : MGB V F M sz n m) (hfs : fs = m * (2 * sz)) (hfn : fs < n) (hhf : hf = min (fs + sz) n) (hen : en = min (fs + 2 * sz) n) (hN : ∀ i, i < fs → N i = M i) (hm : MRI V F N fs hf en hf en en) : MGB V F N sz n (m + 1) := by
  have e1 : (m + 1) * (2 * sz) = fs + 2 * sz := by rw [Nat.succ_mul, hfs]
  have e2 : min (m * (2 * sz)) n = fs := by rw [← hfs]; omega
  refine ⟨fun q hq => ?_, fun v => ?_⟩
  · by_cases c : q = m
    · rw [c, e1, ← hfs, ← hen]
      exact hm.2.1
    · have k : (q + 1) * (2 * sz) ≤ m * (2 * sz) := Nat.mul_le_mul_right _ (by omega)
      exact srv_cg (h.1 q (by omega)) (fun i a b => hN i (by omega))
  · rw [e1, ← hen]
    have a := hm.1 v
    have b : cn N v fs = cn M v fs := cn_eq fs (fun i hi => hN i hi)
    have c := h.2 v
    rw [e2] at c
    unfold cnr at a
    omega
theorem mgb_e (h : MGB V F M sz n m) (hm : n ≤ m * (2 * sz)) : BLS V M (2 * sz) n ∧ ∀ v, cn M v n = cn F v n := by
  refine ⟨fun q => ?_, fun v => ?_⟩
  · by_cases c : q < m
    · exact h.1 q c
    · have k : m * (2 * sz) ≤ q * (2 * sz) := Nat.mul_le_mul_right _ (by omega)
      exact fun i j a b d => by omega
  · have c := h.2 v
    rw [show min (m * (2 * sz)) n = n by omega] at c
    exact c
theorem bls_h (h : BLS V F sz n) (hfs : fs = m * (2 * sz)) (hhf : hf = min (fs + sz) n) (hen : en = min (fs + 2 * sz) n) : SRV V F fs hf ∧ SRV V F hf en := by
  have e1 : (2 * m) * sz = fs := by rw [hfs, Nat.mul_comm 2 m, Nat.mul_assoc]
  have e2 : (2 * m + 1) * sz = fs + sz := by rw [Nat.succ_mul, e1]
  have e3 : (2 * m + 1 + 1) * sz = fs + 2 * sz := by rw [Nat.succ_mul, e2]; omega
  have a := h (2 * m)
  have b := h (2 * m + 1)
  rw [e1, e2, ← hhf] at a
  rw [e2, e3, ← hen] at b
  refine ⟨a, fun i j p q r => ?_⟩
  by_cases c : fs + sz ≤ n
  · exact b i j (by omega) q r
  · omega
end MG2

/-! which way is before which -/
def shE (s : GS) (x i : Nat) : Int := (s.1 134 (5 * x + i)).toInt
def shW (s : GS) (x : Nat) : Int := (s.2.1 135 x).toInt
def KYV (s : GS) (x : Int) : Int := shW s x.toNat * 34359738368 + shE s x.toNat 0 * 4294967296 + shE s x.toNat 1 * 16777216 + shE s x.toNat 2 * 65536 + shE s x.toNat 3 * 256 + shE s x.toNat 4
/-- a way of one to four arcs, nothing behind them -/
def SOK (s : GS) (x : Nat) : Prop := (1 ≤ shE s x 0 ∧ shE s x 0 ≤ 4) ∧ ∀ i : Nat, i ≤ 4 → shE s x 0 < (i : Int) → shE s x i = 0
def SHQR (s : GS) (x : Nat) : Prop := ∀ i : Nat, i ≤ 4 → 0 ≤ shE s x i ∧ shE s x i ≤ 159
section KY
variable {s : GS} {x y : Int32}
theorem shr_i (hI : Inv s) (h : In x 0 2000) : SHQR s x.toInt.toNat := fun i hi => by
  have a := h.1
  have b := h.2
  exact hI.1.1 134 (5 * x.toInt.toNat + i) (by show 5 * x.toInt.toNat + i < 10005; omega)
theorem kyv_w (hx : SHQR s x.toInt.toNat) (hy : SHQR s y.toInt.toNat) (ox : SOK s x.toInt.toNat) (oy : SOK s y.toInt.toNat) (h : shW s x.toInt.toNat < shW s y.toInt.toNat) : KYV s x.toInt < KYV s y.toInt := by
  have a1 := hx 1 (by omega); have a2 := hx 2 (by omega); have a3 := hx 3 (by omega); have a4 := hx 4 (by omega)
  have b1 := hy 1 (by omega); have b2 := hy 2 (by omega); have b3 := hy 3 (by omega); have b4 := hy 4 (by omega)
  have a0 := ox.1; have b0 := oy.1
  unfold KYV
  omega
theorem kyv_l (hx : SHQR s x.toInt.toNat) (hy : SHQR s y.toInt.toNat) (hw : shW s x.toInt.toNat = shW s y.toInt.toNat) (h : shE s x.toInt.toNat 0 < shE s y.toInt.toNat 0) : KYV s x.toInt < KYV s y.toInt := by
  have a1 := hx 1 (by omega); have a2 := hx 2 (by omega); have a3 := hx 3 (by omega); have a4 := hx 4 (by omega)
  have b1 := hy 1 (by omega); have b2 := hy 2 (by omega); have b3 := hy 3 (by omega); have b4 := hy 4 (by omega)
  unfold KYV
  omega
theorem kyv_i {i : Nat} (hx : SHQR s x.toInt.toNat) (hy : SHQR s y.toInt.toNat) (hw : shW s x.toInt.toNat = shW s y.toInt.toNat) (h0 : shE s x.toInt.toNat 0 = shE s y.toInt.toNat 0) (i1 : 1 ≤ i) (i4 : i ≤ 4) (hj : ∀ j : Nat, 1 ≤ j → j < i → shE s x.toInt.toNat j = shE s y.toInt.toNat j) (h : shE s x.toInt.toNat i < shE s y.toInt.toNat i) : KYV s x.toInt < KYV s y.toInt := by
  have a1 := hx 1 (by omega); have a2 := hx 2 (by omega); have a3 := hx 3 (by omega); have a4 := hx 4 (by omega)
  have b1 := hy 1 (by omega); have b2 := hy 2 (by omega); have b3 := hy 3 (by omega); have b4 := hy 4 (by omega)
  unfold KYV
  match i, i1, i4, hj, h with
  | 0, i1, _, _, _ => omega
  | 1, _, _, _, h => omega
  | 2, _, _, hj, h => have c1 := hj 1 (by omega) (by omega); omega
  | 3, _, _, hj, h => have c1 := hj 1 (by omega) (by omega); have c2 := hj 2 (by omega) (by omega); omega
  | 4, _, _, hj, h => have c1 := hj 1 (by omega) (by omega); have c2 := hj 2 (by omega) (by omega); have c3 := hj 3 (by omega) (by omega); omega
  | k + 5, _, i4, _, _ => omega
theorem kyv_e {i : Int} (ox : SOK s x.toInt.toNat) (oy : SOK s y.toInt.toNat) (hw : shW s x.toInt.toNat = shW s y.toInt.toNat) (h0 : shE s x.toInt.toNat 0 = shE s y.toInt.toNat 0) (hi : shE s x.toInt.toNat 0 < i) (hj : ∀ j : Nat, 1 ≤ j → (j : Int) < i → shE s x.toInt.toNat j = shE s y.toInt.toNat j) : KYV s x.toInt = KYV s y.toInt := by
  have e : ∀ j : Nat, 1 ≤ j → j ≤ 4 → shE s x.toInt.toNat j = shE s y.toInt.toNat j := fun j h1 h4 => by
    by_cases c : (j : Int) < i
    · exact hj j h1 c
    · rw [ox.2 j h4 (by omega), oy.2 j h4 (by omega)]
  have e1 := e 1 (by omega) (by omega)
  have e2 := e 2 (by omega) (by omega)
  have e3 := e 3 (by omega) (by omega)
  have e4 := e 4 (by omega) (by omega)
  unfold KYV
  omega
theorem iff_y {z : Int32} {P : Prop} (hz : z.toInt ≠ 0) (h : P) : z.toInt ≠ 0 ↔ P := ⟨fun _ => h, fun _ => hz⟩
theorem iff_n {z : Int32} {P : Prop} (hz : z.toInt = 0) (h : ¬ P) : z.toInt ≠ 0 ↔ P := ⟨fun k => absurd hz k, fun k => absurd k h⟩
end KY

/-! rows of places -/
def oi (f : Nat → Int32) (k : Nat) : Int := (f k).toInt
def PRI (f : Nat → Int32) (n : Nat) : Prop := ∀ v : Int, cn (oi f) v n = cn (fun k => (k : Int)) v n
def RNO (f : Nat → Int32) (n : Nat) : Prop := ∀ k : Nat, k < n → 0 ≤ (f k).toInt ∧ (f k).toInt < (n : Int)
def SOA (s : GS) : Prop := ∀ x : Nat, (x : Int) < (s.2.2.1 109 40).toInt → SOK s x
section OI
variable {s t : GS} {f g : Nat → Int32} {n sz j k : Nat} {z : Int32} {V : Int → Int} {L : FM}
theorem oi_at : oi (upd f j z) j = z.toInt := congrArg Int32.toInt ug_at
theorem oi_ne (h : k ≠ j) : oi (upd f j z) k = oi f k := congrArg Int32.toInt (ug_ne h)
theorem bls_x (h : BLS V (oi g) sz n) (e : ∀ k, k < n → f k = g k) : BLS V (oi f) sz n := fun m => srv_cg (h m) (fun i _ b => congrArg Int32.toInt (e i (by omega)))
theorem pri_x (h : PRI g n) (e : ∀ k, k < n → f k = g k) : PRI f n := fun v => (cn_eq n (fun i hi => congrArg Int32.toInt (e i hi))).trans (h v)
theorem rno_x (h : RNO g n) (e : ∀ k, k < n → f k = g k) : RNO f n := fun k hk => by rw [e k hk]; exact h k hk
theorem pri_0 (h : ∀ k : Nat, k < n → (f k).toInt = (k : Int)) : PRI f n := fun v => cn_eq n (fun i hi => h i hi)
theorem rno_0 (h : ∀ k : Nat, k < n → (f k).toInt = (k : Int)) : RNO f n := fun k hk => by have := h k hk; omega
theorem sok_fr {x : Nat} (h : SOK s x) (hF : Fr L s t) (hk : qI L.1 134 = true) : SOK t x := by
  unfold SOK shE at *
  rw [hF.1 134 hk]
  exact h
theorem kyv_fr {x : Int} (hF : Fr L s t) (hk : (qI L.1 134 && qI L.2.1 135) = true) : KYV t x = KYV s x := by
  rw [Bool.and_eq_true] at hk
  unfold KYV shE shW
  rw [hF.1 134 hk.1, hF.2.1 135 hk.2]
end OI
end
section
/-! THE SHORT WAYS, ONE BY ONE -/
def lsm (f : Nat → List (List Nat)) : Nat → List (List Nat)
  | 0 => []
  | n + 1 => lsm f n ++ f n
theorem lsm_eq {f g : Nat → List (List Nat)} : ∀ n : Nat, (∀ p, p < n → f p = g p) → lsm f n = lsm g n
  | 0, _ => rfl
  | n + 1, h => by
    show lsm f n ++ f n = lsm g n ++ g n
    rw [lsm_eq n (fun p hp => h p (by omega)), h n (by omega)]
theorem lsm_cut {f : Nat → List (List Nat)} {p : Nat} : ∀ m : Nat, (∀ q, p ≤ q → q < p + m → f q = []) → lsm f (p + m) = lsm f p
  | 0, _ => rfl
  | m + 1, h => by
    show lsm f (p + m) ++ f (p + m) = _
    rw [h (p + m) (by omega) (by omega), List.append_nil]
    exact lsm_cut m (fun q a b => h q a (by omega))
theorem lsm_len {f : Nat → List (List Nat)} : ∀ n : Nat, ((lsm f n).length : Int) = sm (fun p => ((f p).length : Int)) n
  | 0 => rfl
  | n + 1 => by
    show ((lsm f n ++ f n).length : Int) = sm (fun p => ((f p).length : Int)) n + ((f n).length : Int)
    rw [List.length_append, ← lsm_len n]
    omega
def shl (F T : Nat → Int) (t : Int) : Nat → Int → (Nat → Bool) → List (List Nat)
  | 0, _, _ => []
  | d + 1, u, V => lsm (fun p => if F p = u then (if T p = t then [[p]] else if V (T p).toNat = true then [] else (shl F T t d (T p) (fun x => V x || decide (x = (T p).toNat))).map (fun l => p :: l)) else []) 160
def slp (F T : Nat → Int) (t : Int) (d : Nat) (V : Nat → Bool) (p : Nat) : List (List Nat) := if T p = t then [[p]] else if V (T p).toNat = true then [] else (shl F T t d (T p) (fun x => V x || decide (x = (T p).toNat))).map (fun l => p :: l)
section SHL
variable {F T : Nat → Int} {t : Int}
theorem shl_s {d : Nat} {u : Int} {V : Nat → Bool} : shl F T t (d + 1) u V = lsm (fun p => if F p = u then slp F T t d V p else []) 160 := rfl
theorem shl_len : ∀ (d : Nat) (u : Int) (V : Nat → Bool), ((shl F T t d u V).length : Int) = shw F T t d u V
  | 0, _, _ => rfl
  | d + 1, u, V => by
    rw [shl_s, shw_s, lsm_len]
    refine sm_eq 160 (fun p _ => ?_)
    by_cases c : F p = u
    · rw [if_pos c, iw_y c]
      unfold slp shp
      by_cases c1 : T p = t
      · rw [if_pos c1, if_pos c1]; rfl
      · rw [if_neg c1, if_neg c1]
        by_cases c2 : V (T p).toNat = true
        · rw [if_pos c2, if_pos c2]; rfl
        · rw [if_neg c2, if_neg c2, List.length_map]
          exact shl_len d _ _
    · rw [if_neg c, iw_n c]; rfl
theorem shl_0 {d : Nat} {u : Int} {V : Nat → Bool} (h : shw F T t d u V = 0) : shl F T t d u V = [] := List.length_eq_zero_iff.mp (by have := shl_len (F := F) (T := T) (t := t) d u V; omega)
theorem slp_t {d p : Nat} {V : Nat → Bool} (h : T p = t) : slp F T t d V p = [[p]] := if_pos h
theorem slp_v {d p : Nat} {V : Nat → Bool} (h : T p ≠ t) (hv : V (T p).toNat = true) : slp F T t d V p = [] := by
  unfold slp
  rw [if_neg h, if_pos hv]
theorem slp_w {d p w : Nat} {V W : Nat → Bool} (h : T p ≠ t) (hw : T p = (w : Int)) (hv : V w = false) (hW : ∀ x, W x = (V x || decide (x = w))) : slp F T t d V p = (shl F T t d (w : Int) W).map (fun l => p :: l) := by
  have e : (T p).toNat = w := by omega
  unfold slp
  rw [if_neg h, e, if_neg (by rw [hv]; decide), hw, show W = (fun x => V x || decide (x = w)) from funext hW]
/-- the ways by the first k arcs of u -/
def slz (F T : Nat → Int) (t : Int) (d u : Nat) (V : Nat → Bool) (k : Int) : List (List Nat) := lsm (fun p => if F p = (u : Int) ∧ cn F (u : Int) p < k then slp F T t d V p else []) 160
theorem slz_0 {d u : Nat} {V : Nat → Bool} {k : Int} (hk : k = 0) : slz F T t d u V k = [] := by
  have h := lsm_cut (f := fun p => if F p = (u : Int) ∧ cn F (u : Int) p < k then slp F T t d V p else []) (p := 0) 160 (fun q _ _ => if_neg (fun z => by
    have := cn_0 F (u : Int) q
    have := z.2
    omega))
  exact h
theorem slz_s {d u p : Nat} {V : Nat → Bool} {k e : Int} (hp : p < 160) (hf : F p = (u : Int)) (hc : cn F (u : Int) p = k) (he : e = k + 1) : slz F T t d u V e = slz F T t d u V k ++ slp F T t d V p := by
  have hm : ∀ q, p + 1 ≤ q → k + 1 ≤ cn F (u : Int) q := fun q hq => by
    have m := cn_mono F (u : Int) hq
    rw [cn_hit hf] at m
    omega
  have a : slz F T t d u V e = lsm (fun p => if F p = (u : Int) ∧ cn F (u : Int) p < e then slp F T t d V p else []) (p + 1) := by
    have h := lsm_cut (f := fun p => if F p = (u : Int) ∧ cn F (u : Int) p < e then slp F T t d V p else []) (p := p + 1) (160 - (p + 1)) (fun q h1 _ => if_neg (fun z => by
      have := hm q h1
      have := z.2
      omega))
    rw [show p + 1 + (160 - (p + 1)) = 160 by omega] at h
    exact h
  have b : slz F T t d u V k = lsm (fun p => if F p = (u : Int) ∧ cn F (u : Int) p < k then slp F T t d V p else []) p := by
    have h := lsm_cut (f := fun p => if F p = (u : Int) ∧ cn F (u : Int) p < k then slp F T t d V p else []) (p := p) (160 - p) (fun q h1 _ => if_neg (fun z => by
      have m := cn_mono F (u : Int) h1
      have := z.2
      omega))
    rw [show p + (160 - p) = 160 by omega] at h
    exact h
  rw [a, b]
  show lsm _ p ++ (if F p = (u : Int) ∧ cn F (u : Int) p < e then slp F T t d V p else []) = _
  rw [if_pos ⟨hf, by omega⟩]
  refine congrArg (fun x => x ++ slp F T t d V p) (lsm_eq p (fun q hq => ?_))
  by_cases c : F q = (u : Int)
  · have m := cn_mono F (u : Int) (show q + 1 ≤ p by omega)
    rw [cn_hit c] at m
    rw [if_pos ⟨c, by omega⟩, if_pos ⟨c, by omega⟩]
  · rw [if_neg (fun z => c z.1), if_neg (fun z => c z.1)]
theorem slz_e {d u : Nat} {V : Nat → Bool} {k : Int} (h : ∀ p, p < 160 → F p = (u : Int) → cn F (u : Int) p < k) : slz F T t d u V k = shl F T t (d + 1) (u : Int) V := by
  rw [shl_s]
  refine lsm_eq 160 (fun p hp => ?_)
  by_cases c : F p = (u : Int)
  · rw [if_pos ⟨c, h p hp c⟩, if_pos c]
  · rw [if_neg (fun z => c z.1), if_neg c]
end SHL
/-! keys -/
def pwj : Nat → Int
  | 0 => 16777216
  | 1 => 65536
  | 2 => 256
  | _ => 1
def eky (w : Nat → Int) : Nat → List Nat → Int
  | _, [] => 0
  | j, p :: l => w p * 34359738368 + (p : Int) * pwj j + eky w (j + 1) l
/-- the key of a way that goes on from depth j with the key K so far; c: what is added at the end -/
def kfn (w : Nat → Int) (c K : Int) (j : Nat) (l : List Nat) : Int := K + eky w j l + c + ((j : Int) + (l.length : Int)) * 4294967296
theorem kfn_c {w : Nat → Int} {c K : Int} {j p : Nat} {l : List Nat} : kfn w c K j (p :: l) = kfn w c (K + w p * 34359738368 + (p : Int) * pwj j) (j + 1) l := by
  unfold kfn
  rw [List.length_cons]
  show K + (w p * 34359738368 + (p : Int) * pwj j + eky w (j + 1) l) + c + _ = _
  omega
theorem kfn_m {w : Nat → Int} {c K : Int} {j p : Nat} {L : List (List Nat)} : (L.map (fun l => p :: l)).map (kfn w c K j) = L.map (kfn w c (K + w p * 34359738368 + (p : Int) * pwj j) (j + 1)) := by
  rw [List.map_map]
  exact List.map_congr_left (fun l _ => kfn_c)
/-- the first values of a row, as far as there is room -/
def KZ (f : Nat → Int64) (c : Int) (Z : List Int) : Prop := c = cap (Z.length : Int) ∧ ∀ i : Nat, (i : Int) < c → (f i).toInt = Z.getD i 0
section KZ
variable {f : Nat → Int64} {c c2 : Int} {Z Y : List Int} {j : Nat} {z : Int64} {x : Int}
theorem gd_l {i : Nat} (h : i < Z.length) : (Z ++ Y).getD i 0 = Z.getD i 0 := by
  rw [List.getD_eq_getElem?_getD, List.getD_eq_getElem?_getD, List.getElem?_append_left h]
theorem gd_e : (Z ++ [x]).getD Z.length 0 = x := by
  rw [List.getD_eq_getElem?_getD, List.getElem?_append_right (Nat.le_refl _), Nat.sub_self]
  rfl
theorem kz_a (h : KZ f c Z) (hc : c ≤ 2000) (hj : (j : Int) = c) (hz : z.toInt = x) (h2 : c2 = c + 1) : KZ (vp_updL f j z) c2 (Z ++ [x]) := by
  have hl : c = (Z.length : Int) := by
    have e := h.1
    by_cases k : (Z.length : Int) ≤ 2000
    · rw [cap_l k] at e; exact e
    · rw [cap_g (by omega)] at e; omega
  have ej : j = Z.length := by omega
  refine ⟨?_, fun i hi => ?_⟩
  · rw [List.length_append, List.length_singleton, h2, hl]
    have e : (((Z.length + 1 : Nat)) : Int) = (Z.length : Int) + 1 := by omega
    rw [e]
    by_cases k : (Z.length : Int) + 1 ≤ 2000
    · rw [cap_l k]
    · rw [cap_g (by omega)]; omega
  · by_cases k : i = j
    · rw [k, vp_at, hz, ej, gd_e]
    · rw [vp_ne k, gd_l (by omega)]
      exact h.2 i (by omega)
theorem kz_f (h : KZ f c Z) (hc : 2000 < c) : KZ f c (Z ++ Y) := by
  have e := h.1
  have k : 2000 < (Z.length : Int) := Classical.byContradiction fun k => by
    rw [cap_l (by omega)] at e
    omega
  refine ⟨?_, fun i hi => ?_⟩
  · rw [e, cap_g k, cap_g (by rw [List.length_append]; omega)]
  · rw [cap_g k] at e
    rw [gd_l (by omega)]
    exact h.2 i hi
theorem kz_n (h : KZ f c Z) (hY : Y = []) : KZ f c (Z ++ Y) := by
  rw [hY, List.append_nil]
  exact h
end KZ
/-! shifts of longs -/
theorem lsh_35 {x z : Int64} (hz : z = x <<< ((Int32.ofInt 35).toInt64 &&& 63)) (h1 : -4000000000000000000 ≤ x.toInt * 34359738368) (h2 : x.toInt * 34359738368 ≤ 4000000000000000000) : z.toInt = x.toInt * 34359738368 := by
  have e : z = x * Int64.ofInt 34359738368 := by
    rw [hz]
    apply Int64.toBitVec_inj.mp
    rw [Int64.toBitVec_shiftLeft, Int64.toBitVec_mul]
    show x.toBitVec <<< (((Int32.ofInt 35).toInt64 &&& 63).toBitVec.smod 64) = x.toBitVec * (Int64.ofInt 34359738368).toBitVec
    rw [show (((Int32.ofInt 35).toInt64 &&& 63).toBitVec.smod 64) = 35#64 from (by decide +kernel), BitVec.shiftLeft_eq', show (35#64 : BitVec 64).toNat = 35 from rfl, BitVec.shiftLeft_eq_mul_twoPow]
    rfl
  have t : (Int64.ofInt 34359738368).toInt = 34359738368 := rfl
  have m := lmul_t e (by rw [t]; exact h1) (by rw [t]; exact h2)
  rw [t] at m
  exact m
theorem lsh_32 {x z : Int64} (hz : z = x <<< ((Int32.ofInt 32).toInt64 &&& 63)) (h1 : -4000000000000000000 ≤ x.toInt * 4294967296) (h2 : x.toInt * 4294967296 ≤ 4000000000000000000) : z.toInt = x.toInt * 4294967296 := by
  have e : z = x * Int64.ofInt 4294967296 := by
    rw [hz]
    apply Int64.toBitVec_inj.mp
    rw [Int64.toBitVec_shiftLeft, Int64.toBitVec_mul]
    show x.toBitVec <<< (((Int32.ofInt 32).toInt64 &&& 63).toBitVec.smod 64) = x.toBitVec * (Int64.ofInt 4294967296).toBitVec
    rw [show (((Int32.ofInt 32).toInt64 &&& 63).toBitVec.smod 64) = 32#64 from (by decide +kernel), BitVec.shiftLeft_eq', show (32#64 : BitVec 64).toNat = 32 from rfl, BitVec.shiftLeft_eq_mul_twoPow]
    rfl
  have t : (Int64.ofInt 4294967296).toInt = 4294967296 := rfl
  have m := lmul_t e (by rw [t]; exact h1) (by rw [t]; exact h2)
  rw [t] at m
  exact m
theorem lsh_24 {x z : Int64} (hz : z = x <<< ((Int32.ofInt 24).toInt64 &&& 63)) (h1 : -4000000000000000000 ≤ x.toInt * 16777216) (h2 : x.toInt * 16777216 ≤ 4000000000000000000) : z.toInt = x.toInt * 16777216 := by
  have e : z = x * Int64.ofInt 16777216 := by
    rw [hz]
    apply Int64.toBitVec_inj.mp
    rw [Int64.toBitVec_shiftLeft, Int64.toBitVec_mul]
    show x.toBitVec <<< (((Int32.ofInt 24).toInt64 &&& 63).toBitVec.smod 64) = x.toBitVec * (Int64.ofInt 16777216).toBitVec
    rw [show (((Int32.ofInt 24).toInt64 &&& 63).toBitVec.smod 64) = 24#64 from (by decide +kernel), BitVec.shiftLeft_eq', show (24#64 : BitVec 64).toNat = 24 from rfl, BitVec.shiftLeft_eq_mul_twoPow]
    rfl
  have t : (Int64.ofInt 16777216).toInt = 16777216 := rfl
  have m := lmul_t e (by rw [t]; exact h1) (by rw [t]; exact h2)
  rw [t] at m
  exact m
theorem lsh_16 {x z : Int64} (hz : z = x <<< ((Int32.ofInt 16).toInt64 &&& 63)) (h1 : -4000000000000000000 ≤ x.toInt * 65536) (h2 : x.toInt * 65536 ≤ 4000000000000000000) : z.toInt = x.toInt * 65536 := by
  have e : z = x * Int64.ofInt 65536 := by
    rw [hz]
    apply Int64.toBitVec_inj.mp
    rw [Int64.toBitVec_shiftLeft, Int64.toBitVec_mul]
    show x.toBitVec <<< (((Int32.ofInt 16).toInt64 &&& 63).toBitVec.smod 64) = x.toBitVec * (Int64.ofInt 65536).toBitVec
    rw [show (((Int32.ofInt 16).toInt64 &&& 63).toBitVec.smod 64) = 16#64 from (by decide +kernel), BitVec.shiftLeft_eq', show (16#64 : BitVec 64).toNat = 16 from rfl, BitVec.shiftLeft_eq_mul_twoPow]
    rfl
  have t : (Int64.ofInt 65536).toInt = 65536 := rfl
  have m := lmul_t e (by rw [t]; exact h1) (by rw [t]; exact h2)
  rw [t] at m
  exact m
theorem lsh_8 {x z : Int64} (hz : z = x <<< ((Int32.ofInt 8).toInt64 &&& 63)) (h1 : -4000000000000000000 ≤ x.toInt * 256) (h2 : x.toInt * 256 ≤ 4000000000000000000) : z.toInt = x.toInt * 256 := by
  have e : z = x * Int64.ofInt 256 := by
    rw [hz]
    apply Int64.toBitVec_inj.mp
    rw [Int64.toBitVec_shiftLeft, Int64.toBitVec_mul]
    show x.toBitVec <<< (((Int32.ofInt 8).toInt64 &&& 63).toBitVec.smod 64) = x.toBitVec * (Int64.ofInt 256).toBitVec
    rw [show (((Int32.ofInt 8).toInt64 &&& 63).toBitVec.smod 64) = 8#64 from (by decide +kernel), BitVec.shiftLeft_eq', show (8#64 : BitVec 64).toNat = 8 from rfl, BitVec.shiftLeft_eq_mul_twoPow]
    rfl
  have t : (Int64.ofInt 256).toInt = 256 := rfl
  have m := lmul_t e (by rw [t]; exact h1) (by rw [t]; exact h2)
  rw [t] at m
  exact m
theorem lsh_0 {x z : Int64} (hz : z = x <<< ((Int32.ofInt 0).toInt64 &&& 63)) (h1 : -4000000000000000000 ≤ x.toInt * 1) (h2 : x.toInt * 1 ≤ 4000000000000000000) : z.toInt = x.toInt * 1 := by
  have e : z = x * Int64.ofInt 1 := by
    rw [hz]
    apply Int64.toBitVec_inj.mp
    rw [Int64.toBitVec_shiftLeft, Int64.toBitVec_mul]
    show x.toBitVec <<< (((Int32.ofInt 0).toInt64 &&& 63).toBitVec.smod 64) = x.toBitVec * (Int64.ofInt 1).toBitVec
    rw [show (((Int32.ofInt 0).toInt64 &&& 63).toBitVec.smod 64) = 0#64 from (by decide +kernel), BitVec.shiftLeft_eq', show (0#64 : BitVec 64).toNat = 0 from rfl, BitVec.shiftLeft_eq_mul_twoPow]
    rfl
  have t : (Int64.ofInt 1).toInt = 1 := rfl
  have m := lmul_t e (by rw [t]; exact h1) (by rw [t]; exact h2)
  rw [t] at m
  exact m
/-- the place of an arc in the key: depth j -/
theorem lsh_j {x z : Int64} {y : Int32} {j : Nat} (hz : z = x <<< (y.toInt64 &&& 63)) (hy : y.toInt = 24 - 8 * (j : Int)) (hj : j ≤ 3) (h0 : 0 ≤ x.toInt) (hx : x.toInt ≤ 1000) : z.toInt = x.toInt * pwj j := by
  match j, hj, hy with
  | 0, _, hy =>
    have e : y = Int32.ofInt 24 := i_eq.mpr (by rw [hy]; rfl)
    rw [e] at hz
    exact lsh_24 hz (by omega) (by omega)
  | 1, _, hy =>
    have e : y = Int32.ofInt 16 := i_eq.mpr (by rw [hy]; rfl)
    rw [e] at hz
    exact lsh_16 hz (by omega) (by omega)
  | 2, _, hy =>
    have e : y = Int32.ofInt 8 := i_eq.mpr (by rw [hy]; rfl)
    rw [e] at hz
    exact lsh_8 hz (by omega) (by omega)
  | 3, _, hy =>
    have e : y = Int32.ofInt 0 := i_eq.mpr (by rw [hy]; rfl)
    rw [e] at hz
    exact lsh_0 hz (by omega) (by omega)
  | j + 4, hj, _ => omega

theorem lsm_sp {f : Nat → List (List Nat)} {p : Nat} : ∀ m : Nat, ∃ R, lsm f (p + m) = lsm f p ++ R
  | 0 => ⟨[], (List.append_nil _).symm⟩
  | m + 1 => by
    obtain ⟨R, h⟩ := lsm_sp (f := f) (p := p) m
    refine ⟨R ++ f (p + m), ?_⟩
    show lsm f (p + m) ++ f (p + m) = _
    rw [h, List.append_assoc]
theorem slz_p {F T : Nat → Int} {t : Int} {d u : Nat} {V : Nat → Bool} {k : Int} (h0 : 0 ≤ k) : ∃ R, shl F T t (d + 1) (u : Int) V = slz F T t d u V k ++ R := by
  by_cases c : k < cn F (u : Int) 160
  · obtain ⟨p, hp, hf, hc⟩ := cn_ex h0 c
    obtain ⟨R, hR⟩ := lsm_sp (f := fun p => if F p = (u : Int) then slp F T t d V p else []) (p := p) (160 - p)
    rw [show p + (160 - p) = 160 by omega] at hR
    have b : slz F T t d u V k = lsm (fun p => if F p = (u : Int) ∧ cn F (u : Int) p < k then slp F T t d V p else []) p := by
      have h := lsm_cut (f := fun p => if F p = (u : Int) ∧ cn F (u : Int) p < k then slp F T t d V p else []) (p := p) (160 - p) (fun q h1 _ => if_neg (fun z => by
        have m := cn_mono F (u : Int) h1
        have := z.2
        omega))
      rw [show p + (160 - p) = 160 by omega] at h
      exact h
    refine ⟨R, ?_⟩
    rw [shl_s, hR, b]
    refine congrArg (fun x => x ++ R) (lsm_eq p (fun q hq => ?_))
    by_cases e : F q = (u : Int)
    · have m := cn_mono F (u : Int) (show q + 1 ≤ p by omega)
      rw [cn_hit e] at m
      rw [if_pos e, if_pos ⟨e, by omega⟩]
    · rw [if_neg e, if_neg (fun z => e z.1)]
  · refine ⟨[], ?_⟩
    rw [List.append_nil]
    exact (slz_e (fun p hp hf => by
      have m := cn_mono F (u : Int) (show p + 1 ≤ 160 by omega)
      rw [cn_hit hf] at m
      omega)).symm
theorem pwj_b (j : Nat) : 0 ≤ pwj j ∧ pwj j ≤ 16777216 := by
  match j with
  | 0 => exact ⟨by decide, by decide⟩
  | 1 => exact ⟨by decide, by decide⟩
  | 2 => exact ⟨by decide, by decide⟩
  | _ + 3 => exact ⟨(show (0 : Int) ≤ 1 by decide), (show (1 : Int) ≤ 16777216 by decide)⟩
/-- the key so far is not too great -/
def KBD (k d : Int) : Prop := -(d * 40000000000000000) ≤ k ∧ k ≤ d * 40000000000000000
theorem lng_v {x5 z64 z67 z68 z71 z80 z81 : Int64} {z63 z43 z79 : Int32} {j p : Nat} {w : Int} (hb : KBD x5.toInt (j : Int)) (hj : j ≤ 3) (e64 : z64 = z63.toInt64) (e67 : z67 = z64 <<< ((Int32.ofInt 35).toInt64 &&& 63)) (e68 : z68 = x5 + z67) (e71 : z71 = z43.toInt64) (e80 : z80 = z71 <<< (z79.toInt64 &&& 63)) (h79 : z79.toInt = 24 - 8 * (j : Int)) (e81 : z81 = z68 + z80) (hw : z63.toInt = w) (w0 : -1000000 ≤ w ∧ w ≤ 1000000) (hp : z43.toInt = (p : Int)) (p160 : p < 160) : z81.toInt = x5.toInt + w * 34359738368 + (p : Int) * pwj j ∧ KBD z81.toInt ((j : Int) + 1) := by
  unfold KBD at *
  have t64 := tx_i2l e64
  have t71 := tx_i2l e71
  have t67 := lsh_35 e67 (by omega) (by omega)
  have t68 := ladd_t e68 (by omega) (by omega)
  have t80 := lsh_j e80 h79 hj (by omega) (by omega)
  have b := pwj_b j
  have m0 : 0 ≤ (p : Int) * pwj j := Int.mul_nonneg (by omega) b.1
  have m1 : (p : Int) * pwj j ≤ 160 * 16777216 := by
    have a1 := Int.mul_le_mul_of_nonneg_right (show (p : Int) ≤ 160 by omega) b.1
    have a2 : (160 : Int) * pwj j ≤ 160 * 16777216 := Int.mul_le_mul_of_nonneg_left b.2 (by omega)
    omega
  rw [t71, hp] at t80
  have t81 := ladd_t e81 (by omega) (by omega)
  rw [t81, t68, t67, t64, hw, t80]
  exact ⟨rfl, by omega, by omega⟩
theorem key_v {z81 z106 z111 z114 z115 : Int64} {z110 : Int32} {j p : Nat} {K w : Int} {W : Nat → Int} (h81 : z81.toInt = K + w * 34359738368 + (p : Int) * pwj j) (hW : W p = w) (hb : KBD z81.toInt ((j : Int) + 1)) (hj : j ≤ 3) (e106 : z106 = z81 + Int64.ofInt 137438953472000000) (h110 : z110.toInt = (j : Int) + 1) (e111 : z111 = z110.toInt64) (e114 : z114 = z111 <<< ((Int32.ofInt 32).toInt64 &&& 63)) (e115 : z115 = z106 + z114) : z115.toInt = kfn W 137438953472000000 K j [p] := by
  unfold KBD at hb
  have c : (Int64.ofInt 137438953472000000).toInt = 137438953472000000 := rfl
  have t106 := ladd_t e106 (by omega) (by omega)
  have t111 := tx_i2l e111
  have t114 := lsh_32 e114 (by omega) (by omega)
  have t115 := ladd_t e115 (by omega) (by omega)
  rw [t115, t106, t114, t111, h110, h81, c]
  unfold kfn
  show _ = K + (W p * 34359738368 + (p : Int) * pwj j + 0) + 137438953472000000 + ((j : Int) + (1 : Nat)) * 4294967296
  rw [hW]
  omega

/-! the reference's rows, way by way -/
def wsm (w : Nat → Int) : List Nat → Int
  | [] => 0
  | p :: l => w p + wsm w l
def WAY (f : Nat → Int32) (g : Nat → Int64) (w : Nat → Int) (i : Nat) (l : List Nat) : Prop := (f (5 * i)).toInt = (l.length : Int) ∧ (∀ j : Nat, j < 4 → (f (5 * i + (j + 1))).toInt = ((l.getD j 0 : Nat) : Int)) ∧ (g i).toInt = wsm w l
def RZ (f : Nat → Int32) (g : Nat → Int64) (w : Nat → Int) (c : Int) (ZL : List (List Nat)) : Prop := c = cap (ZL.length : Int) ∧ ∀ i : Nat, (i : Int) < c → WAY f g w i (ZL.getD i [])
section RZ
variable {f f2 : Nat → Int32} {g g2 : Nat → Int64} {w : Nat → Int} {c c2 : Int} {ZL YL : List (List Nat)} {l : List Nat}
theorem gl_l {i : Nat} (h : i < ZL.length) : (ZL ++ YL).getD i [] = ZL.getD i [] := by
  rw [List.getD_eq_getElem?_getD, List.getD_eq_getElem?_getD, List.getElem?_append_left h]
theorem gl_e : (ZL ++ [l]).getD ZL.length [] = l := by
  rw [List.getD_eq_getElem?_getD, List.getElem?_append_right (Nat.le_refl _), Nat.sub_self]
  rfl
theorem way_cg {i : Nat} (h : WAY f g w i l) (e : ∀ q, 5 * i ≤ q → q ≤ 5 * i + 4 → f2 q = f q) (e2 : g2 i = g i) : WAY f2 g2 w i l := by
  refine ⟨by rw [e _ (by omega) (by omega)]; exact h.1, fun j hj => by rw [e _ (by omega) (by omega)]; exact h.2.1 j hj, by rw [e2]; exact h.2.2⟩
theorem rz_a (h : RZ f g w c ZL) (h0 : 0 ≤ c) (hc : c ≤ 2000) (hf : ∀ q : Nat, (q : Int) < 5 * c → f2 q = f q) (hg : ∀ q : Nat, (q : Int) < c → g2 q = g q) (hw : WAY f2 g2 w c.toNat l) (h2 : c2 = c + 1) : RZ f2 g2 w c2 (ZL ++ [l]) := by
  have hl : c = (ZL.length : Int) := by
    have e := h.1
    by_cases k : (ZL.length : Int) ≤ 2000
    · rw [cap_l k] at e; exact e
    · rw [cap_g (by omega)] at e; omega
  have ec : c.toNat = ZL.length := by omega
  refine ⟨?_, fun i hi => ?_⟩
  · rw [List.length_append, List.length_singleton, h2, hl]
    have e : (((ZL.length + 1 : Nat)) : Int) = (ZL.length : Int) + 1 := by omega
    rw [e]
    by_cases k : (ZL.length : Int) + 1 ≤ 2000
    · rw [cap_l k]
    · rw [cap_g (by omega)]; omega
  · by_cases k : i = ZL.length
    · rw [k, gl_e, ← ec]
      exact hw
    · rw [gl_l (by omega)]
      exact way_cg (h.2 i (by omega)) (fun q a b => hf q (by omega)) (hg i (by omega))
theorem rz_f (h : RZ f g w c ZL) (hc : 2000 < c) : RZ f g w c (ZL ++ YL) := by
  have e := h.1
  have k : 2000 < (ZL.length : Int) := Classical.byContradiction fun k => by
    rw [cap_l (by omega)] at e
    omega
  refine ⟨?_, fun i hi => ?_⟩
  · rw [e, cap_g k, cap_g (by rw [List.length_append]; omega)]
  · rw [cap_g k] at e
    rw [gl_l (by omega)]
    exact h.2 i hi
end RZ
end
section
/-! THE KEYS, SORTED -/
theorem cn_cmp {V : Int → Int} {F : Nat → Int} {v : Int} {m : Nat} : ∀ n : Nat, (∀ k, k < n → 0 ≤ F k ∧ F k < (m : Int)) → cn (fun k => V (F k)) v n = sm (fun x => if V (x : Int) = v then cn F (x : Int) n else 0) m
  | 0, _ => (sm_0 m (fun k _ => by
    show (if V (k : Int) = v then (0 : Int) else 0) = 0
    by_cases c : V (k : Int) = v
    · rw [if_pos c]
    · rw [if_neg c])).symm
  | n + 1, h => by
    have ih := cn_cmp (V := V) (v := v) n (fun k hk => h k (by omega))
    obtain ⟨a, b⟩ := h n (by omega)
    by_cases c : V (F n) = v
    · rw [cn_hit (F := fun k => V (F k)) c, ih]
      refine (sm_one (u := (F n).toNat) (d := 1) m (by omega) (fun k hk hne => ?_) ?_).symm
      · show (if V (k : Int) = v then cn F (k : Int) (n + 1) else 0) = (if V (k : Int) = v then cn F (k : Int) n else 0)
        rw [cn_miss (F := F) (u := (k : Int)) (n := n) (fun e => hne (by omega))]
      · have e : (((F n).toNat : Nat) : Int) = F n := Int.toNat_of_nonneg a
        show (if V (((F n).toNat : Nat) : Int) = v then cn F (((F n).toNat : Nat) : Int) (n + 1) else 0) = (if V (((F n).toNat : Nat) : Int) = v then cn F (((F n).toNat : Nat) : Int) n else 0) + 1
        rw [e, if_pos c, if_pos c, cn_hit (F := F) (u := F n) (n := n) rfl]
    · rw [cn_miss (F := fun k => V (F k)) c, ih]
      refine sm_eq m (fun k hk => ?_)
      show (if V (k : Int) = v then cn F (k : Int) n else 0) = (if V (k : Int) = v then cn F (k : Int) (n + 1) else 0)
      by_cases e : V (k : Int) = v
      · rw [if_pos e, if_pos e, cn_miss (F := F) (u := (k : Int)) (n := n) (fun z => c (by rw [z]; exact e))]
      · rw [if_neg e, if_neg e]
theorem cn_prm {V : Int → Int} {f : Nat → Int32} {n : Nat} (hp : PRI f n) (hr : RNO f n) (v : Int) : cn (fun k => V (oi f k)) v n = cn (fun k => V (k : Int)) v n := by
  have a : cn (fun k => V (oi f k)) v n = sm (fun x => if V (x : Int) = v then cn (oi f) (x : Int) n else 0) n := cn_cmp n hr
  have b : cn (fun k => V (k : Int)) v n = sm (fun x => if V (x : Int) = v then cn (fun k => (k : Int)) (x : Int) n else 0) n := cn_cmp (F := fun k => (k : Int)) n (show ∀ k : Nat, k < n → 0 ≤ (k : Int) ∧ (k : Int) < (n : Int) from fun k hk => ⟨by omega, by omega⟩)
  rw [a, b]
  refine sm_eq n (fun x _ => ?_)
  show (if V (x : Int) = v then cn (oi f) (x : Int) n else 0) = _
  rw [hp (x : Int)]
theorem lsm_m {f : Nat → List (List Nat)} {l : List Nat} : ∀ n : Nat, l ∈ lsm f n → ∃ p, p < n ∧ l ∈ f p
  | 0, h => by cases h
  | n + 1, h => by
    rcases List.mem_append.mp (show l ∈ lsm f n ++ f n from h) with a | a
    · obtain ⟨p, hp, hl⟩ := lsm_m n a
      exact ⟨p, by omega, hl⟩
    · exact ⟨n, by omega, a⟩
theorem shl_ll {F T : Nat → Int} {t : Int} : ∀ (d : Nat) (u : Int) (V : Nat → Bool) (l : List Nat), l ∈ shl F T t d u V → 1 ≤ l.length ∧ l.length ≤ d
  | 0, _, _, _, h => by cases h
  | d + 1, u, V, l, h => by
    rw [shl_s] at h
    obtain ⟨p, -, hl⟩ := lsm_m 160 h
    have hl2 : l ∈ (if F p = u then slp F T t d V p else []) := hl
    by_cases c : F p = u
    · rw [if_pos c] at hl2
      unfold slp at hl2
      by_cases c1 : T p = t
      · rw [if_pos c1] at hl2
        rw [List.mem_singleton.mp hl2, List.length_singleton]
        omega
      · rw [if_neg c1] at hl2
        by_cases c2 : V (T p).toNat = true
        · rw [if_pos c2] at hl2
          cases hl2
        · rw [if_neg c2] at hl2
          obtain ⟨m, hm, rfl⟩ := List.mem_map.mp hl2
          have := shl_ll d _ _ m hm
          rw [List.length_cons]
          omega
    · rw [if_neg c] at hl2
      cases hl2
noncomputable def WLS (g : GVW) (u v : Nat) : List (List Nat) := shl (ARE g 0) (ARE g 1) (v : Int) 4 (u : Int) (fun x => decide (x = u))
noncomputable def KLS (g : GVW) (u v : Nat) : List Int := (WLS g u v).map (kfn (fun p => (g.2.2.2.1 p).toInt) 137438953472000000 0 0)
def KSG (g : GVW) (s : GS) : Prop := (s.2.2.1 49 11).toInt ≤ 2000 → (∀ v : Int, cn (kvl (s.2.1 55)) v (s.2.2.1 49 11).toInt.toNat = cn (fun i => (KLS g (s.2.2.1 49 9).toInt.toNat (s.2.2.1 49 10).toInt.toNat).getD i 0) v (s.2.2.1 49 11).toInt.toNat) ∧ SRT (kvl (s.2.1 55)) (s.2.2.1 49 11).toInt.toNat
def KSB (g : GVW) (s : GS) : Prop := (s.2.2.1 49 8).toInt = g.2.2.2.2.2.2.2 → KSG g s
theorem kz_0 {f : Nat → Int64} {c : Int} (h : c = 0) : KZ f c [] := by
  refine ⟨?_, fun i hi => by omega⟩
  rw [h]
  exact (cap_l (show ((([] : List Int).length : Nat) : Int) ≤ 2000 by decide)).symm
theorem kz_cn {f : Nat → Int64} {c : Int} {Z : List Int} (h : KZ f c Z) (v : Int) : cn (kvl f) v c.toNat = cn (fun i => Z.getD i 0) v c.toNat := cn_eq c.toNat (fun k hk => h.2 k (by omega))
theorem ksg_of {g : GVW} {s : GS} {x y m : Int32} {f : Nat → Int64} {c : Int} (h9 : s.2.2.1 49 9 = x) (h10 : s.2.2.1 49 10 = y) (ix : In x 0 31) (iy : In y 0 31) (em : m = Int32.ofInt 1 <<< (x &&& 31)) (hz : KZ f c ([] ++ (shl (ARE g 0) (ARE g 1) y.toInt 4 (x.toNatClampNeg : Int) (bt m)).map (kfn (fun p => (g.2.2.2.1 p).toInt) 137438953472000000 0 0))) (hc : (s.2.2.1 49 11).toInt = c) (hp : c ≤ 2000 → PRM (s.2.1 55) f c.toNat ∧ SRT (kvl (s.2.1 55)) c.toNat) : KSG g s := by
  intro hle
  rw [hc] at hle ⊢
  obtain ⟨a, b⟩ := hp hle
  refine ⟨fun v => (a v).trans ?_, b⟩
  rw [List.nil_append] at hz
  rw [kz_cn hz v, h9, h10]
  have ey : ((y.toInt.toNat : Nat) : Int) = y.toInt := clx iy.1
  unfold KLS WLS
  rw [ey, show (fun k => decide (k = x.toInt.toNat)) = bt m from funext (fun k => (bt_one em ix).symm)]
  rfl
/-! the reference's rows -/
theorem gd_m {ZL : List (List Nat)} {f : List Nat → Int} {i : Nat} (h : i < ZL.length) : (ZL.map f).getD i 0 = f (ZL.getD i []) := by
  rw [List.getD_eq_getElem?_getD, List.getD_eq_getElem?_getD, List.getElem?_map, List.getElem?_eq_getElem h]
  rfl
theorem gd_mem {ZL : List (List Nat)} {i : Nat} (h : i < ZL.length) : ZL.getD i [] ∈ ZL := by
  rw [List.getD_eq_getElem?_getD, List.getElem?_eq_getElem h]
  exact List.getElem_mem h
theorem way_k {s : GS} {w : Nat → Int} {i : Nat} {l : List Nat} (h : WAY (s.1 134) (s.2.1 135) w i l) (hl : l.length ≤ 4) : KYV s (i : Int) + 137438953472000000 = kfn w 137438953472000000 0 0 l := by
  obtain ⟨h0, hj, hw⟩ := h
  have a1 : (s.1 134 (5 * i + 1)).toInt = _ := hj 0 (by omega)
  have a2 : (s.1 134 (5 * i + 2)).toInt = _ := hj 1 (by omega)
  have a3 : (s.1 134 (5 * i + 3)).toInt = _ := hj 2 (by omega)
  have a4 : (s.1 134 (5 * i + 4)).toInt = _ := hj 3 (by omega)
  have b0 : (s.1 134 (5 * i + 0)).toInt = _ := h0
  unfold KYV shW shE kfn
  rw [Int.toNat_natCast, hw, b0, a1, a2, a3, a4]
  rcases l with _ | ⟨a, _ | ⟨b, _ | ⟨c, _ | ⟨d, _ | ⟨e, l⟩⟩⟩⟩⟩
  · show (0 : Int) * 34359738368 + 0 * 4294967296 + 0 * 16777216 + 0 * 65536 + 0 * 256 + 0 + 137438953472000000 = 0 + 0 + 137438953472000000 + (0 + 0) * 4294967296
    omega
  · show (w a + 0) * 34359738368 + 1 * 4294967296 + (a : Int) * 16777216 + 0 * 65536 + 0 * 256 + 0 + 137438953472000000 = 0 + (w a * 34359738368 + (a : Int) * 16777216 + 0) + 137438953472000000 + (0 + 1) * 4294967296
    omega
  · show (w a + (w b + 0)) * 34359738368 + 2 * 4294967296 + (a : Int) * 16777216 + (b : Int) * 65536 + 0 * 256 + 0 + 137438953472000000 = 0 + (w a * 34359738368 + (a : Int) * 16777216 + (w b * 34359738368 + (b : Int) * 65536 + 0)) + 137438953472000000 + (0 + 2) * 4294967296
    omega
  · show (w a + (w b + (w c + 0))) * 34359738368 + 3 * 4294967296 + (a : Int) * 16777216 + (b : Int) * 65536 + (c : Int) * 256 + 0 + 137438953472000000 = 0 + (w a * 34359738368 + (a : Int) * 16777216 + (w b * 34359738368 + (b : Int) * 65536 + (w c * 34359738368 + (c : Int) * 256 + 0))) + 137438953472000000 + (0 + 3) * 4294967296
    omega
  · show (w a + (w b + (w c + (w d + 0)))) * 34359738368 + 4 * 4294967296 + (a : Int) * 16777216 + (b : Int) * 65536 + (c : Int) * 256 + (d : Int) + 137438953472000000 = 0 + (w a * 34359738368 + (a : Int) * 16777216 + (w b * 34359738368 + (b : Int) * 65536 + (w c * 34359738368 + (c : Int) * 256 + (w d * 34359738368 + (d : Int) * 1 + 0)))) + 137438953472000000 + (0 + 4) * 4294967296
    omega
  · rw [List.length_cons, List.length_cons, List.length_cons, List.length_cons, List.length_cons] at hl
    omega
theorem rz_cn {s : GS} {w : Nat → Int} {ZL : List (List Nat)} {c : Int} (hz : RZ (s.1 134) (s.2.1 135) w c ZL) (hl : ∀ l, l ∈ ZL → l.length ≤ 4) (v : Int) : cn (fun k => KYV s (k : Int) + 137438953472000000) v c.toNat = cn (fun i => (ZL.map (kfn w 137438953472000000 0 0)).getD i 0) v c.toNat := cn_eq c.toNat (fun k hk => by
  have e := hz.1
  have kl : k < ZL.length := by
    by_cases q : (ZL.length : Int) ≤ 2000
    · rw [cap_l q] at e; omega
    · rw [cap_g (by omega)] at e; omega
  show KYV s (k : Int) + 137438953472000000 = (ZL.map (kfn w 137438953472000000 0 0)).getD k 0
  rw [gd_m kl]
  exact way_k (hz.2 k (by omega)) (hl _ (gd_mem kl)))
/-! the digits of a key -/
theorem lsr_32 {x z : Int64} (hz : z = x >>> ((Int32.ofInt 32).toInt64 &&& 63)) : z.toInt = x.toInt / 4294967296 := by
  rw [hz]
  show (x.toBitVec.sshiftRight' (((Int32.ofInt 32).toInt64 &&& 63).toBitVec.smod 64#64)).toInt = x.toBitVec.toInt / 4294967296
  rw [show (((Int32.ofInt 32).toInt64 &&& 63).toBitVec.smod 64#64) = 32#64 from (by decide +kernel), BitVec.sshiftRight_eq', BitVec.toInt_sshiftRight, Int.shiftRight_eq_div_pow]
  rfl
theorem lsr_24 {x z : Int64} (hz : z = x >>> ((Int32.ofInt 24).toInt64 &&& 63)) : z.toInt = x.toInt / 16777216 := by
  rw [hz]
  show (x.toBitVec.sshiftRight' (((Int32.ofInt 24).toInt64 &&& 63).toBitVec.smod 64#64)).toInt = x.toBitVec.toInt / 16777216
  rw [show (((Int32.ofInt 24).toInt64 &&& 63).toBitVec.smod 64#64) = 24#64 from (by decide +kernel), BitVec.sshiftRight_eq', BitVec.toInt_sshiftRight, Int.shiftRight_eq_div_pow]
  rfl
theorem lsr_16 {x z : Int64} (hz : z = x >>> ((Int32.ofInt 16).toInt64 &&& 63)) : z.toInt = x.toInt / 65536 := by
  rw [hz]
  show (x.toBitVec.sshiftRight' (((Int32.ofInt 16).toInt64 &&& 63).toBitVec.smod 64#64)).toInt = x.toBitVec.toInt / 65536
  rw [show (((Int32.ofInt 16).toInt64 &&& 63).toBitVec.smod 64#64) = 16#64 from (by decide +kernel), BitVec.sshiftRight_eq', BitVec.toInt_sshiftRight, Int.shiftRight_eq_div_pow]
  rfl
theorem lsr_8 {x z : Int64} (hz : z = x >>> ((Int32.ofInt 8).toInt64 &&& 63)) : z.toInt = x.toInt / 256 := by
  rw [hz]
  show (x.toBitVec.sshiftRight' (((Int32.ofInt 8).toInt64 &&& 63).toBitVec.smod 64#64)).toInt = x.toBitVec.toInt / 256
  rw [show (((Int32.ofInt 8).toInt64 &&& 63).toBitVec.smod 64#64) = 8#64 from (by decide +kernel), BitVec.sshiftRight_eq', BitVec.toInt_sshiftRight, Int.shiftRight_eq_div_pow]
  rfl
theorem lsr_0 {x z : Int64} (hz : z = x >>> ((Int32.ofInt 0).toInt64 &&& 63)) : z.toInt = x.toInt / 1 := by
  rw [hz]
  show (x.toBitVec.sshiftRight' (((Int32.ofInt 0).toInt64 &&& 63).toBitVec.smod 64#64)).toInt = x.toBitVec.toInt / 1
  rw [show (((Int32.ofInt 0).toInt64 &&& 63).toBitVec.smod 64#64) = 0#64 from (by decide +kernel), BitVec.sshiftRight_eq', BitVec.toInt_sshiftRight, Int.shiftRight_eq_div_pow]
  rfl
theorem lsr_m8 {x z : Int64} (hz : z = x >>> ((Int32.ofInt (-8)).toInt64 &&& 63)) : z.toInt = x.toInt / 72057594037927936 := by
  rw [hz]
  show (x.toBitVec.sshiftRight' (((Int32.ofInt (-8)).toInt64 &&& 63).toBitVec.smod 64#64)).toInt = x.toBitVec.toInt / 72057594037927936
  rw [show (((Int32.ofInt (-8)).toInt64 &&& 63).toBitVec.smod 64#64) = 56#64 from (by decide +kernel), BitVec.sshiftRight_eq', BitVec.toInt_sshiftRight, Int.shiftRight_eq_div_pow]
  rfl
theorem lsr_m16 {x z : Int64} (hz : z = x >>> ((Int32.ofInt (-16)).toInt64 &&& 63)) : z.toInt = x.toInt / 281474976710656 := by
  rw [hz]
  show (x.toBitVec.sshiftRight' (((Int32.ofInt (-16)).toInt64 &&& 63).toBitVec.smod 64#64)).toInt = x.toBitVec.toInt / 281474976710656
  rw [show (((Int32.ofInt (-16)).toInt64 &&& 63).toBitVec.smod 64#64) = 48#64 from (by decide +kernel), BitVec.sshiftRight_eq', BitVec.toInt_sshiftRight, Int.shiftRight_eq_div_pow]
  rfl
theorem lsr_m24 {x z : Int64} (hz : z = x >>> ((Int32.ofInt (-24)).toInt64 &&& 63)) : z.toInt = x.toInt / 1099511627776 := by
  rw [hz]
  show (x.toBitVec.sshiftRight' (((Int32.ofInt (-24)).toInt64 &&& 63).toBitVec.smod 64#64)).toInt = x.toBitVec.toInt / 1099511627776
  rw [show (((Int32.ofInt (-24)).toInt64 &&& 63).toBitVec.smod 64#64) = 40#64 from (by decide +kernel), BitVec.sshiftRight_eq', BitVec.toInt_sshiftRight, Int.shiftRight_eq_div_pow]
  rfl
theorem lan_8 {z w : Int64} (hw : w = z &&& Int64.ofInt 7) : w.toInt = z.toInt % 8 := by
  have e : w.toBitVec.toNat = z.toBitVec.toNat % 8 := by
    rw [hw]
    show (z.toBitVec &&& (Int64.ofInt 7).toBitVec).toNat = _
    rw [BitVec.toNat_and, show (Int64.ofInt 7).toBitVec.toNat = 2 ^ 3 - 1 from (by decide +kernel), Nat.and_two_pow_sub_one_eq_mod]
  have a := BitVec.toInt_eq_toNat_cond z.toBitVec
  have b := BitVec.toInt_eq_toNat_cond w.toBitVec
  rw [e, if_pos (by omega)] at b
  show w.toBitVec.toInt = z.toBitVec.toInt % 8
  rw [b, a]
  split <;> omega
theorem lan_256 {z w : Int64} (hw : w = z &&& Int64.ofInt 255) : w.toInt = z.toInt % 256 := by
  have e : w.toBitVec.toNat = z.toBitVec.toNat % 256 := by
    rw [hw]
    show (z.toBitVec &&& (Int64.ofInt 255).toBitVec).toNat = _
    rw [BitVec.toNat_and, show (Int64.ofInt 255).toBitVec.toNat = 2 ^ 8 - 1 from (by decide +kernel), Nat.and_two_pow_sub_one_eq_mod]
  have a := BitVec.toInt_eq_toNat_cond z.toBitVec
  have b := BitVec.toInt_eq_toNat_cond w.toBitVec
  rw [e, if_pos (by omega)] at b
  show w.toBitVec.toInt = z.toBitVec.toInt % 256
  rw [b, a]
  split <;> omega
/-- the arc's place: digit i of the key -/
def dpw : Nat → Int
  | 0 => 16777216
  | 1 => 65536
  | 2 => 256
  | 3 => 1
  | 4 => 72057594037927936
  | 5 => 281474976710656
  | _ => 1099511627776
def dgv (i k : Int) : Int := k / dpw i.toNat % 256
theorem lsr_j {x z w : Int64} {y : Int32} {i : Int} (hz : z = x >>> (y.toInt64 &&& 63)) (hy : y.toInt = 24 - 8 * i) (h0 : 0 ≤ i) (h6 : i ≤ 6) (hw : w = z &&& Int64.ofInt 255) : w.toInt = dgv i x.toInt := by
  rw [lan_256 hw]
  unfold dgv
  rcases (show i = 0 ∨ i = 1 ∨ i = 2 ∨ i = 3 ∨ i = 4 ∨ i = 5 ∨ i = 6 by omega) with c | c | c | c | c | c | c
  · have e : y = Int32.ofInt 24 := i_eq.mpr (by rw [hy, c]; rfl)
    rw [e] at hz
    rw [lsr_24 hz, c]
    rfl
  · have e : y = Int32.ofInt 16 := i_eq.mpr (by rw [hy, c]; rfl)
    rw [e] at hz
    rw [lsr_16 hz, c]
    rfl
  · have e : y = Int32.ofInt 8 := i_eq.mpr (by rw [hy, c]; rfl)
    rw [e] at hz
    rw [lsr_8 hz, c]
    rfl
  · have e : y = Int32.ofInt 0 := i_eq.mpr (by rw [hy, c]; rfl)
    rw [e] at hz
    rw [lsr_0 hz, c]
    rfl
  · have e : y = Int32.ofInt (-8) := i_eq.mpr (by rw [hy, c]; rfl)
    rw [e] at hz
    rw [lsr_m8 hz, c]
    rfl
  · have e : y = Int32.ofInt (-16) := i_eq.mpr (by rw [hy, c]; rfl)
    rw [e] at hz
    rw [lsr_m16 hz, c]
    rfl
  · have e : y = Int32.ofInt (-24) := i_eq.mpr (by rw [hy, c]; rfl)
    rw [e] at hz
    rw [lsr_m24 hz, c]
    rfl
/-- the answer: the i-th arc of the k-th way -/
def SAV (g : GVW) (u v : Nat) (k i z : Int) : Prop := ((2000 < SHN g u v ∨ SHN g u v ≤ k) ∧ z = -1) ∨ (SHN g u v ≤ 2000 ∧ k < SHN g u v ∧ ∃ S : Nat → Int, SRT S (SHN g u v).toNat ∧ (∀ x : Int, cn S x (SHN g u v).toNat = cn (fun j => (KLS g u v).getD j 0) x (SHN g u v).toNat) ∧ ((S k.toNat / 4294967296 % 8 ≤ i ∧ z = -1) ∨ (i < S k.toNat / 4294967296 % 8 ∧ z = dgv i (S k.toNat))))
theorem sav_u {g : GVW} {u v : Nat} {k i y z : Int} (h0 : 0 ≤ k) (a : SAV g u v k i y) (b : SAV g u v k i z) : y = z := by
  rcases a with ⟨a1, a2⟩ | ⟨a1, a2, S, a3, a4, a5⟩
  · rcases b with ⟨b1, b2⟩ | ⟨b1, b2, -⟩
    · rw [a2, b2]
    · omega
  · rcases b with ⟨b1, b2⟩ | ⟨b1, b2, R, b3, b4, b5⟩
    · omega
    · have e := srt_u (fun x => (a4 x).trans (b4 x).symm) a3 b3 k.toNat (by omega)
      rw [e] at a5
      omega
/-- the digits of a row's number -/
theorem kyv_d {s : GS} {x : Int} (hr : SHQR s x.toNat) (ho : SOK s x.toNat) : (KYV s x + 137438953472000000) / 4294967296 % 8 = shE s x.toNat 0 ∧ ∀ i : Int, 0 ≤ i → i ≤ 3 → dgv i (KYV s x + 137438953472000000) = shE s x.toNat (i.toNat + 1) := by
  have r0 := ho.1
  have r1 := hr 1 (by omega)
  have r2 := hr 2 (by omega)
  have r3 := hr 3 (by omega)
  have r4 := hr 4 (by omega)
  refine ⟨?_, fun i h0 h3 => ?_⟩
  · unfold KYV
    omega
  · unfold dgv KYV
    rcases (show i = 0 ∨ i = 1 ∨ i = 2 ∨ i = 3 by omega) with c | c | c | c
    · rw [c]
      show _ / 16777216 % 256 = shE s x.toNat 1
      omega
    · rw [c]
      show _ / 65536 % 256 = shE s x.toNat 2
      omega
    · rw [c]
      show _ / 256 % 256 = shE s x.toNat 3
      omega
    · rw [c]
      show _ / 1 % 256 = shE s x.toNat 4
      omega
end
section
/-! THE REFERENCE'S SHORT WAYS -/
def wgv (g : GVW) (p : Nat) : Int := (g.2.2.2.1 p).toInt
theorem smq_s {f : Nat → Int} {n : Nat} : sm f (n + 1) = sm f n + f n := rfl
theorem shl_ok {g : GVW} (hN : NDQ g) {t : Int} : ∀ (d : Nat) (u : Int) (V : Nat → Bool) (l : List Nat), 0 ≤ u → l ∈ shl (ARE g 0) (ARE g 1) t d u V → ∀ p, p ∈ l → p < 160 ∧ (g.2.1 p).toInt ≠ -1
  | 0, _, _, _, _, h => by cases h
  | d + 1, u, V, l, hu, h => by
    rw [shl_s] at h
    obtain ⟨p, hp, hl⟩ := lsm_m 160 h
    have hl2 : l ∈ (if ARE g 0 p = u then slp (ARE g 0) (ARE g 1) t d V p else []) := hl
    by_cases c : ARE g 0 p = u
    · have ne : (g.2.1 p).toInt ≠ -1 := fun z => by
        rw [are_no z] at c
        omega
      rw [if_pos c] at hl2
      unfold slp at hl2
      by_cases c1 : ARE g 1 p = t
      · rw [if_pos c1] at hl2
        rw [List.mem_singleton.mp hl2]
        intro q hq
        rw [List.mem_singleton.mp hq]
        exact ⟨hp, ne⟩
      · rw [if_neg c1] at hl2
        by_cases c2 : V (ARE g 1 p).toNat = true
        · rw [if_pos c2] at hl2
          cases hl2
        · rw [if_neg c2] at hl2
          obtain ⟨m, hm, rfl⟩ := List.mem_map.mp hl2
          have tp : 0 ≤ ARE g 1 p := by
            obtain ⟨-, b0, -⟩ := hN p hp ne
            rw [are_t hp ne (by decide)]
            exact b0
          intro q hq
          rcases List.mem_cons.mp hq with e | e
          · rw [e]
            exact ⟨hp, ne⟩
          · exact shl_ok hN d _ _ m tp hm q e
    · rw [if_neg c] at hl2
      cases hl2
theorem eky_cg {w w2 : Nat → Int} : ∀ (l : List Nat) (j : Nat), (∀ p, p ∈ l → w p = w2 p) → eky w j l = eky w2 j l
  | [], _, _ => rfl
  | p :: l, j, h => by
    show w p * 34359738368 + (p : Int) * pwj j + eky w (j + 1) l = w2 p * 34359738368 + (p : Int) * pwj j + eky w2 (j + 1) l
    rw [h p (List.mem_cons.mpr (Or.inl rfl)), eky_cg l (j + 1) (fun q hq => h q (List.mem_cons.mpr (Or.inr hq)))]
theorem kls_e {g h : GVW} (q : GEW g h) (hN : NDQ g) {u v : Nat} : KLS g u v = KLS h u v := by
  have e : WLS g u v = WLS h u v := by
    unfold WLS
    rw [are_x q 0, are_x q 1]
  unfold KLS
  rw [← e]
  refine List.map_congr_left (fun l hl => ?_)
  have e2 : eky (fun p => (g.2.2.2.1 p).toInt) 0 l = eky (fun p => (h.2.2.2.1 p).toInt) 0 l := eky_cg l 0 (fun p hp => by
    obtain ⟨a, b⟩ := shl_ok hN 4 (u : Int) _ l (by omega) hl p hp
    exact congrArg Int32.toInt (q.2.2.1 p a b).2.1)
  unfold kfn
  rw [e2]
theorem sav_v {g h : GVW} (q : GEW g h) (hN : NDQ g) {u v : Nat} {k i y z : Int} (h0 : 0 ≤ k) (a : SAV g u v k i y) (b : SAV h u v k i z) : y = z := by
  have a2 : SAV h u v k i y := by
    unfold SAV at a ⊢
    rw [kls_e q hN, shn_e q] at a
    exact a
  exact sav_u h0 a2 b
/-! one way more -/
def ARG (l : List Nat) (n a b c d : Int) : Prop := (l.length : Int) = n ∧ n ≤ 4 ∧ ((l.getD 0 0 : Nat) : Int) = a ∧ ((l.getD 1 0 : Nat) : Int) = b ∧ ((l.getD 2 0 : Nat) : Int) = c ∧ ((l.getD 3 0 : Nat) : Int) = d
theorem wsm_s {w F : Nat → Int} {l : List Nat} (hl : l.length ≤ 4) (h : ∀ j, j < 4 → F j = w (l.getD j 0)) : sm F l.length = wsm w l := by
  rcases l with _ | ⟨a, _ | ⟨b, _ | ⟨c, _ | ⟨d, _ | ⟨e, l⟩⟩⟩⟩⟩
  · rfl
  · have a0 : F 0 = w a := h 0 (by omega)
    show 0 + F 0 = w a + 0
    omega
  · have a0 : F 0 = w a := h 0 (by omega)
    have a1 : F 1 = w b := h 1 (by omega)
    show 0 + F 0 + F 1 = w a + (w b + 0)
    omega
  · have a0 : F 0 = w a := h 0 (by omega)
    have a1 : F 1 = w b := h 1 (by omega)
    have a2 : F 2 = w c := h 2 (by omega)
    show 0 + F 0 + F 1 + F 2 = w a + (w b + (w c + 0))
    omega
  · have a0 : F 0 = w a := h 0 (by omega)
    have a1 : F 1 = w b := h 1 (by omega)
    have a2 : F 2 = w c := h 2 (by omega)
    have a3 : F 3 = w d := h 3 (by omega)
    show 0 + F 0 + F 1 + F 2 + F 3 = w a + (w b + (w c + (w d + 0)))
    omega
  · rw [List.length_cons, List.length_cons, List.length_cons, List.length_cons, List.length_cons] at hl
    omega
theorem rz_0 {f : Nat → Int32} {g : Nat → Int64} {w : Nat → Int} {c : Int} (h : c = 0) : RZ f g w c [] := by
  refine ⟨?_, fun i hi => by omega⟩
  rw [h]
  exact (cap_l (show ((([] : List (List Nat)).length : Nat) : Int) ≤ 2000 by decide)).symm
theorem rz_add {f f2 : Nat → Int32} {g g2 : Nat → Int64} {w : Nat → Int} {c c2 n a b k d : Int} {ZL : List (List Nat)} {l : List Nat} {z : Int64} (h : RZ f g w c ZL) (h0 : 0 ≤ c) (hc : c ≤ 2000) (hf : ∀ q : Nat, (q : Int) < 5 * c → f2 q = f q) (hl : ARG l n a b k d) (r : (f2 (5 * c.toNat)).toInt = n ∧ (f2 (5 * c.toNat + 1)).toInt = a ∧ (f2 (5 * c.toNat + 2)).toInt = b ∧ (f2 (5 * c.toNat + 3)).toInt = k ∧ (f2 (5 * c.toNat + 4)).toInt = d) (hg : g2 = vp_updL g c.toNat z) (hz : z.toInt = sm (fun j => w (f2 (5 * c.toNat + (j + 1))).toInt.toNat) n.toNat) (h2 : c2 = c + 1) : RZ f2 g2 w c2 (ZL ++ [l]) := by
  obtain ⟨l0, l4, l1, l2, l3, l5⟩ := hl
  obtain ⟨r0, r1, r2, r3, r4⟩ := r
  have rj : ∀ j : Nat, j < 4 → (f2 (5 * c.toNat + (j + 1))).toInt = ((l.getD j 0 : Nat) : Int) := fun j hj => by
    match j, hj with
    | 0, _ => exact r1.trans l1.symm
    | 1, _ => exact r2.trans l2.symm
    | 2, _ => exact r3.trans l3.symm
    | 3, _ => exact r4.trans l5.symm
    | j + 4, hj => omega
  refine rz_a h h0 hc hf (fun q hq => by rw [hg]; exact vp_ne (by omega)) ⟨r0.trans l0.symm, rj, ?_⟩ h2
  rw [hg, vp_at, hz, show n.toNat = l.length by omega]
  exact wsm_s (by omega) (fun j hj => by
    show w (f2 (5 * c.toNat + (j + 1))).toInt.toNat = w (l.getD j 0)
    rw [rj j hj, Int.toNat_natCast])
/-! the arcs below m -/
def slx (F T : Nat → Int) (t : Int) (d u : Nat) (V : Nat → Bool) (m : Nat) : List (List Nat) := lsm (fun p => if F p = (u : Int) then slp F T t d V p else []) m
section SLX
variable {F T : Nat → Int} {t : Int} {d u : Nat} {V : Nat → Bool}
theorem slx_e : slx F T t d u V 160 = shl F T t (d + 1) (u : Int) V := rfl
theorem slx_n {m : Nat} (h : F m ≠ (u : Int)) : slx F T t d u V (m + 1) = slx F T t d u V m := by
  show slx F T t d u V m ++ (if F m = (u : Int) then slp F T t d V m else []) = _
  rw [if_neg h, List.append_nil]
theorem slx_s {m : Nat} (h : F m = (u : Int)) : slx F T t d u V (m + 1) = slx F T t d u V m ++ slp F T t d V m := by
  show slx F T t d u V m ++ (if F m = (u : Int) then slp F T t d V m else []) = _
  rw [if_pos h]
theorem slx_p {m : Nat} (hm : m ≤ 160) : ∃ R, shl F T t (d + 1) (u : Int) V = slx F T t d u V m ++ R := by
  obtain ⟨R, h⟩ := lsm_sp (f := fun p => if F p = (u : Int) then slp F T t d V p else []) (p := m) (160 - m)
  rw [show m + (160 - m) = 160 by omega] at h
  exact ⟨R, h⟩
theorem slp_0d {p : Nat} (h : T p ≠ t) : slp F T t 0 V p = [] := by
  unfold slp
  rw [if_neg h]
  split
  · rfl
  · rfl
theorem shl_1 {u : Int} {V W : Nat → Bool} : shl F T t 1 u V = shl F T t 1 u W := by
  rw [shl_s, shl_s]
  refine lsm_eq 160 (fun p _ => ?_)
  by_cases c : T p = t
  · rw [slp_t c, slp_t c]
  · rw [slp_0d c, slp_0d c]
end SLX
theorem soa_rz {s : GS} {w : Nat → Int} {ZL : List (List Nat)} (hz : RZ (s.1 134) (s.2.1 135) w (s.2.2.1 109 40).toInt ZL) (hl : ∀ l, l ∈ ZL → 1 ≤ l.length ∧ l.length ≤ 4) : SOA s := fun x hx => by
  have e := hz.1
  have xl : x < ZL.length := by
    by_cases q : (ZL.length : Int) ≤ 2000
    · rw [cap_l q] at e; omega
    · rw [cap_g (by omega)] at e; omega
  obtain ⟨a, b, -⟩ := hz.2 x hx
  have q := hl _ (gd_mem xl)
  have a0 : shE s x 0 = ((ZL.getD x []).length : Int) := a
  refine ⟨⟨by rw [a0]; omega, by rw [a0]; omega⟩, fun i h4 hi => ?_⟩
  rw [a0] at hi
  show (s.1 134 (5 * x + i)).toInt = 0
  obtain ⟨j, rfl⟩ : ∃ j, i = j + 1 := ⟨i - 1, by omega⟩
  rw [b j (by omega), List.getD_eq_getElem?_getD, List.getElem?_eq_none (by omega)]
  rfl
theorem sav_r {r t : GS} {g : GVW} {u v : Nat} {k i z : Int} {x : Int32} (hI : Inv r) (hz : RZ (r.1 134) (r.2.1 135) (wgv g) (r.2.2.1 109 40).toInt (WLS g u v)) (hn : (r.2.2.1 109 40).toInt = SHN g u v) (hs : SRV (KYV r) (oi (t.1 136)) 0 (r.2.2.1 109 40).toInt.toNat ∧ PRI (t.1 136) (r.2.2.1 109 40).toInt.toNat ∧ RNO (t.1 136) (r.2.2.1 109 40).toInt.toNat) (h20 : (r.2.2.1 109 40).toInt ≤ 2000) (hk0 : 0 ≤ k) (hk : k < (r.2.2.1 109 40).toInt) (hx : x = t.1 136 k.toNat) (h : (shE r x.toInt.toNat 0 ≤ i ∧ z = -1) ∨ (i < shE r x.toInt.toNat 0 ∧ 0 ≤ i ∧ z = shE r x.toInt.toNat (i.toNat + 1))) : SAV g u v k i z := by
  have hx0 := hs.2.2 k.toNat (by omega)
  rw [← hx] at hx0
  have ok : SOK r x.toInt.toNat := soa_rz hz (fun l hl => shl_ll 4 _ _ l hl) x.toInt.toNat (by omega)
  have hr : SHQR r x.toInt.toNat := shr_i hI ⟨hx0.1, by omega⟩
  obtain ⟨d1, d2⟩ := kyv_d hr ok
  refine Or.inr ⟨by omega, by omega, fun j => KYV r (oi (t.1 136) j) + 137438953472000000, ?_, ?_, ?_⟩
  · rw [← hn]
    intro p q a b
    have h9 := hs.1 p q (by omega) a b
    show KYV r (oi (t.1 136) p) + 137438953472000000 ≤ KYV r (oi (t.1 136) q) + 137438953472000000
    omega
  · intro y
    rw [← hn]
    have a := cn_prm (V := fun z => KYV r z + 137438953472000000) hs.2.1 hs.2.2 y
    have b := rz_cn hz (fun l hl => (shl_ll 4 _ _ l hl).2) y
    exact a.trans b
  · show ((KYV r (oi (t.1 136) k.toNat) + 137438953472000000) / 4294967296 % 8 ≤ i ∧ z = -1) ∨ (i < (KYV r (oi (t.1 136) k.toNat) + 137438953472000000) / 4294967296 % 8 ∧ z = dgv i (KYV r (oi (t.1 136) k.toNat) + 137438953472000000))
    rw [show oi (t.1 136) k.toNat = x.toInt from congrArg Int32.toInt hx.symm, d1]
    rcases h with h | ⟨h1, h2, h3⟩
    · exact Or.inl h
    · have o := ok.1
      exact Or.inr ⟨h1, by rw [d2 i h2 (by omega)]; exact h3⟩
def SKG (g : GVW) (s : GS) : Prop := NDQ g ∧ SHG g s ∧ KSG g s
def SKBC (s : GS) : Prop := SHB (shC s) s ∧ KSB (shC s) s
def SHAR (s t : GS) (x y k i z : Int32) : Prop := ((t.2.2.1 109 0).toInt = 1 ∧ ¬ (TWO (s.2.2.1 109 20).toInt x y ∧ 0 ≤ k.toInt ∧ 0 ≤ i.toInt)) ∨ ((t.2.2.1 109 0).toInt = 0 ∧ (TWO (s.2.2.1 109 20).toInt x y ∧ 0 ≤ k.toInt ∧ 0 ≤ i.toInt) ∧ SAV (gvZ s) x.toNatClampNeg y.toNatClampNeg k.toInt i.toInt z.toInt)
end
