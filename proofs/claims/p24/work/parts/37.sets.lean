/-! rows of bits as sets of nodes: bt a bit, cb how many -/
def cbf (f : Nat → Bool) : Nat → Nat
  | 0 => 0
  | n + 1 => cbf f n + (f n).toNat
def cb (x : Int32) : Nat := cbf (bt x) 32
theorem cbf_le (f : Nat → Bool) : ∀ n, cbf f n ≤ n
  | 0 => Nat.le_refl 0
  | n + 1 => by
    have h := cbf_le f n
    have h2 := Bool.toNat_le (f n)
    show cbf f n + (f n).toNat ≤ n + 1
    omega
theorem cbf_out {f g : Nat → Bool} {n : Nat} (h : ∀ k, k < n → g k = f k) : cbf g n = cbf f n := by
  induction n with
  | zero => rfl
  | succ n ih =>
    show cbf g n + (g n).toNat = cbf f n + (f n).toNat
    rw [ih (fun k hk => h k (by omega)), h n (by omega)]
theorem cbf_clr {f g : Nat → Bool} {u : Nat} (hf : f u = true) (hu : g u = false) : ∀ {n}, u < n → (∀ k, k < n → k ≠ u → g k = f k) → cbf g n + 1 = cbf f n := by
  intro n
  induction n with
  | zero => intro h; omega
  | succ n ih =>
    intro h hg
    show cbf g n + (g n).toNat + 1 = cbf f n + (f n).toNat
    by_cases e : u = n
    · subst e
      rw [cbf_out (fun k hk => hg k (by omega) (by omega)), hf, hu]
      rfl
    · have := ih (by omega) (fun k hk => hg k (by omega))
      rw [hg n (by omega) (fun z => e z.symm)]
      omega
theorem cbf_0 {f : Nat → Bool} : ∀ {n}, (∀ k, k < n → f k = false) → cbf f n = 0 := by
  intro n
  induction n with
  | zero => intro _; rfl
  | succ n ih =>
    intro h
    show cbf f n + (f n).toNat = 0
    rw [ih (fun k hk => h k (by omega)), h n (by omega)]
    rfl
theorem cbf_pos {f : Nat → Bool} : ∀ {n}, 0 < cbf f n → ∃ k, k < n ∧ f k = true := by
  intro n
  induction n with
  | zero => intro h; exact absurd h (Nat.lt_irrefl 0)
  | succ n ih =>
    intro h
    cases e : f n with
    | true => exact ⟨n, by omega, e⟩
    | false =>
      have h : 0 < cbf f n + (f n).toNat := h
      rw [e] at h
      obtain ⟨k, a, b⟩ := ih h
      exact ⟨k, by omega, b⟩
theorem cbf_mono {f g : Nat → Bool} : ∀ {n}, (∀ k, k < n → f k = true → g k = true) → cbf f n ≤ cbf g n := by
  intro n
  induction n with
  | zero => intro _; exact Nat.le_refl 0
  | succ n ih =>
    intro h
    have h1 := ih (fun k hk => h k (by omega))
    show cbf f n + (f n).toNat ≤ cbf g n + (g n).toNat
    cases e : f n with
    | false => have : false.toNat = 0 := rfl; omega
    | true => rw [h n (by omega) e]; omega
section SETS
variable {x y z z1 z2 u : Int32} {k : Nat} {a b : Int}
theorem cb_le (x : Int32) : cb x ≤ 32 := cbf_le _ 32
theorem i_nat (hu : In u 0 31) : ∃ k : Nat, k < 32 ∧ u = Int32.ofNat k ∧ u.toNatClampNeg = k ∧ u.toInt = (k : Int) := by
  obtain ⟨h1, h2⟩ := hu
  refine ⟨u.toInt.toNat, by omega, ?_, rfl, by omega⟩
  exact Int32.toInt_inj.mp (by rw [Int32.toInt_ofNat_of_lt (by omega)]; omega)
theorem shl_all : ∀ k : Fin 32, (Int32.ofInt 1 <<< (Int32.ofNat k.val &&& 31) : Int32).toBitVec = BitVec.twoPow 32 k.val := by decide +kernel
theorem bt_one (e : z = Int32.ofInt 1 <<< (u &&& 31)) (hu : In u 0 31) : bt z k = decide (k = u.toNatClampNeg) := by
  obtain ⟨j, h1, h2, h3, -⟩ := i_nat hu
  unfold bt
  rw [h3, e, h2, shl_all ⟨j, h1⟩, BitVec.getLsbD_twoPow]
  by_cases c : j = k
  · subst c; simp [h1]
  · have c2 : ¬ k = j := fun w => c w.symm
    simp [c, c2]
theorem bt_lt (h : bt x k = true) : k < 32 := by
  unfold bt at h
  exact Nat.lt_of_not_le fun c => by rw [BitVec.getLsbD_of_ge _ _ c] at h; cases h
theorem bt_and (e : z = x &&& y) : bt z k = (bt x k && bt y k) := by
  unfold bt
  rw [e, show (x &&& y).toBitVec = x.toBitVec &&& y.toBitVec from rfl, BitVec.getLsbD_and]
theorem bt_or (e : z = x ||| y) : bt z k = (bt x k || bt y k) := by
  unfold bt
  rw [e, show (x ||| y).toBitVec = x.toBitVec ||| y.toBitVec from rfl, BitVec.getLsbD_or]
theorem bt_not (e : z = x ^^^ Int32.ofInt (-1)) (hk : k < 32) : bt z k = !(bt x k) := by
  unfold bt
  rw [e, show (x ^^^ Int32.ofInt (-1)).toBitVec = x.toBitVec ^^^ BitVec.allOnes 32 from rfl, BitVec.getLsbD_xor, BitVec.getLsbD_allOnes]
  simp [hk]
theorem bt_and1 (e : z = x &&& y) (h : bt z k = true) : bt x k = true := by
  rw [bt_and e, Bool.and_eq_true] at h
  exact h.1
theorem bt_and2 (e : z = x &&& y) (h : bt z k = true) : bt y k = true := by
  rw [bt_and e, Bool.and_eq_true] at h
  exact h.2
theorem bt_clr (e1 : z1 = Int32.ofInt 1 <<< (u &&& 31)) (e2 : z2 = z1 ^^^ Int32.ofInt (-1)) (e : z = x &&& z2) (hu : In u 0 31) (hk : k < 32) : bt z k = (bt x k && !(decide (k = u.toNatClampNeg))) := by
  rw [bt_and e, bt_not e2 hk, bt_one e1 hu]
theorem bt_set (e1 : z1 = Int32.ofInt 1 <<< (u &&& 31)) (e : z = x ||| z1) (hu : In u 0 31) : bt z k = (bt x k || decide (k = u.toNatClampNeg)) := by
  rw [bt_or e, bt_one e1 hu]
theorem cb_clr (e1 : z1 = Int32.ofInt 1 <<< (u &&& 31)) (e2 : z2 = z1 ^^^ Int32.ofInt (-1)) (e : z = x &&& z2) (hu : In u 0 31) (hx : bt x u.toNatClampNeg = true) : cb z + 1 = cb x := by
  have hl := bt_lt hx
  refine cbf_clr hx ?_ hl (fun k hk hne => ?_)
  · rw [bt_clr e1 e2 e hu hl]; simp
  · rw [bt_clr e1 e2 e hu hk]; simp [hne]
theorem cb_set (e1 : z1 = Int32.ofInt 1 <<< (u &&& 31)) (e : z = x ||| z1) (hu : In u 0 31) (hx : bt x u.toNatClampNeg = false) : cb x + 1 = cb z := by
  obtain ⟨j, h1, -, h3, -⟩ := i_nat hu
  refine cbf_clr (u := u.toNatClampNeg) ?_ hx (by rw [h3]; exact h1) (fun k hk hne => ?_)
  · rw [bt_set e1 e hu]; simp
  · rw [bt_set e1 e hu]; simp [hne]
theorem cb_z : cb 0 = 0 := by decide +kernel
theorem cb_nz (h : 0 < cb x) : x.toInt ≠ 0 := fun e => by
  rw [Int32.toInt_inj.mp (show x.toInt = (0 : Int32).toInt from e), cb_z] at h
  exact Nat.lt_irrefl 0 h
theorem nz_cb (h : x.toInt ≠ 0) : 0 < cb x := by
  obtain ⟨k, h1, h2, -⟩ := low32 h
  have := cbf_clr (f := bt x) (g := fun j => bt x j && !(decide (j = k))) (u := k) h2 (by simp) h1 (fun j _ hne => by simp [hne])
  show 0 < cbf (bt x) 32
  omega
theorem cb_m1 : cb (Int32.ofInt (-1)) = 32 := by decide +kernel
theorem cb_all0 : ∀ k : Fin 32, cb ((Int32.ofInt 1 <<< (Int32.ofNat k.val &&& 31) : Int32) - Int32.ofInt 1) = k.val := by decide +kernel
theorem cb_all (e1 : z1 = Int32.ofInt 1 <<< (u &&& 31)) (e : z = z1 - Int32.ofInt 1) (hu : In u 0 31) : (cb z : Int) = u.toInt := by
  obtain ⟨j, h1, h2, -, h4⟩ := i_nat hu
  rw [h4, e, e1, h2, cb_all0 ⟨j, h1⟩]
theorem bt_m1 (hk : k < 32) : bt (Int32.ofInt (-1)) k = true := by
  unfold bt
  rw [show (Int32.ofInt (-1)).toBitVec = BitVec.allOnes 32 from rfl, BitVec.getLsbD_allOnes]
  simp [hk]
theorem bt_all0 : ∀ k j : Fin 32, bt ((Int32.ofInt 1 <<< (Int32.ofNat k.val &&& 31) : Int32) - Int32.ofInt 1) j.val = decide (j.val < k.val) := by decide +kernel
theorem bt_all (e1 : z1 = Int32.ofInt 1 <<< (u &&& 31)) (e : z = z1 - Int32.ofInt 1) (hu : In u 0 31) (hk : k < 32) : bt z k = decide ((k : Int) < u.toInt) := by
  obtain ⟨j, h1, h2, -, h4⟩ := i_nat hu
  rw [h4, e, e1, h2, bt_all0 ⟨j, h1⟩ ⟨k, hk⟩]
  simp
theorem bt_z : bt 0 k = false := by
  unfold bt
  rw [show (0 : Int32).toBitVec = 0#32 from rfl, BitVec.getLsbD_zero]
/-- a bit as the code asks for it: x >> u & 1 -/
theorem bt_ask (e1 : z1 = x >>> (u &&& 31)) (e : z = z1 &&& Int32.ofInt 1) (hu : In u 0 31) : z.toInt = if bt x u.toNatClampNeg then 1 else 0 := by
  obtain ⟨j, h1, h2, h3, h4⟩ := i_nat hu
  have hb := has_bit (x := x) (y := u) h4 h1
  unfold hasB at hb
  rw [h3]
  have h01 := in_and2 e (in_c 1 rfl) rfl
  rw [← e1, ← e] at hb
  unfold bt
  cases c : x.toBitVec.getLsbD j with
  | true => rw [if_pos rfl]; exact hb.mpr c
  | false =>
    rw [if_neg (by decide)]
    have : z.toInt ≠ 1 := fun w => by rw [hb.mp w] at c; cases c
    obtain ⟨a1, a2⟩ := h01
    omega
theorem bt_yes (e1 : z1 = x >>> (u &&& 31)) (e : z = z1 &&& Int32.ofInt 1) (hu : In u 0 31) (c : z.toInt = (Int32.ofInt 1).toInt) : bt x u.toNatClampNeg = true := by
  have h := bt_ask e1 e hu
  cases hb : bt x u.toNatClampNeg with
  | true => rfl
  | false =>
    rw [hb] at h
    rw [h] at c
    exact absurd c (by decide)
theorem bt_no (e1 : z1 = x >>> (u &&& 31)) (e : z = z1 &&& Int32.ofInt 1) (hu : In u 0 31) (c : z.toInt ≠ (Int32.ofInt 1).toInt) : bt x u.toNatClampNeg = false := by
  have h := bt_ask e1 e hu
  cases hb : bt x u.toNatClampNeg with
  | false => rfl
  | true =>
    rw [hb] at h
    exact absurd h c
theorem bt_ext (h : ∀ k, k < 32 → bt x k = bt y k) : x = y := by
  refine Int32.toBitVec_inj.mp (BitVec.eq_of_getLsbD_eq fun i hi => ?_)
  exact h i hi
theorem cb_ss (h : ∀ k, bt x k = true → bt y k = true) (hn : x ≠ y) : cb x < cb y := by
  refine Nat.lt_of_not_le fun c => hn ?_
  refine bt_ext fun k hk => ?_
  cases e : bt x k with
  | true => rw [h k e]
  | false =>
    cases e2 : bt y k with
    | false => rfl
    | true =>
      have h1 := cbf_clr (f := bt y) (g := fun j => bt y j && !(decide (j = k))) (u := k) e2 (by simp) hk (fun j _ hne => by simp [hne])
      have h2 : cb x ≤ cbf (fun j => bt y j && !(decide (j = k))) 32 := cbf_mono fun j _ hj => by
        have hne : j ≠ k := fun w => by rw [w, e] at hj; cases hj
        simp [h j hj, hne]
      have h3 : cb y = cbf (bt y) 32 := rfl
      omega
/-- a search by sets: what is still to be tried at a depth -/
def sW (f : Nat → Int32) : Nat → Nat
  | 0 => 0
  | n + 1 => sW f n + (2 ^ (cb (f n) + 1) - 1)
theorem sW_one (f : Nat → Int32) {n : Nat} (hn : n = 1) : sW f n < 1099511627776 := by
  subst hn
  have hc := cb_le (f 0)
  have h := Nat.pow_le_pow_right (n := 2) (by decide) (show cb (f 0) + 1 ≤ 33 by omega)
  have e : sW f 1 = 0 + (2 ^ (cb (f 0) + 1) - 1) := rfl
  rw [e]
  generalize 2 ^ (cb (f 0) + 1) = p at h ⊢
  have h2 : (2 : Nat) ^ 33 = 8589934592 := rfl
  omega
theorem sW_out {f g : Nat → Int32} {n : Nat} (h : ∀ k, k < n → g k = f k) : sW g n = sW f n := by
  induction n with
  | zero => rfl
  | succ n ih =>
    show sW g n + (2 ^ (cb (g n) + 1) - 1) = sW f n + (2 ^ (cb (f n) + 1) - 1)
    rw [ih (fun k hk => h k (by omega)), h n (by omega)]
theorem sW_pop (f : Nat → Int32) (n : Nat) : sW f n < sW f (n + 1) := by
  show sW f n < sW f n + (2 ^ (cb (f n) + 1) - 1)
  have := Nat.one_lt_two_pow (n := cb (f n) + 1) (by omega)
  omega
theorem sW_push {f g : Nat → Int32} {n : Nat} (h : ∀ k, k < n → g k = f k) (h1 : cb (g n) + 1 = cb (f n)) (h2 : cb (g (n + 1)) ≤ cb (g n)) : sW g (n + 2) < sW f (n + 1) := by
  show sW g n + (2 ^ (cb (g n) + 1) - 1) + (2 ^ (cb (g (n + 1)) + 1) - 1) < sW f n + (2 ^ (cb (f n) + 1) - 1)
  rw [sW_out h, ← h1]
  have a1 := Nat.pow_le_pow_right (show 0 < 2 by decide) (show cb (g (n + 1)) + 1 ≤ cb (g n) + 1 by omega)
  have a2 : 2 ^ (cb (g n) + 1 + 1) = 2 * 2 ^ (cb (g n) + 1) := by rw [Nat.pow_succ]; omega
  have a3 := Nat.one_lt_two_pow (n := cb (g (n + 1)) + 1) (by omega)
  omega
theorem bt_nz (h : bt x k = true) : x.toInt ≠ 0 := fun e => by
  rw [Int32.toInt_inj.mp (show x.toInt = (0 : Int32).toInt from e), bt_z] at h
  cases h
theorem sI_q {s : GS} {q j : Nat} {v : Int32} : (sI s q j v).1 q = upd (s.1 q) j v := by simp [sI]
theorem sI_p {s : GS} {p q j : Nat} {v : Int32} (h : Nat.beq p q = false) : (sI s q j v).1 p = s.1 p := by
  show (if p = q then upd (s.1 q) j v else s.1 p) = s.1 p
  rw [if_neg (Nat.ne_of_beq_eq_false h)]
theorem pt_up {f : Nat → Int32} {i : Nat} {v : Int32} {P : Nat → Int32 → Prop} {D : Nat → Prop} (hx : D i → P i v) (h : ∀ j, j ≠ i → D j → P j (f j)) : ∀ j, D j → P j (upd f i v j) := by
  intro j hj
  unfold upd
  by_cases e : j = i
  · rw [if_pos e]
    rw [e] at hj ⊢
    exact hx hj
  · rw [if_neg e]
    exact h j e hj
theorem bo_up {f : Nat → Int32} {D : Nat → Prop} {i : Nat} {v : Int32} (h : ∀ j, D j → bt (f j) j = true) (hx : x = f i) (hz : v = x ||| y) : ∀ j, D j → bt (upd f i v j) j = true :=
  pt_up (P := fun j v => bt v j = true) (fun hD => by rw [bt_or hz, hx, h i hD]; rfl) (fun j _ hD => h j hD)
theorem pt_ne {v : Int32} (hb : bt x u.toNatClampNeg = false) (hx : bt x v.toNatClampNeg = true) : u.toInt ≠ v.toInt := fun e => by
  rw [Int32.toInt_inj.mp e, hx] at hb
  cases hb
theorem cb_rm (e2 : z2 = y ^^^ Int32.ofInt (-1)) (e : z = x &&& z2) (hx : bt x k = true) (hy : bt y k = true) : cb z < cb x := by
  refine cb_ss (fun j hj => bt_and1 e hj) (fun w => ?_)
  have h := bt_and (k := k) e
  rw [w, hx, bt_not e2 (bt_lt hx), hy] at h
  cases h
/-- the search for a clique: one node taken, one set more -/
theorem fc_ix {f : Nat → Int32} (hy : In y 0 b) (hd : ∀ d : Nat, (d : Int) ≤ y.toInt → cb (f d) + d ≤ 32) (hx : x = f y.toNatClampNeg) (hn : x.toInt ≠ 0) : In y 0 31 := by
  obtain ⟨h1, h2⟩ := hy
  have h := hd y.toNatClampNeg (by show ((y.toInt.toNat : Nat) : Int) ≤ y.toInt; omega)
  rw [← hx] at h
  have hp := nz_cb hn
  have e : y.toNatClampNeg = y.toInt.toNat := rfl
  exact ⟨h1, by omega⟩
theorem fc_push {f : Nat → Int32} {w c d : Int32} (hy : In y 0 31) (hd : ∀ d : Nat, (d : Int) ≤ y.toInt → cb (f d) + d ≤ 32) (hx : x = f y.toNatClampNeg) (hz : z.toInt = y.toInt + 1) (hw : w.toInt = y.toInt + 1) (h1 : cb c + 1 = cb x) (h2 : cb d ≤ cb c) :
    (∀ k : Nat, (k : Int) ≤ w.toInt → cb (upd (upd f y.toNatClampNeg c) z.toNatClampNeg d k) + k ≤ 32) ∧ sW (upd (upd f y.toNatClampNeg c) z.toNatClampNeg d) (w.toInt + 1).toNat < sW f (y.toInt + 1).toNat := by
  obtain ⟨y1, y2⟩ := hy
  have ey : (y.toNatClampNeg : Int) = y.toInt := by show ((y.toInt.toNat : Nat) : Int) = y.toInt; omega
  have ez : z.toNatClampNeg = y.toNatClampNeg + 1 := by show z.toInt.toNat = y.toInt.toNat + 1; omega
  have hc := hd y.toNatClampNeg (by omega)
  rw [← hx] at hc
  constructor
  · intro k hk
    unfold upd
    by_cases e : k = z.toNatClampNeg
    · rw [if_pos e]
      omega
    · rw [if_neg e]
      by_cases e2 : k = y.toNatClampNeg
      · rw [if_pos e2]
        omega
      · rw [if_neg e2]
        exact hd k (by omega)
  · have a1 : (w.toInt + 1).toNat = y.toNatClampNeg + 2 := by omega
    have a2 : (y.toInt + 1).toNat = y.toNatClampNeg + 1 := by omega
    rw [a1, a2]
    refine sW_push (fun k hk => ?_) ?_ ?_
    · unfold upd
      rw [if_neg (by omega), if_neg (by omega)]
    · unfold upd
      rw [if_neg (by omega), if_pos rfl, ← hx]
      exact h1
    · unfold upd
      rw [ez, if_pos rfl, if_neg (by omega), if_pos rfl]
      exact h2
theorem lowB_clr (h : lowB x k) (e1 : z1 = x - Int32.ofInt 1) (e : z = x &&& z1) {j : Nat} : bt z j = (bt x j && !(decide (j = k))) := by
  have hn : (-x).toBitVec = ~~~(x.toBitVec - 1#32) := by
    show -x.toBitVec = _
    rw [BitVec.not_sub_one_eq_not_add_one, BitVec.neg_eq_not_add]
  have h2 : x.toBitVec &&& ~~~(x.toBitVec - 1#32) = BitVec.twoPow 32 k := by
    rw [← hn]
    exact congrArg Int32.toBitVec h
  have h3 := congrArg (fun b => b.getLsbD j) h2
  simp only [BitVec.getLsbD_and, BitVec.getLsbD_not, BitVec.getLsbD_twoPow] at h3
  rw [bt_and e]
  have hz : bt z1 j = (x.toBitVec - 1#32).getLsbD j := by rw [e1]; rfl
  rw [hz]
  by_cases hj : j < 32
  · have hb : bt x j = x.toBitVec.getLsbD j := rfl
    rw [hb]
    by_cases c : j = k
    · subst c
      simp [hj] at h3 ⊢
      exact fun _ => h3.2
    · have c2 : ¬ k = j := fun w => c w.symm
      simp [hj, c2] at h3
      cases hx : x.toBitVec.getLsbD j with
      | false => simp
      | true =>
        have h4 : (x.toBitVec - 1#32).getLsbD j = true := by
          rw [BitVec.getLsbD_eq_getElem hj] at hx ⊢
          exact h3 hx
        simp [c, h4]
  · have hb : bt x j = false := by
      cases hq : bt x j with
      | false => rfl
      | true => exact absurd (bt_lt hq) hj
    rw [hb]
    simp
/-- ways back: from each node that was met but s one comes back to one that was met -/
def RV (f : Nat → Int32) (seen s : Int32) : Prop := ∀ j : Nat, bt seen j = true → (j : Int) ≠ s.toInt → In (f j) 0 31 ∧ bt seen (f j).toNatClampNeg = true
theorem rv_upd {f : Nat → Int32} {i : Nat} {v s : Int32} (h : RV f x s) (hi : bt x i = false) : RV (upd f i v) x s := by
  intro j hj hs
  have hne : j ≠ i := fun w => by rw [w, hi] at hj; cases hj
  unfold upd
  rw [if_neg hne]
  exact h j hj hs
theorem rv_or {f : Nat → Int32} {s : Int32} (h : RV f x s) (hy : ∀ j, bt y j = true → f j = u) (hu : In u 0 31) (hb : bt x u.toNatClampNeg = true) (e : z = x ||| y) : RV f z s := by
  intro j hj hs
  rw [bt_or e, Bool.or_eq_true] at hj
  rcases hj with hj | hj
  · have h1 := h j hj hs
    exact ⟨h1.1, by rw [bt_or e, h1.2]; rfl⟩
  · rw [hy j hj]
    exact ⟨hu, by rw [bt_or e, hb]; rfl⟩
theorem rv_1 {f : Nat → Int32} {s : Int32} (e : z = Int32.ofInt 1 <<< (s &&& 31)) (hs : In s 0 31) : RV f z s := by
  intro j hj hn
  rw [bt_one e hs] at hj
  have := of_decide_eq_true hj
  exfalso
  apply hn
  rw [this]
  obtain ⟨h1, h2⟩ := hs
  show ((s.toInt.toNat : Nat) : Int) = s.toInt
  omega
theorem bt_orl (e : z = x ||| y) (h : bt x k = true) : bt z k = true := by rw [bt_or e, h]; rfl
theorem bt_orr (e : z = x ||| y) (h : bt y k = true) : bt z k = true := by rw [bt_or e, h]; cases bt x k <;> rfl
theorem bt_andn (e2 : z2 = y ^^^ Int32.ofInt (-1)) (e : z = x &&& z2) (h : bt z k = true) : bt y k = false := by
  have h1 := bt_and2 e h
  rw [bt_not e2 (bt_lt h)] at h1
  cases hy : bt y k with
  | false => rfl
  | true => rw [hy] at h1; cases h1
theorem lsb_bit (hx : x.toInt ≠ 0) (e1 : z1 = -x) (e : z = x &&& z1) : ∃ k, bt z k = true := by
  obtain ⟨k, h1, -, h3, -⟩ := low32x hx
  refine ⟨k, ?_⟩
  unfold lowB at h3
  rw [e, e1, h3]
  show (BitVec.twoPow 32 k).getLsbD k = true
  rw [BitVec.getLsbD_twoPow]
  simp [h1]
theorem cb_and_le (e : z = x &&& y) : cb z ≤ cb x := cbf_mono (fun _ _ h => bt_and1 e h)
theorem cb_sub (h : ∀ k, bt x k = true → bt y k = true) : cb x ≤ cb y := cbf_mono (fun k _ => h k)
end SETS
