section
/-! GREATEST FLOWS AND LEAST SIDES -/
def sz (f : Nat → Int) : Nat → Int
  | 0 => 0
  | n + 1 => sz f n + f n
theorem sz_s {f : Nat → Int} {n : Nat} : sz f (n + 1) = sz f n + f n := rfl
theorem sz_cg {f g : Nat → Int} : ∀ n : Nat, (∀ k, k < n → g k = f k) → sz g n = sz f n := by
  intro n
  induction n with
  | zero => intro _; rfl
  | succ n ih =>
    intro h
    rw [sz_s, sz_s, ih (fun k hk => h k (by omega)), h n (by omega)]
theorem sz_up {f g : Nat → Int} {j : Nat} : ∀ n : Nat, j < n → (∀ k, k < n → k ≠ j → g k = f k) → sz g n = sz f n + (g j - f j) := by
  intro n
  induction n with
  | zero => intro h; omega
  | succ n ih =>
    intro h hk
    rw [sz_s, sz_s]
    by_cases c : j = n
    · have e := sz_cg (f := f) (g := g) n (fun k hk2 => hk k (by omega) (by omega))
      rw [e, c]
      omega
    · rw [ih (by omega) (fun k h1 h2 => hk k (by omega) h2), hk n (by omega) (fun z => c z.symm)]
      omega
theorem sz_nn {f : Nat → Int} : ∀ n : Nat, (∀ k, k < n → 0 ≤ f k) → 0 ≤ sz f n := by
  intro n
  induction n with
  | zero => intro _; exact Int.le_refl _
  | succ n ih =>
    intro h
    have a := ih (fun k hk => h k (by omega))
    have b := h n (by omega)
    rw [sz_s]
    omega
theorem sz_0 {f : Nat → Int} : ∀ n : Nat, (∀ k, k < n → 0 ≤ f k) → sz f n = 0 → ∀ k, k < n → f k = 0 := by
  intro n
  induction n with
  | zero => intro _ _ k hk; omega
  | succ n ih =>
    intro h e k hk
    rw [sz_s] at e
    have a := sz_nn n (fun k hk => h k (by omega))
    have b := h n (by omega)
    by_cases c : k = n
    · rw [c]; omega
    · exact ih (fun k hk => h k (by omega)) (by omega) k (by omega)
theorem sz_zz {f : Nat → Int} : ∀ n : Nat, (∀ k, k < n → f k = 0) → sz f n = 0 := by
  intro n
  induction n with
  | zero => intro _; rfl
  | succ n ih =>
    intro h
    rw [sz_s, ih (fun k hk => h k (by omega)), h n (by omega)]
    omega
def iy (Y : Nat → Bool) (u : Nat) : Int := if Y u = true then 1 else 0
/-- what an arc lets out of Y -/
def cuA (g : GVW) (Y : Nat → Bool) (p : Nat) : Int := if (g.2.1 p).toInt ≠ -1 ∧ Y (g.2.1 p).toInt.toNat = true ∧ Y (g.2.2.1 p).toInt.toNat = false then (g.2.2.2.2.1 p).toInt else 0
def CUTV (g : GVW) (Y : Nat → Bool) : Int := sz (cuA g Y) 160
theorem cuA_e {g h : GVW} (q : GEW g h) {Y : Nat → Bool} {p : Nat} (hp : p < 160) : cuA g Y p = cuA h Y p := by
  unfold cuA
  have e1 := q.2.1 p hp
  by_cases c : (g.2.1 p).toInt = -1
  · rw [if_neg (fun z => z.1 c), if_neg (fun z => z.1 (by rw [← e1]; exact c))]
  · obtain ⟨e2, e3, e4, -⟩ := q.2.2.1 p hp c
    rw [e1, e2, e4]
theorem cut_eq {g h : GVW} (q : GEW g h) (Y : Nat → Bool) : CUTV g Y = CUTV h Y := sz_cg 160 (fun p hp => cuA_e q hp)
/-- V is the greatest flow, X the least side -/
def FLX (g : GVW) (s t : Nat) (V : Int) (X : Nat → Bool) : Prop := (X s = true ∧ X t = false) ∧ V = CUTV g X ∧ (∀ Y : Nat → Bool, Y s = true → Y t = false → V ≤ CUTV g Y) ∧ (∀ Y : Nat → Bool, Y s = true → Y t = false → CUTV g Y = V → ∀ v, v < 32 → X v = true → Y v = true)
theorem flx_u {g h : GVW} (q : GEW g h) {s t : Nat} {V W : Int} {X Z : Nat → Bool} (a : FLX g s t V X) (b : FLX h s t W Z) : V = W ∧ ∀ v, v < 32 → X v = Z v := by
  obtain ⟨⟨a1, a2⟩, a3, a4, a5⟩ := a
  obtain ⟨⟨b1, b2⟩, b3, b4, b5⟩ := b
  have k1 := a4 Z b1 b2
  have k2 := b4 X a1 a2
  rw [cut_eq q, ← b3] at k1
  rw [← cut_eq q, ← a3] at k2
  have e : V = W := by omega
  refine ⟨e, fun v hv => ?_⟩
  have m1 := a5 Z b1 b2 (by rw [cut_eq q, ← b3, e]) v hv
  have m2 := b5 X a1 a2 (by rw [← cut_eq q, ← a3, e]) v hv
  cases hx : X v with
  | true => rw [m1 hx]
  | false =>
    cases hz : Z v with
    | true => rw [m2 hz] at hx; cases hx
    | false => rfl
/-! the class: what is left between two nodes -/
def xlT (Y : Nat → Bool) (L : Nat → Int32) (k : Nat) : Int := if Y (k / 32) = true ∧ Y (k % 32) = false then (L k).toInt else 0
def XLS (Y : Nat → Bool) (L : Nat → Int32) : Int := sz (xlT Y L) 1024
theorem xl_up {Y : Nat → Bool} {L : Nat → Int32} {u v : Nat} {x : Int32} (hu : u < 32) (hv : v < 32) : XLS Y (upd L (32 * u + v) x) = XLS Y L + (if Y u = true ∧ Y v = false then x.toInt - (L (32 * u + v)).toInt else 0) := by
  have e := sz_up (f := xlT Y L) (g := xlT Y (upd L (32 * u + v) x)) (j := 32 * u + v) 1024 (by omega) (fun k hk hne => by
    unfold xlT
    rw [up_n hne])
  have d1 : (32 * u + v) / 32 = u := by omega
  have d2 : (32 * u + v) % 32 = v := by omega
  show sz _ 1024 = sz _ 1024 + _
  rw [e]
  unfold xlT
  rw [d1, d2, up_e]
  by_cases c : Y u = true ∧ Y v = false
  · rw [if_pos c, if_pos c, if_pos c]
  · rw [if_neg c, if_neg c, if_neg c]
    omega
/-- a step of a way: from u to v -/
theorem xl_st {Y : Nat → Bool} {L : Nat → Int32} {u v : Nat} {x y : Int32} {a : Int} (hu : u < 32) (hv : v < 32) (ne : u ≠ v) (hx : x.toInt = (L (32 * u + v)).toInt - a) (hy : y.toInt = (L (32 * v + u)).toInt + a) : XLS Y (upd (upd L (32 * u + v) x) (32 * v + u) y) = XLS Y L - a * (iy Y u - iy Y v) := by
  have n1 : 32 * v + u ≠ 32 * u + v := by omega
  rw [xl_up hv hu, xl_up hu hv, up_n n1, hx, hy]
  unfold iy
  by_cases c1 : Y u = true
  · by_cases c2 : Y v = true
    · rw [if_neg (show ¬ (Y u = true ∧ Y v = false) from fun z => by rw [c2] at z; cases z.2), if_neg (show ¬ (Y v = true ∧ Y u = false) from fun z => by rw [c1] at z; cases z.2), if_pos c1, if_pos c2]
      omega
    · have c3 : Y v = false := by
        cases h : Y v with
        | true => exact absurd h c2
        | false => rfl
      rw [if_pos (show Y u = true ∧ Y v = false from ⟨c1, c3⟩), if_neg (show ¬ (Y v = true ∧ Y u = false) from fun z => c2 z.1), if_pos c1, if_neg c2]
      omega
  · have c4 : Y u = false := by
      cases h : Y u with
      | true => exact absurd h c1
      | false => rfl
    by_cases c2 : Y v = true
    · rw [if_neg (show ¬ (Y u = true ∧ Y v = false) from fun z => c1 z.1), if_pos (show Y v = true ∧ Y u = false from ⟨c2, c4⟩), if_neg c1, if_pos c2]
      omega
    · rw [if_neg (show ¬ (Y u = true ∧ Y v = false) from fun z => c1 z.1), if_neg (show ¬ (Y v = true ∧ Y u = false) from fun z => c2 z.1), if_neg c1, if_neg c2]
      omega
/-- open is what is left -/
def OPQ (L O : Nat → Int32) : Prop := ∀ u v : Nat, u < 32 → v < 32 → (bt (O u) v = true ↔ 0 < (L (32 * u + v)).toInt)
/-- nothing below 0; two nodes have 160,000,000 at most -/
def LNN (L : Nat → Int32) (B : Int) : Prop := ∀ u v : Nat, u < 32 → v < 32 → 0 ≤ (L (32 * u + v)).toInt ∧ (L (32 * u + v)).toInt + (L (32 * v + u)).toInt ≤ B
theorem lnn_k {L : Nat → Int32} {B : Int} (h : LNN L B) {k : Nat} (hk : k < 1024) : 0 ≤ (L k).toInt := by
  have q := (h (k / 32) (k % 32) (by omega) (by omega)).1
  rw [show 32 * (k / 32) + k % 32 = k by omega] at q
  exact q
theorem xlT_0 {Y : Nat → Bool} {L : Nat → Int32} {B : Int} (h : LNN L B) : ∀ k, k < 1024 → 0 ≤ xlT Y L k := fun k hk => by
  unfold xlT
  by_cases c : Y (k / 32) = true ∧ Y (k % 32) = false
  · rw [if_pos c]; exact lnn_k h hk
  · rw [if_neg c]
    exact Int.le_refl _
/-! a flow of the class: V has gone -/
def CFL (g : GVW) (s t : Nat) (L O : Nat → Int32) (V : Int) : Prop := LNN L 160000000 ∧ OPQ L O ∧ ∀ Y : Nat → Bool, Y s = true → Y t = false → XLS Y L + V = CUTV g Y
def EOP (O : Nat → Int32) (u v : Nat) : Prop := u < 32 ∧ v < 32 ∧ bt (O u) v = true
theorem cfl_fl {g : GVW} {s t : Nat} {L O : Nat → Int32} {V : Int} {X : Nat → Bool} (h : CFL g s t L O V) (x1 : X s = true) (x2 : X t = false) (hc : ∀ u v, EOP O u v → X u = true → X v = true) (hr : ∀ v, v < 32 → X v = true → wlq (EOP O) s v) : FLX g s t V X := by
  obtain ⟨h1, h2, h3⟩ := h
  have z0 : XLS X L = 0 := sz_zz 1024 (fun k hk => by
    unfold xlT
    by_cases c : X (k / 32) = true ∧ X (k % 32) = false
    · rw [if_pos c]
      have nn := (h1 (k / 32) (k % 32) (by omega) (by omega)).1
      have nb : ¬ 0 < (L (32 * (k / 32) + k % 32)).toInt := fun z => by
        have b := (h2 (k / 32) (k % 32) (by omega) (by omega)).mpr z
        have m := hc (k / 32) (k % 32) ⟨by omega, by omega, b⟩ c.1
        rw [c.2] at m
        cases m
      rw [show 32 * (k / 32) + k % 32 = k by omega] at nn nb
      omega
    · rw [if_neg c])
  refine ⟨⟨x1, x2⟩, by have := h3 X x1 x2; omega, fun Y y1 y2 => ?_, fun Y y1 y2 hY v hv hx => ?_⟩
  · have a := h3 Y y1 y2
    have b := sz_nn 1024 (xlT_0 (Y := Y) h1)
    have b2 : 0 ≤ XLS Y L := b
    omega
  · have a := h3 Y y1 y2
    have e : XLS Y L = 0 := by omega
    have cl : ∀ u w, EOP O u w → Y u = true → Y w = true := fun u w he hu => by
      obtain ⟨u1, w1, b⟩ := he
      have p := (h2 u w u1 w1).mp b
      cases hw : Y w with
      | true => rfl
      | false =>
        have k0 := sz_0 1024 (xlT_0 (Y := Y) h1) e (32 * u + w) (by omega)
        unfold xlT at k0
        rw [show (32 * u + w) / 32 = u by omega, show (32 * u + w) % 32 = w by omega, if_pos ⟨hu, hw⟩] at k0
        omega
    obtain ⟨j, hj⟩ := hr v hv hx
    have key : ∀ (j a b : Nat), wkq (EOP O) j a b → Y a = true → Y b = true := by
      intro j
      induction j with
      | zero =>
        intro a b hw ha
        have e2 : a = b := hw
        rw [← e2]
        exact ha
      | succ j ih =>
        intro a b hw ha
        obtain ⟨c, hc2, hw2⟩ := hw
        exact ih c b hw2 (cl a c hc2 ha)
    exact key j s v hj y1
theorem cb_mono {a b : Int32} (h : ∀ v, bt a v = true → bt b v = true) : cb a ≤ cb b := cbf_mono (fun k _ hk => h k hk)
theorem cb_lt {a b : Int32} (h : ∀ v, bt a v = true → bt b v = true) {v : Nat} (h1 : bt a v = false) (h2 : bt b v = true) : cb a + 1 ≤ cb b := by
  show cbf (bt a) 32 + 1 ≤ cbf (bt b) 32
  rw [cbf_cnP, cbf_cnP]
  have q := cnP_lt (P := fun k => bt a k = true) (Q := fun k => bt b k = true) 32 (fun k _ hk => h k hk) v (bt_lt h2) h2 (fun z => by rw [h1] at z; cases z)
  omega
theorem bt_ex {a : Int32} (h : a.toInt ≠ 0) : ∃ v, bt a v = true := Classical.byContradiction fun z => h (by
  have e : a = Int32.ofInt 0 := bt_ext (fun k _ => by
    cases q : bt a k with
    | true => exact absurd ⟨k, q⟩ z
    | false => exact (show bt (Int32.ofInt 0) k = false from bt_z).symm)
  rw [e]
  rfl)
/-! layers: d counts the arcs from s on -/
def LYA (O W : Nat → Int32) (s : Nat) (M : Int32) (d : Nat → Nat) : Prop := (s < 32 ∧ bt M s = true ∧ d s = 0) ∧ (∀ v, bt M v = true → wlq (EOP O) s v) ∧ (∀ v, bt M v = true → v ≠ s → EOP O (W v).toNatClampNeg v ∧ d v = d (W v).toNatClampNeg + 1 ∧ bt M (W v).toNatClampNeg = true)
/-- at the head of layer i -/
def LYR (O W : Nat → Int32) (s t i : Nat) (M Y : Int32) : Prop := ∃ d : Nat → Nat, (bt M t = true → d t = i) ∧ LYA O W s M d ∧ (∀ v, bt M v = true → d v ≤ i) ∧ (∀ v, bt Y v = true ↔ (bt M v = true ∧ d v = i)) ∧ (∀ u v, bt M u = true → d u < i → EOP O u v → bt M v = true ∧ d v ≤ d u + 1) ∧ (Y.toInt ≠ 0 → i + 1 ≤ cb M) ∧ i ≤ cb M
/-- within layer i: R of it is still to do, N is what comes behind it -/
def LYM (O W : Nat → Int32) (s t i : Nat) (M R N : Int32) : Prop := ∃ d : Nat → Nat, (bt M t = true → d t = i + 1) ∧ LYA O W s M d ∧ (∀ v, bt M v = true → d v ≤ i + 1) ∧ (∀ v, bt N v = true ↔ (bt M v = true ∧ d v = i + 1)) ∧ (∀ v, bt R v = true → bt M v = true ∧ d v = i) ∧ (∀ u v, bt M u = true → d u < i ∨ (d u = i ∧ bt R u = false) → EOP O u v → bt M v = true ∧ d v ≤ d u + 1) ∧ (if N.toInt = 0 then i + 1 else i + 2) ≤ cb M
section LYR
variable {O W : Nat → Int32} {s t i : Nat} {M Y R N : Int32}
theorem lyr_0 {x : Int32} (hx : In x 0 31) (e : M = Int32.ofInt 1 <<< (x &&& 31)) : LYR O W x.toNatClampNeg t 0 M M := by
  have b1 : ∀ v, bt M v = true ↔ v = x.toNatClampNeg := fun v => by rw [bt_one e hx, decide_eq_true_iff]
  have x1 := hx.1
  have x2 := hx.2
  have xs : x.toNatClampNeg < 32 := by show x.toInt.toNat < 32; omega
  have c1 : 1 ≤ cb M := cb_pos ((b1 _).mpr rfl)
  refine ⟨fun _ => 0, fun _ => rfl, ⟨⟨xs, (b1 _).mpr rfl, rfl⟩, fun v hv => ?_, fun v hv hn => absurd ((b1 v).mp hv) hn⟩, fun v _ => Nat.le_refl _, fun v => ⟨fun h => ⟨h, rfl⟩, fun h => h.1⟩, fun u v _ h => absurd h (Nat.not_lt_zero _), fun _ => by omega, Nat.zero_le _⟩
  rw [(b1 v).mp hv]
  exact wl_0
theorem lym_0 (h : LYR O W s t i M Y) (hy : Y.toInt ≠ 0) (ht : bt M t = false) : LYM O W s t i M Y (Int32.ofInt 0) := by
  obtain ⟨d, -, a, b, c, e, f, g⟩ := h
  have z : ∀ v, bt (Int32.ofInt 0) v = false := fun v => bt_z
  refine ⟨d, fun q => (by rw [ht] at q; cases q), a, fun v hv => (by have := b v hv; omega), fun v => ⟨fun h => (by rw [z] at h; cases h), fun h => by have := b v h.1; omega⟩, fun v hv => (c v).mp hv, fun u v hu hd he => ?_, ?_⟩
  · rcases hd with hd | ⟨hd, hr⟩
    · exact e u v hu hd he
    · have q := (c u).mpr ⟨hu, hd⟩
      rw [q] at hr
      cases hr
  · rw [if_pos (show (Int32.ofInt 0).toInt = 0 from rfl)]
    exact f hy
theorem lyr_n (h : LYM O W s t i M R N) (hr : R.toInt = 0) : LYR O W s t (i + 1) M N := by
  obtain ⟨d, a0, a, b, c, e, f, g⟩ := h
  have z : ∀ v, bt R v = false := fun v => by
    have e0 : R = Int32.ofInt 0 := Int32.toInt_inj.mp (show R.toInt = (Int32.ofInt 0).toInt from hr)
    rw [e0]
    exact bt_z
  refine ⟨d, a0, a, b, c, fun u v hu hd he => f u v hu (by
    by_cases q : d u < i
    · exact Or.inl q
    · exact Or.inr ⟨by omega, z u⟩) he, fun hn => ?_, ?_⟩
  · rw [if_neg hn] at g
    omega
  · by_cases q : N.toInt = 0
    · rw [if_pos q] at g; omega
    · rw [if_neg q] at g; omega
/-- node u of the layer is done: A is what it newly reaches -/
theorem lym_s {W2 : Nat → Int32} {A M2 R2 N2 u : Int32} (h : LYM O W s t i M R N) (hu : In u 0 31) (ub : bt R u.toNatClampNeg = true) (ha : ∀ v, bt A v = true ↔ (bt (O u.toNatClampNeg) v = true ∧ bt M v = false)) (hm : ∀ v, bt M2 v = true ↔ (bt M v = true ∨ bt A v = true)) (hn : ∀ v, bt N2 v = true ↔ (bt N v = true ∨ bt A v = true)) (hr : ∀ v, bt R2 v = true ↔ (bt R v = true ∧ v ≠ u.toNatClampNeg)) (w1 : ∀ v, bt M v = true → W2 v = W v) (w2 : ∀ v, bt A v = true → W2 v = u) : LYM O W2 s t i M2 R2 N2 := by
  obtain ⟨d, a0, ⟨⟨s1, s2, s3⟩, a2, a3⟩, b, c, e, f, g⟩ := h
  have ui := e _ ub
  have u1 := hu.1
  have u2 := hu.2
  have un : u.toNatClampNeg < 32 := by show u.toInt.toNat < 32; omega
  have ex : ∀ v, bt A v = true → bt M v = false := fun v hv => ((ha v).mp hv).2
  have nm : ∀ v, bt M v = true → ¬ bt A v = true := fun v hv z => by rw [ex v z] at hv; cases hv
  have dM : ∀ v, bt M v = true → (if bt A v = true then i + 1 else d v) = d v := fun v hv => if_neg (nm v hv)
  have dA : ∀ v, bt A v = true → (if bt A v = true then i + 1 else d v) = i + 1 := fun v hv => if_pos hv
  have eo : ∀ v, bt A v = true → EOP O u.toNatClampNeg v := fun v hv => ⟨un, bt_lt ((ha v).mp hv).1, ((ha v).mp hv).1⟩
  refine ⟨fun v => if bt A v = true then i + 1 else d v, fun q => ?_, ⟨⟨s1, (hm s).mpr (Or.inl s2), (show (if bt A s = true then i + 1 else d s) = 0 by rw [dM s s2]; exact s3)⟩, fun v hv => ?_, fun v hv hne => ?_⟩, fun v hv => ?_, fun v => ?_, fun v hv => ?_, fun x v hx hd he => ?_, ?_⟩
  · show (if bt A t = true then i + 1 else d t) = i + 1
    rcases (hm t).mp q with k | k
    · rw [dM t k]; exact a0 k
    · exact dA t k
  · rcases (hm v).mp hv with q | q
    · exact a2 v q
    · exact wl_tr (a2 _ ui.1) (wl_1 (eo v q))
  · rcases (hm v).mp hv with q | q
    · obtain ⟨k1, k2, k3⟩ := a3 v q hne
      rw [w1 v q]
      exact ⟨k1, by show (if bt A v = true then i + 1 else d v) = (if bt A (W v).toNatClampNeg = true then i + 1 else d (W v).toNatClampNeg) + 1; rw [dM v q, dM _ k3]; exact k2, (hm _).mpr (Or.inl k3)⟩
    · rw [w2 v q]
      exact ⟨eo v q, by show (if bt A v = true then i + 1 else d v) = (if bt A u.toNatClampNeg = true then i + 1 else d u.toNatClampNeg) + 1; rw [dA v q, dM _ ui.1, ui.2], (hm _).mpr (Or.inl ui.1)⟩
  · show (if bt A v = true then i + 1 else d v) ≤ i + 1
    rcases (hm v).mp hv with q | q
    · rw [dM v q]; exact b v q
    · rw [dA v q]; exact Nat.le_refl _
  · show bt N2 v = true ↔ (bt M2 v = true ∧ (if bt A v = true then i + 1 else d v) = i + 1)
    rw [hn v, hm v]
    constructor
    · rintro (q | q)
      · have k := (c v).mp q
        exact ⟨Or.inl k.1, by rw [dM v k.1]; exact k.2⟩
      · exact ⟨Or.inr q, dA v q⟩
    · rintro ⟨q | q, k⟩
      · rw [dM v q] at k
        exact Or.inl ((c v).mpr ⟨q, k⟩)
      · exact Or.inr q
  · have k := e v ((hr v).mp hv).1
    exact ⟨(hm v).mpr (Or.inl k.1), by show (if bt A v = true then i + 1 else d v) = i; rw [dM v k.1]; exact k.2⟩
  · have hd2 : (if bt A x = true then i + 1 else d x) < i ∨ ((if bt A x = true then i + 1 else d x) = i ∧ bt R2 x = false) := hd
    have xm : bt M x = true := by
      rcases (hm x).mp hx with q | q
      · exact q
      · rw [dA x q] at hd2
        rcases hd2 with z | z
        · omega
        · have := z.1
          omega
    show bt M2 v = true ∧ (if bt A v = true then i + 1 else d v) ≤ (if bt A x = true then i + 1 else d x) + 1
    rw [dM x xm] at hd2 ⊢
    by_cases q : x = u.toNatClampNeg
    · rw [q, ui.2]
      rw [q] at he
      by_cases k : bt M v = true
      · exact ⟨(hm v).mpr (Or.inl k), by rw [dM v k]; exact b v k⟩
      · have k2 : bt M v = false := by
          cases z : bt M v with
          | true => exact absurd z k
          | false => rfl
        have k3 := (ha v).mpr ⟨he.2.2, k2⟩
        exact ⟨(hm v).mpr (Or.inr k3), by rw [dA v k3]; exact Nat.le_refl _⟩
    · have old : d x < i ∨ (d x = i ∧ bt R x = false) := by
        rcases hd2 with z | ⟨z, z2⟩
        · exact Or.inl z
        · refine Or.inr ⟨z, ?_⟩
          cases k : bt R x with
          | true =>
            have k2 := (hr x).mpr ⟨k, q⟩
            rw [k2] at z2
            cases z2
          | false => rfl
      have k := f x v xm old he
      exact ⟨(hm v).mpr (Or.inl k.1), by rw [dM v k.1]; exact k.2⟩
  · have mono : cb M ≤ cb M2 := cb_mono (fun v hv => (hm v).mpr (Or.inl hv))
    by_cases q : N2.toInt = 0
    · rw [if_pos q]
      by_cases q2 : N.toInt = 0
      · rw [if_pos q2] at g; omega
      · rw [if_neg q2] at g; omega
    · rw [if_neg q]
      by_cases q2 : N.toInt = 0
      · rw [if_pos q2] at g
        obtain ⟨v, hv⟩ := bt_ex q
        rcases (hn v).mp hv with z | z
        · have e0 : N = Int32.ofInt 0 := Int32.toInt_inj.mp (show N.toInt = (Int32.ofInt 0).toInt from q2)
          rw [e0, show bt (Int32.ofInt 0) v = false from bt_z] at z
          cases z
        · have st := cb_lt (a := M) (b := M2) (fun w hw => (hm w).mpr (Or.inl hw)) (ex v z) ((hm v).mpr (Or.inr z))
          omega
      · rw [if_neg q2] at g
        omega
end LYR
/-! what reach tells -/
def DLB (O W : Nat → Int32) (s t : Nat) (M : Int32) (d : Nat → Nat) : Prop := LYA O W s M d ∧ bt M t = true ∧ d t ≤ 31 ∧ (∀ u v, EOP O u v → d v ≤ d u + 1) ∧ (∀ v, bt M v = true → d v ≤ d t)
theorem lyr_f {O W : Nat → Int32} {s t i : Nat} {M Y : Int32} (h : LYR O W s t i M Y) (hy : Y.toInt = 0) : bt M s = true ∧ (∀ v, bt M v = true → wlq (EOP O) s v) ∧ ∀ u v, EOP O u v → bt M u = true → bt M v = true := by
  obtain ⟨d, -, ⟨a1, a2, a3⟩, b, c, e, f, g⟩ := h
  have e0 : Y = Int32.ofInt 0 := Int32.toInt_inj.mp (show Y.toInt = (Int32.ofInt 0).toInt from hy)
  refine ⟨a1.2.1, a2, fun u v he hu => ?_⟩
  have lt : d u < i := by
    have q := b u hu
    by_cases z : d u = i
    · have k := (c u).mpr ⟨hu, z⟩
      rw [e0, show bt (Int32.ofInt 0) u = false from bt_z] at k
      cases k
    · omega
  exact (e u v hu lt he).1
theorem lyr_x {O W : Nat → Int32} {s t i : Nat} {M Y : Int32} (h : LYR O W s t i M Y) (hy : Y.toInt ≠ 0) : i ≤ 31 := by
  obtain ⟨d, -, a, b, c, e, f, g⟩ := h
  have q := f hy
  have k := cb_le M
  omega
theorem lyr_t {O W : Nat → Int32} {s t i : Nat} {M Y : Int32} (h : LYR O W s t i M Y) (ht : bt M t = true) : ∃ d, DLB O W s t M d := by
  obtain ⟨d, a0, ⟨⟨s1, s2, s3⟩, a2, a3⟩, b, c, e, f, g⟩ := h
  have dt := a0 ht
  have yt := (c t).mpr ⟨ht, dt⟩
  have yn : Y.toInt ≠ 0 := fun z => by
    have e0 : Y = Int32.ofInt 0 := Int32.toInt_inj.mp (show Y.toInt = (Int32.ofInt 0).toInt from z)
    rw [e0, show bt (Int32.ofInt 0) t = false from bt_z] at yt
    cases yt
  have k := cb_le M
  have k2 := f yn
  have dM : ∀ v, bt M v = true → (if bt M v = true then d v else i + 1) = d v := fun v hv => if_pos hv
  refine ⟨fun v => if bt M v = true then d v else i + 1, ⟨⟨s1, s2, (show (if bt M s = true then d s else i + 1) = 0 by rw [dM s s2]; exact s3)⟩, a2, fun v hv hn => ?_⟩, ht, (show (if bt M t = true then d t else i + 1) ≤ 31 by rw [dM t ht]; omega), fun u v he => ?_, fun v hv => (show (if bt M v = true then d v else i + 1) ≤ (if bt M t = true then d t else i + 1) by rw [dM v hv, dM t ht, dt]; exact b v hv)⟩
  · obtain ⟨k1, k2, k3⟩ := a3 v hv hn
    refine ⟨k1, ?_, k3⟩
    show (if bt M v = true then d v else i + 1) = (if bt M (W v).toNatClampNeg = true then d (W v).toNatClampNeg else i + 1) + 1
    rw [dM v hv, dM _ k3]
    exact k2
  · show (if bt M v = true then d v else i + 1) ≤ (if bt M u = true then d u else i + 1) + 1
    have le : (if bt M v = true then d v else i + 1) ≤ i + 1 := by
      by_cases q : bt M v = true
      · rw [if_pos q]
        have := b v q
        omega
      · rw [if_neg q]
        exact Nat.le_refl _
    by_cases q : bt M u = true
    · rw [dM u q]
      by_cases q2 : d u < i
      · have r := e u v q q2 he
        rw [dM v r.1]
        exact r.2
      · have := b u q
        omega
    · rw [if_neg q]
      omega
/-! the way back from t -/
def itv (W : Nat → Int32) (t : Nat) : Nat → Nat
  | 0 => t
  | j + 1 => (W (itv W t j)).toNatClampNeg
section DLB
variable {O W : Nat → Int32} {s t : Nat} {M : Int32} {d : Nat → Nat}
theorem dlb_0 (h : DLB O W s t M d) {v : Nat} (hv : bt M v = true) (hd : d v = 0) : v = s := Classical.byContradiction fun z => by
  have q := (h.1.2.2 v hv z).2.1
  omega
theorem itv_d (h : DLB O W s t M d) : ∀ j : Nat, j ≤ d t → bt M (itv W t j) = true ∧ d (itv W t j) + j = d t := by
  intro j
  induction j with
  | zero => intro _; exact ⟨h.2.1, rfl⟩
  | succ j ih =>
    intro hj
    obtain ⟨a, b⟩ := ih (by omega)
    have ne : itv W t j ≠ s := fun z => by
      have e : d s = 0 := h.1.1.2.2
      rw [z] at b
      omega
    obtain ⟨k1, k2, k3⟩ := h.1.2.2 _ a ne
    have e : itv W t (j + 1) = (W (itv W t j)).toNatClampNeg := rfl
    rw [e]
    exact ⟨k3, by omega⟩
theorem itv_s (h : DLB O W s t M d) : itv W t (d t) = s := by
  obtain ⟨a, b⟩ := itv_d h (d t) (Nat.le_refl _)
  exact dlb_0 h a (by omega)
theorem itv_e (h : DLB O W s t M d) {j : Nat} (hj : j < d t) : EOP O (itv W t (j + 1)) (itv W t j) ∧ itv W t j ≠ s := by
  obtain ⟨a, b⟩ := itv_d h j (by omega)
  have ne : itv W t j ≠ s := fun z => by
    have e : d s = 0 := h.1.1.2.2
    rw [z] at b
    omega
  exact ⟨(h.1.2.2 _ a ne).1, ne⟩
theorem itv_l (h : DLB O W s t M d) {j : Nat} (hj : j ≤ d t) (ne : itv W t j ≠ s) : j < d t := Classical.byContradiction fun z => ne (by
  have e : j = d t := by omega
  rw [e]
  exact itv_s h)
theorem itv_i (h : DLB O W s t M d) {i j : Nat} (hi : i ≤ d t) (hj : j ≤ d t) (e : itv W t i = itv W t j) : i = j := by
  have a := (itv_d h i hi).2
  have b := (itv_d h j hj).2
  rw [e] at a
  omega
theorem itv_32 (h : DLB O W s t M d) {j : Nat} (hj : j ≤ d t) : itv W t j < 32 := bt_lt (itv_d h j hj).1
end DLB
/-! how often -/
def EKI (O : Nat → Int32) (s t i : Nat) : Prop := ∃ d : Nat → Nat, d s = 0 ∧ d t ≤ 32 ∧ (∀ u v, EOP O u v → d v ≤ d u + 1) ∧ i + (32 - d t) * 1024 + cnP (fun k => EOP O (k / 32) (k % 32) ∧ d (k % 32) = d (k / 32) + 1) 1024 ≤ 33792
theorem eki_0 {O : Nat → Int32} {s t : Nat} (ne : s ≠ t) : EKI O s t 0 := by
  refine ⟨fun v => if v = s then 0 else 1, if_pos rfl, ?_, fun u v _ => ?_, ?_⟩
  · show (if t = s then 0 else 1) ≤ 32
    rw [if_neg (fun z => ne z.symm)]
    decide
  · show (if v = s then 0 else 1) ≤ (if u = s then 0 else 1) + 1
    by_cases q : v = s
    · rw [if_pos q]; omega
    · rw [if_neg q]; omega
  · refine Nat.le_trans (Nat.add_le_add_left (cnP_top 1024) _) ?_
    show 0 + (32 - (if t = s then 0 else 1)) * 1024 + 1024 ≤ 33792
    rw [if_neg (fun z => ne z.symm)]
    decide
theorem eki_b {O : Nat → Int32} {s t i : Nat} (h : EKI O s t i) : i ≤ 33792 := by
  obtain ⟨d, -, -, -, h⟩ := h
  omega
theorem eki_c {O O2 : Nat → Int32} {W : Nat → Int32} {t L : Nat} {d : Nat → Nat} (he : ∀ j, j < L → EOP O (itv W t (j + 1)) (itv W t j) ∧ d (itv W t j) = d (itv W t (j + 1)) + 1) (p3 : ∀ x y, EOP O2 x y → EOP O x y ∨ ∃ j, j < L ∧ x = itv W t j ∧ y = itv W t (j + 1)) (p4 : ∃ j, j < L ∧ ¬ EOP O2 (itv W t (j + 1)) (itv W t j)) : (∀ u v, (EOP O u v → d v ≤ d u + 1) → EOP O2 u v → d v ≤ d u + 1) ∧ cnP (fun k => EOP O2 (k / 32) (k % 32) ∧ d (k % 32) = d (k / 32) + 1) 1024 + 1 ≤ cnP (fun k => EOP O (k / 32) (k % 32) ∧ d (k % 32) = d (k / 32) + 1) 1024 := by
  refine ⟨fun u v hv h2 => ?_, ?_⟩
  · rcases p3 u v h2 with q | ⟨j, j1, j2, j3⟩
    · exact hv q
    · have k := (he j j1).2
      rw [j2, j3]
      omega
  · obtain ⟨j, j1, j2⟩ := p4
    have ej := he j j1
    have u32 := ej.1.1
    have v32 := ej.1.2.1
    have e1 : (32 * itv W t (j + 1) + itv W t j) / 32 = itv W t (j + 1) := by omega
    have e2 : (32 * itv W t (j + 1) + itv W t j) % 32 = itv W t j := by omega
    have q := cnP_lt (P := fun k => EOP O2 (k / 32) (k % 32) ∧ d (k % 32) = d (k / 32) + 1) (Q := fun k => EOP O (k / 32) (k % 32) ∧ d (k % 32) = d (k / 32) + 1) 1024 (fun k _ hk => ⟨(p3 _ _ hk.1).elim id (fun ⟨i, i1, i2, i3⟩ => by
      have k2 := (he i i1).2
      have k3 := hk.2
      rw [i2, i3] at k3
      omega), hk.2⟩) (32 * itv W t (j + 1) + itv W t j) (by omega) ⟨by rw [e1, e2]; exact ej.1, by rw [e1, e2]; exact ej.2⟩ (fun z => j2 (by have z1 := z.1; rw [e1, e2] at z1; exact z1))
    omega
theorem eki_s {O O2 W : Nat → Int32} {s t i : Nat} {M : Int32} {d : Nat → Nat} (h : EKI O s t i) (hd : DLB O W s t M d) (p3 : ∀ x y, EOP O2 x y → EOP O x y ∨ ∃ j, j < d t ∧ x = itv W t j ∧ y = itv W t (j + 1)) (p4 : ∃ j, j < d t ∧ ¬ EOP O2 (itv W t (j + 1)) (itv W t j)) : EKI O2 s t (i + 1) := by
  obtain ⟨f, f1, f2, f3, f4⟩ := h
  have lo : ∀ j, j ≤ d t → f t ≤ f (itv W t j) + j := by
    intro j
    induction j with
    | zero => intro _; exact Nat.le_refl _
    | succ j ih =>
      intro hj
      have a := ih (by omega)
      have b := f3 _ _ (itv_e hd (show j < d t by omega)).1
      omega
  have le := lo (d t) (Nat.le_refl _)
  rw [itv_s hd, f1] at le
  have dt := hd.2.2.1
  by_cases c : f t = d t
  · have hi : ∀ k, k ≤ d t → f (itv W t (d t - k)) ≤ k := by
      intro k
      induction k with
      | zero =>
        intro _
        rw [Nat.sub_zero, itv_s hd, f1]
        exact Nat.le_refl _
      | succ k ih =>
        intro hk
        have a := ih (by omega)
        have b := f3 _ _ (itv_e hd (show d t - (k + 1) < d t by omega)).1
        rw [show d t - (k + 1) + 1 = d t - k by omega] at b
        omega
    have ex : ∀ j, j ≤ d t → f (itv W t j) + j = d t := fun j hj => by
      have a := lo j hj
      have b := hi (d t - j) (by omega)
      rw [show d t - (d t - j) = j by omega] at b
      omega
    obtain ⟨q1, q2⟩ := eki_c (d := f) (fun j hj => ⟨(itv_e hd hj).1, by have a := ex j (by omega); have b := ex (j + 1) (by omega); omega⟩) p3 p4
    exact ⟨f, f1, f2, fun u v he => q1 u v (f3 u v) he, by omega⟩
  · obtain ⟨q1, q2⟩ := eki_c (d := d) (fun j hj => ⟨(itv_e hd hj).1, by have a := (itv_d hd j (by omega)).2; have b := (itv_d hd (j + 1) (by omega)).2; omega⟩) p3 p4
    have k := cnP_top (P := fun k => EOP O (k / 32) (k % 32) ∧ d (k % 32) = d (k / 32) + 1) 1024
    refine ⟨d, hd.1.1.2.2, by omega, fun u v he => q1 u v (hd.2.2.2.1 u v) he, ?_⟩
    have m : (32 - d t) * 1024 + 1024 ≤ (32 - f t) * 1024 := by omega
    omega
/-! a way is filled -/
def edL (L W : Nat → Int32) (t j : Nat) : Int := (L (32 * itv W t (j + 1) + itv W t j)).toInt
def PTH (L W : Nat → Int32) (t : Nat) (a : Int) (i : Nat) : Prop := (∀ j, j < i → a ≤ edL L W t j) ∧ ((i = 0 ∧ a = 160000000) ∨ ∃ j, j < i ∧ a = edL L W t j)
theorem pth_0 {L W : Nat → Int32} {t : Nat} : PTH L W t 160000000 0 := ⟨fun j h => absurd h (Nat.not_lt_zero j), Or.inl ⟨rfl, rfl⟩⟩
theorem pth_k {L W : Nat → Int32} {t i : Nat} {a : Int} (h : PTH L W t a i) (ha : a ≤ edL L W t i) (hb : edL L W t i ≤ 160000000) : PTH L W t a (i + 1) := by
  refine ⟨fun j hj => ?_, Or.inr ?_⟩
  · by_cases c : j = i
    · rw [c]; exact ha
    · exact h.1 j (by omega)
  · rcases h.2 with ⟨q, e⟩ | ⟨j, hj, e⟩
    · exact ⟨i, by omega, by omega⟩
    · exact ⟨j, by omega, e⟩
theorem pth_t {L W : Nat → Int32} {t i : Nat} {a b : Int} (h : PTH L W t a i) (hb : b = edL L W t i) (hl : b ≤ a) : PTH L W t b (i + 1) := by
  refine ⟨fun j hj => ?_, Or.inr ⟨i, by omega, hb⟩⟩
  by_cases c : j = i
  · rw [c, hb]; exact Int.le_refl _
  · exact Int.le_trans hl (h.1 j (by omega))
def PSI (L O L2 O2 W : Nat → Int32) (s t : Nat) (M : Int32) (a : Int) (i : Nat) : Prop := LNN L2 160000000 ∧ OPQ L2 O2 ∧ (∀ Y, XLS Y L2 = XLS Y L - a * (iy Y (itv W t i) - iy Y t)) ∧ (∀ d, DLB O W s t M d → i ≤ d t ∧ (∀ x y, x < 32 → y < 32 → d x + i ≤ d t → d y + i ≤ d t → L2 (32 * x + y) = L (32 * x + y)) ∧ (∀ j, j < i → (L2 (32 * itv W t (j + 1) + itv W t j)).toInt = edL L W t j - a)) ∧ (∀ x y, x < 32 → y < 32 → 0 < (L2 (32 * x + y)).toInt → 0 < (L (32 * x + y)).toInt ∨ ∃ j, j < i ∧ x = itv W t j ∧ y = itv W t (j + 1))
section PSI
variable {L O L2 O2 L3 O3 W : Nat → Int32} {s t i : Nat} {M : Int32} {a : Int}
theorem psi_0 (h1 : LNN L 160000000) (h2 : OPQ L O) : PSI L O L O W s t M a 0 := by
  refine ⟨h1, h2, fun Y => ?_, fun d _ => ⟨Nat.zero_le _, fun _ _ _ _ _ _ => rfl, fun j h => absurd h (Nat.not_lt_zero j)⟩, fun x y _ _ h => Or.inl h⟩
  show XLS Y L = XLS Y L - a * (iy Y t - iy Y t)
  rw [Int.sub_self, Int.mul_zero, Int.sub_zero]
theorem psi_u (h : PSI L O L2 O2 W s t M a i) {d : Nat → Nat} (hd : DLB O W s t M d) (ne : itv W t i ≠ s) : i < d t ∧ (itv W t (i + 1) < 32 ∧ itv W t i < 32 ∧ itv W t (i + 1) ≠ itv W t i) ∧ L2 (32 * itv W t (i + 1) + itv W t i) = L (32 * itv W t (i + 1) + itv W t i) ∧ L2 (32 * itv W t i + itv W t (i + 1)) = L (32 * itv W t i + itv W t (i + 1)) := by
  obtain ⟨-, -, -, h4, -⟩ := h
  obtain ⟨k1, k2, k3⟩ := h4 d hd
  have lt := itv_l hd k1 ne
  have u32 := itv_32 hd (show i + 1 ≤ d t by omega)
  have v32 := itv_32 hd (show i ≤ d t by omega)
  have e1 := (itv_d hd (i + 1) (by omega)).2
  have e2 := (itv_d hd i (by omega)).2
  exact ⟨lt, ⟨u32, v32, fun z => by rw [z] at e1; omega⟩, k2 _ _ u32 v32 (by omega) (by omega), k2 _ _ v32 u32 (by omega) (by omega)⟩
theorem psi_s {x y : Int32} (h : PSI L O L2 O2 W s t M a i) {d0 : Nat → Nat} (hd0 : DLB O W s t M d0) (ne : itv W t i ≠ s) (ha : 0 < a) (hm : a ≤ edL L W t i) (hx : x.toInt = (L2 (32 * itv W t (i + 1) + itv W t i)).toInt - a) (hy : y.toInt = (L2 (32 * itv W t i + itv W t (i + 1))).toInt + a) (hL : L3 = upd (upd L2 (32 * itv W t (i + 1) + itv W t i) x) (32 * itv W t i + itv W t (i + 1)) y) (hO : OPQ L3 O3) : PSI L O L3 O3 W s t M a (i + 1) := by
  obtain ⟨lt0, ⟨u32, v32, uv⟩, q1, q2⟩ := psi_u h hd0 ne
  obtain ⟨h1, h2, h3, h4, h5⟩ := h
  have hm2 : a ≤ (L (32 * itv W t (i + 1) + itv W t i)).toInt := hm
  have at1 : L3 (32 * itv W t (i + 1) + itv W t i) = x := by rw [hL, up_n (by omega), up_e]
  have at2 : L3 (32 * itv W t i + itv W t (i + 1)) = y := by rw [hL, up_e]
  have oth3 : ∀ p w, p < 32 → w < 32 → ¬ (p = itv W t (i + 1) ∧ w = itv W t i) → ¬ (p = itv W t i ∧ w = itv W t (i + 1)) → L3 (32 * p + w) = L2 (32 * p + w) := fun p w hp hw c1 c2 => by
    have n1 : 32 * p + w ≠ 32 * itv W t i + itv W t (i + 1) := fun z => c2 ⟨by omega, by omega⟩
    have n2 : 32 * p + w ≠ 32 * itv W t (i + 1) + itv W t i := fun z => c1 ⟨by omega, by omega⟩
    rw [hL, up_n n1, up_n n2]
  have g1 := h1 (itv W t (i + 1)) (itv W t i) u32 v32
  have g2 := h1 (itv W t i) (itv W t (i + 1)) v32 u32
  refine ⟨fun p w hp hw => ?_, hO, fun Y => ?_, fun d hd => ?_, fun p w hp hw hpos => ?_⟩
  · by_cases c1 : p = itv W t (i + 1) ∧ w = itv W t i
    · rw [c1.1, c1.2, at1, at2, hx, hy]
      rw [q1] at g1 ⊢
      exact ⟨by omega, by omega⟩
    · by_cases c2 : p = itv W t i ∧ w = itv W t (i + 1)
      · rw [c2.1, c2.2, at1, at2, hx, hy]
        exact ⟨by omega, by omega⟩
      · rw [oth3 p w hp hw c1 c2, oth3 w p hw hp (fun z => c2 ⟨z.2, z.1⟩) (fun z => c1 ⟨z.2, z.1⟩)]
        exact h1 p w hp hw
  · rw [hL, xl_st (a := a) u32 v32 uv hx hy, h3 Y]
    have m : a * (iy Y (itv W t i) - iy Y t) + a * (iy Y (itv W t (i + 1)) - iy Y (itv W t i)) = a * (iy Y (itv W t (i + 1)) - iy Y t) := by
      rw [← Int.mul_add, show (iy Y (itv W t i) - iy Y t) + (iy Y (itv W t (i + 1)) - iy Y (itv W t i)) = iy Y (itv W t (i + 1)) - iy Y t by omega]
    omega
  · obtain ⟨k1, k2, k3⟩ := h4 d hd
    have lt := itv_l hd k1 ne
    have e1 := (itv_d hd (i + 1) (by omega)).2
    have e2 := (itv_d hd i (by omega)).2
    refine ⟨by omega, fun p w hp hw hpd hwd => ?_, fun j hj => ?_⟩
    · have np : p ≠ itv W t i := fun z => by rw [z] at hpd; omega
      have nw : w ≠ itv W t i := fun z => by rw [z] at hwd; omega
      rw [oth3 p w hp hw (fun z => nw z.2) (fun z => np z.1)]
      exact k2 p w hp hw (by omega) (by omega)
    · by_cases c : j = i
      · rw [c, at1, hx, q1]
        rfl
      · have j1 := itv_32 hd (show j + 1 ≤ d t by omega)
        have j2 := itv_32 hd (show j ≤ d t by omega)
        rw [oth3 _ _ j1 j2 (fun z => c (itv_i hd (by omega) (by omega) z.2)) (fun z => by
          have := itv_i hd (show j ≤ d t by omega) (show i + 1 ≤ d t by omega) z.2
          omega)]
        exact k3 j (by omega)
  · by_cases c1 : p = itv W t (i + 1) ∧ w = itv W t i
    · left
      rw [c1.1, c1.2, ← q1]
      rw [c1.1, c1.2, at1, hx] at hpos
      omega
    · by_cases c2 : p = itv W t i ∧ w = itv W t (i + 1)
      · exact Or.inr ⟨i, by omega, c2.1, c2.2⟩
      · rw [oth3 p w hp hw c1 c2] at hpos
        rcases h5 p w hp hw hpos with z | ⟨j, j1, j2, j3⟩
        · exact Or.inl z
        · exact Or.inr ⟨j, by omega, j2, j3⟩
/-- the rows of open, kept -/
theorem opq_s {u v : Nat} {x y : Int32} (h : OPQ L2 O2) (hu : u < 32) (hv : v < 32) (ne : u ≠ v) (hL : L3 = upd (upd L2 (32 * u + v) x) (32 * v + u) y) (hy : 0 < y.toInt) (hO : ∀ p w, p < 32 → w < 32 → (bt (O3 p) w = true ↔ ((p = v ∧ w = u) ∨ (bt (O2 p) w = true ∧ ¬ (p = u ∧ w = v ∧ x.toInt = 0))))) (hp : 0 ≤ x.toInt) (hb : bt (O2 u) v = true) : OPQ L3 O3 := by
  intro p w hp2 hw2
  rw [hO p w hp2 hw2]
  by_cases c1 : p = u ∧ w = v
  · have e : L3 (32 * p + w) = x := by rw [hL, c1.1, c1.2, up_n (by omega), up_e]
    rw [e]
    constructor
    · rintro (z | ⟨-, z⟩)
      · exact absurd (c1.1.symm.trans z.1) (fun q => ne q)
      · have : ¬ x.toInt = 0 := fun q => z ⟨c1.1, c1.2, q⟩
        omega
    · intro z
      exact Or.inr ⟨by rw [c1.1, c1.2]; exact hb, fun q => by have := q.2.2; omega⟩
  · by_cases c2 : p = v ∧ w = u
    · have e : L3 (32 * p + w) = y := by rw [hL, c2.1, c2.2, up_e]
      rw [e]
      exact ⟨fun _ => hy, fun _ => Or.inl c2⟩
    · have e : L3 (32 * p + w) = L2 (32 * p + w) := by
        rw [hL, up_n (fun z => c2 ⟨by omega, by omega⟩), up_n (fun z => c1 ⟨by omega, by omega⟩)]
      rw [e, ← h p w hp2 hw2]
      constructor
      · rintro (z | z)
        · exact absurd z c2
        · exact z.1
      · intro z
        exact Or.inr ⟨z, fun q => c1 ⟨q.1, q.2.1⟩⟩
theorem psi_e {g : GVW} {V : Int} {d : Nat → Nat} {k : Nat} (hC : CFL g s t L O V) (hd : DLB O W s t M d) (hp : PTH L W t a i) (h : PSI L O L2 O2 W s t M a i) (hs : itv W t i = s) (st : s ≠ t) (hE : EKI O s t k) : CFL g s t L2 O2 (V + a) ∧ EKI O2 s t (k + 1) := by
  obtain ⟨h1, h2, h3, h4, h5⟩ := h
  obtain ⟨k1, k2, k3⟩ := h4 d hd
  obtain ⟨c1, c2, c3⟩ := hC
  have ei : i = d t := by
    have a1 := (itv_d hd i k1).2
    rw [hs, hd.1.1.2.2] at a1
    omega
  have i0 : i ≠ 0 := fun z => by
    rw [z] at hs
    exact st hs.symm
  refine ⟨⟨h1, h2, fun Y y1 y2 => ?_⟩, eki_s hE hd (fun x y hxy => ?_) ?_⟩
  · have a1 := h3 Y
    have a2 := c3 Y y1 y2
    have e1 : iy Y (itv W t i) = 1 := by rw [hs]; exact if_pos y1
    have e2 : iy Y t = 0 := if_neg (fun z => by rw [y2] at z; cases z)
    rw [e1, e2] at a1
    omega
  · obtain ⟨x1, y1, b⟩ := hxy
    rcases h5 x y x1 y1 ((h2 x y x1 y1).mp b) with z | ⟨j, j1, j2, j3⟩
    · exact Or.inl ⟨x1, y1, (c2 x y x1 y1).mpr z⟩
    · exact Or.inr ⟨j, by omega, j2, j3⟩
  · rcases hp.2 with ⟨z, -⟩ | ⟨j, j1, e⟩
    · exact absurd z i0
    · refine ⟨j, by omega, fun z => ?_⟩
      have p := (h2 _ _ z.1 z.2.1).mp z.2.2
      have q := k3 j j1
      omega
end PSI
/-! what is open at the beginning -/
def OPA (g : GVW) (L O : Nat → Int32) (p : Nat) : Prop := LNN L (1000000 * p) ∧ OPQ L O ∧ ∀ Y : Nat → Bool, XLS Y L = sz (cuA g Y) p
section OPA
variable {g : GVW} {L O L2 O2 : Nat → Int32} {p : Nat}
theorem opa_0 (h1 : ∀ k, k < 1024 → L k = Int32.ofInt 0) (h2 : ∀ u, u < 32 → O u = Int32.ofInt 0) : OPA g L O 0 := by
  have z : ∀ u v, u < 32 → v < 32 → (L (32 * u + v)).toInt = 0 := fun u v hu hv => by rw [h1 _ (by omega)]; rfl
  refine ⟨fun u v hu hv => ?_, fun u v hu hv => ?_, fun Y => ?_⟩
  · rw [z u v hu hv, z v u hv hu]
    exact ⟨Int.le_refl _, by omega⟩
  · rw [z u v hu hv, h2 u hu, show bt (Int32.ofInt 0) v = false from bt_z]
    exact ⟨fun q => (by cases q), fun q => by omega⟩
  · show sz (xlT Y L) 1024 = 0
    refine sz_zz 1024 (fun k hk => ?_)
    unfold xlT
    rw [h1 k hk]
    by_cases c : Y (k / 32) = true ∧ Y (k % 32) = false
    · rw [if_pos c]; rfl
    · rw [if_neg c]
theorem opa_n (h : OPA g L O p) (hz : ∀ Y, cuA g Y p = 0) : OPA g L O (p + 1) := by
  obtain ⟨h1, h2, h3⟩ := h
  refine ⟨fun u v hu hv => ?_, h2, fun Y => ?_⟩
  · have q := h1 u v hu hv
    exact ⟨q.1, by omega⟩
  · rw [sz_s, hz Y, h3 Y]
    omega
theorem cuA_m {Y : Nat → Bool} {f : Int32} (hf : f = g.2.1 p) (h : f.toInt = -1) : cuA g Y p = 0 := if_neg (fun z => z.1 (by rw [← hf]; exact h))
theorem cuA_l {Y : Nat → Bool} {f w : Int32} (hf : f = g.2.1 p) (hw : w = g.2.2.1 p) (h : f.toInt = w.toInt) : cuA g Y p = 0 := if_neg (fun z => by
  have z1 := z.2.1
  have z2 := z.2.2
  rw [← hf] at z1
  rw [← hw, ← h, z1] at z2
  cases z2)
theorem cuA_r {Y : Nat → Bool} {r : Int32} (hr : r = g.2.2.2.2.1 p) (h : r.toInt = 0) : cuA g Y p = 0 := by
  unfold cuA
  rw [← hr, h]
  by_cases c : (g.2.1 p).toInt ≠ -1 ∧ Y (g.2.1 p).toInt.toNat = true ∧ Y (g.2.2.1 p).toInt.toNat = false
  · rw [if_pos c]
  · rw [if_neg c]
theorem opa_y {f w r x z1 z : Int32} (h : OPA g L O p) (hp : p < 160) (hf : f = g.2.1 p) (hw : w = g.2.2.1 p) (hr : r = g.2.2.2.2.1 p) (i1 : In f 0 31) (i2 : In w 0 31) (ne : f.toInt ≠ w.toInt) (r1 : 0 < r.toInt) (r2 : r.toInt ≤ 1000000) (hx : x = L (32 * f.toNatClampNeg + w.toNatClampNeg) + r) (hL : L2 = upd L (32 * f.toNatClampNeg + w.toNatClampNeg) x) (e1 : z1 = Int32.ofInt 1 <<< (w &&& 31)) (e2 : z = O f.toNatClampNeg ||| z1) (hO : O2 = upd O f.toNatClampNeg z) : OPA g L2 O2 (p + 1) := by
  obtain ⟨h1, h2, h3⟩ := h
  have f1 := i1.1
  have f2 := i1.2
  have w1 := i2.1
  have w2 := i2.2
  have fn : f.toNatClampNeg = f.toInt.toNat := rfl
  have wn : w.toNatClampNeg = w.toInt.toNat := rfl
  have fu : f.toNatClampNeg < 32 := by omega
  have wu : w.toNatClampNeg < 32 := by omega
  have fw : f.toNatClampNeg ≠ w.toNatClampNeg := by omega
  have q := h1 _ _ fu wu
  have q2 := h1 _ _ wu fu
  have xv : x.toInt = (L (32 * f.toNatClampNeg + w.toNatClampNeg)).toInt + r.toInt := by
    rw [hx, Int32.toInt_add]
    exact Int.bmod_eq_of_le (by omega) (by omega)
  refine ⟨fun u v hu hv => ?_, fun u v hu hv => ?_, fun Y => ?_⟩
  · by_cases c1 : u = f.toNatClampNeg ∧ v = w.toNatClampNeg
    · rw [hL, c1.1, c1.2, up_e, up_n (by omega), xv]
      exact ⟨by omega, by omega⟩
    · by_cases c2 : u = w.toNatClampNeg ∧ v = f.toNatClampNeg
      · rw [hL, c2.1, c2.2, up_e, up_n (by omega), xv]
        exact ⟨by omega, by omega⟩
      · rw [hL, up_n (fun z => c1 ⟨by omega, by omega⟩), up_n (fun z => c2 ⟨by omega, by omega⟩)]
        have k := h1 u v hu hv
        exact ⟨k.1, by omega⟩
  · rw [hL, hO]
    by_cases c1 : u = f.toNatClampNeg
    · rw [c1, up_e, bt_set e1 e2 i2]
      by_cases c2 : v = w.toNatClampNeg
      · rw [c2, up_e]
        exact ⟨fun _ => by omega, fun _ => by simp⟩
      · rw [up_n (fun z => c2 (by omega)), ← h2 _ _ fu hv]
        simp [c2]
    · rw [up_n c1, up_n (fun z => c1 (by omega))]
      exact h2 u v hu hv
  · rw [hL, xl_up fu wu, h3 Y, sz_s, xv]
    have ab : (g.2.1 p).toInt ≠ -1 := by rw [← hf]; omega
    have cu : cuA g Y p = if Y f.toNatClampNeg = true ∧ Y w.toNatClampNeg = false then r.toInt else 0 := by
      unfold cuA
      rw [← hf, ← hw, ← hr]
      by_cases c : Y f.toNatClampNeg = true ∧ Y w.toNatClampNeg = false
      · rw [if_pos c, if_pos (show f.toInt ≠ -1 ∧ Y f.toInt.toNat = true ∧ Y w.toInt.toNat = false from ⟨by omega, c.1, c.2⟩)]
      · rw [if_neg c, if_neg (show ¬ (f.toInt ≠ -1 ∧ Y f.toInt.toNat = true ∧ Y w.toInt.toNat = false) from fun z => c ⟨z.2.1, z.2.2⟩)]
    rw [cu]
    by_cases c : Y f.toNatClampNeg = true ∧ Y w.toNatClampNeg = false
    · rw [if_pos c, if_pos c]
      omega
    · rw [if_neg c, if_neg c]
theorem opa_e {T0 : Int} (h : OPA g L O p) (hT : ∀ i : Nat, i < 160 → (g.2.1 i).toInt ≠ -1 → (i : Int) < T0) (hp : T0 ≤ (p : Int)) (h6 : p ≤ 160) {s t : Nat} : CFL g s t L O 0 := by
  have k : ∀ n, p + n ≤ 160 → OPA g L O (p + n) := by
    intro n
    induction n with
    | zero => intro _; exact h
    | succ n ih =>
      intro hn
      refine opa_n (ih (by omega)) (fun Y => cuA_m rfl ?_)
      exact Classical.byContradiction fun z => by
        have := hT (p + n) (by omega) z
        omega
  have q := k (160 - p) (by omega)
  rw [show p + (160 - p) = 160 by omega] at q
  obtain ⟨q1, q2, q3⟩ := q
  refine ⟨fun u v hu hv => ?_, q2, fun Y _ _ => ?_⟩
  · have r := q1 u v hu hv
    exact ⟨r.1, by omega⟩
  · rw [q3 Y]
    show sz (cuA g Y) 160 + 0 = sz (cuA g Y) 160
    omega
end OPA
theorem btn_iff {x y z z2 : Int32} {v : Nat} (e2 : z2 = y ^^^ Int32.ofInt (-1)) (e : z = x &&& z2) : bt z v = true ↔ (bt x v = true ∧ bt y v = false) := by
  rw [bt_and e, Bool.and_eq_true]
  constructor
  · rintro ⟨a, b⟩
    rw [bt_not e2 (bt_lt a)] at b
    refine ⟨a, ?_⟩
    cases q : bt y v with
    | true => rw [q] at b; cases b
    | false => rfl
  · rintro ⟨a, b⟩
    rw [bt_not e2 (bt_lt a), b]
    exact ⟨a, rfl⟩
theorem isub_v {x y z : Int32} (e : z = x - y) (h1 : -2147483648 ≤ x.toInt - y.toInt) (h2 : x.toInt - y.toInt ≤ 2147483647) : z.toInt = x.toInt - y.toInt := by
  rw [e, Int32.toInt_sub]
  exact Int.bmod_eq_of_le (by omega) (by omega)
theorem iadd_v {x y z : Int32} (e : z = x + y) (h1 : -2147483648 ≤ x.toInt + y.toInt) (h2 : x.toInt + y.toInt ≤ 2147483647) : z.toInt = x.toInt + y.toInt := by
  rw [e, Int32.toInt_add]
  exact Int.bmod_eq_of_le (by omega) (by omega)
section OPX
variable {O2 O3 : Nat → Int32} {u v c z z1 z2 z4 : Int32} {x : Int}
theorem opx_A (iu : In u 0 31) (iv : In v 0 31) (hx : x ≠ 0) (e1 : z1 = Int32.ofInt 1 <<< (u &&& 31)) (e2 : z = O2 v.toNatClampNeg ||| z1) (hO : O3 = upd O2 v.toNatClampNeg z) (p w : Nat) (hw : w < 32) : bt (O3 p) w = true ↔ ((p = v.toNatClampNeg ∧ w = u.toNatClampNeg) ∨ (bt (O2 p) w = true ∧ ¬ (p = u.toNatClampNeg ∧ w = v.toNatClampNeg ∧ x = 0))) := by
  rw [hO]
  by_cases q : p = v.toNatClampNeg
  · rw [q, up_e, bt_set e1 e2 iu, Bool.or_eq_true, decide_eq_true_iff]
    constructor
    · rintro (a | a)
      · exact Or.inr ⟨a, fun k => hx k.2.2⟩
      · exact Or.inl ⟨rfl, a⟩
    · rintro (a | a)
      · exact Or.inr a.2
      · exact Or.inl a.1
  · rw [up_n q]
    constructor
    · intro a
      exact Or.inr ⟨a, fun k => hx k.2.2⟩
    · rintro (a | a)
      · exact absurd a.1 q
      · exact a.1
theorem opx_B (iu : In u 0 31) (iv : In v 0 31) (ne : u.toNatClampNeg ≠ v.toNatClampNeg) (hx : x = 0) (e0 : z2 = Int32.ofInt 1 <<< (v &&& 31)) (e3 : z4 = z2 ^^^ Int32.ofInt (-1)) (ec : c = O2 u.toNatClampNeg &&& z4) (e1 : z1 = Int32.ofInt 1 <<< (u &&& 31)) (e2 : z = O2 v.toNatClampNeg ||| z1) (hO : O3 = upd (upd O2 u.toNatClampNeg c) v.toNatClampNeg z) (p w : Nat) (hw : w < 32) : bt (O3 p) w = true ↔ ((p = v.toNatClampNeg ∧ w = u.toNatClampNeg) ∨ (bt (O2 p) w = true ∧ ¬ (p = u.toNatClampNeg ∧ w = v.toNatClampNeg ∧ x = 0))) := by
  rw [hO]
  by_cases q : p = v.toNatClampNeg
  · rw [q, up_e, bt_set e1 e2 iu, Bool.or_eq_true, decide_eq_true_iff]
    constructor
    · rintro (a | a)
      · exact Or.inr ⟨a, fun k => ne k.1.symm⟩
      · exact Or.inl ⟨rfl, a⟩
    · rintro (a | a)
      · exact Or.inr a.2
      · exact Or.inl a.1
  · rw [up_n q]
    by_cases q2 : p = u.toNatClampNeg
    · rw [q2, up_e, bt_clr e0 e3 ec iv hw, Bool.and_eq_true]
      constructor
      · rintro ⟨a, b⟩
        refine Or.inr ⟨a, fun k => ?_⟩
        rw [k.2.1] at b
        simp at b
      · rintro (a | ⟨a, b⟩)
        · exact absurd a.1 ne
        · refine ⟨a, ?_⟩
          have nw : w ≠ v.toNatClampNeg := fun k => b ⟨rfl, k, hx⟩
          simp [nw]
    · rw [up_n q2]
      constructor
      · intro a
        exact Or.inr ⟨a, fun k => q2 k.1⟩
      · rintro (a | a)
        · exact absurd a.1 q
        · exact a.1
end OPX
/-! what the class keeps of its last question -/
def FLB (g : GVW) (s : GS) : Prop := (s.2.2.1 65 0).toInt = g.2.2.2.2.2.2.2 → FLX g (s.2.2.1 65 1).toNatClampNeg (s.2.2.1 65 2).toNatClampNeg (s.2.2.2.1 65 3).toInt (fun v => bt (s.2.2.1 65 4) v)
def FLQ (g : GVW) (t : GS) : Prop := (t.2.2.1 65 0).toInt = g.2.2.2.2.2.2.2 ∧ FLX g (t.2.2.1 65 1).toNatClampNeg (t.2.2.1 65 2).toNatClampNeg (t.2.2.2.1 65 3).toInt (fun v => bt (t.2.2.1 65 4) v)
def FLA (t : GS) (x y : Int32) : Prop := t.2.2.1 65 1 = x ∧ t.2.2.1 65 2 = y
theorem cuA_b {g : GVW} {Y : Nat → Bool} {p : Nat} (h : 0 ≤ (g.2.2.2.2.1 p).toInt ∧ (g.2.2.2.2.1 p).toInt ≤ 1000000) : cuA g Y p ≤ 1000000 := by
  unfold cuA
  by_cases c : (g.2.1 p).toInt ≠ -1 ∧ Y (g.2.1 p).toInt.toNat = true ∧ Y (g.2.2.1 p).toInt.toNat = false
  · rw [if_pos c]; exact h.2
  · rw [if_neg c]; decide
theorem sz_b {f : Nat → Int} {B : Int} : ∀ n : Nat, (∀ k, k < n → f k ≤ B) → sz f n ≤ B * n := by
  intro n
  induction n with
  | zero => intro _; show (0 : Int) ≤ B * ((0 : Nat) : Int); omega
  | succ n ih =>
    intro h
    have a := ih (fun k hk => h k (by omega))
    have b := h n (by omega)
    rw [sz_s]
    have e : B * ((n + 1 : Nat) : Int) = B * (n : Int) + B := by
      rw [show ((n + 1 : Nat) : Int) = (n : Int) + 1 by omega, Int.mul_add, Int.mul_one]
    omega
theorem cfl_b {g : GVW} {s t : Nat} {L O : Nat → Int32} {V : Int} (h : CFL g s t L O V) (st : s ≠ t) (hr : ∀ p, p < 160 → 0 ≤ (g.2.2.2.2.1 p).toInt ∧ (g.2.2.2.2.1 p).toInt ≤ 1000000) : V ≤ 160000000 := by
  obtain ⟨h1, h2, h3⟩ := h
  have y2 : decide (t = s) = false := decide_eq_false (fun z => st z.symm)
  have a := h3 (fun v => decide (v = s)) (decide_eq_true rfl) y2
  have b := sz_nn 1024 (xlT_0 (Y := fun v => decide (v = s)) h1)
  have b2 : 0 ≤ XLS (fun v => decide (v = s)) L := b
  have c := sz_b (f := cuA g (fun v => decide (v = s))) (B := 1000000) 160 (fun k hk => cuA_b (hr k hk))
  have c2 : CUTV g (fun v => decide (v = s)) ≤ 1000000 * ((160 : Nat) : Int) := c
  omega
theorem rm_C {s : GS} (h : Inv s) : ∀ p, p < 160 → 0 ≤ ((gvC s).2.2.2.2.1 p).toInt ∧ ((gvC s).2.2.2.2.1 p).toInt ≤ 1000000 := by
  intro p hp
  have w := h.1.1 7 p (Nat.lt_of_lt_of_le hp (Nat.le_of_ble_eq_true rfl))
  have e : rI 7 = (0, 1000000) := rfl
  rw [e] at w
  exact w
theorem rm_D {s : GS} (h : Inv s) : ∀ p, p < 160 → 0 ≤ ((gvD s).2.2.2.2.1 p).toInt ∧ ((gvD s).2.2.2.2.1 p).toInt ≤ 1000000 := by
  intro p hp
  have w := h.1.1 37 p (Nat.lt_of_lt_of_le hp (Nat.le_of_ble_eq_true rfl))
  have e : rI 37 = (0, 1000000) := rfl
  rw [e] at w
  exact w
theorem cfl_n {g : GVW} {s t : Nat} {L O : Nat → Int32} {V : Int} {a : Int32} {z w y : Int64} (h : CFL g s t L O V) (st : s ≠ t) (hr : ∀ p, p < 160 → 0 ≤ (g.2.2.2.2.1 p).toInt ∧ (g.2.2.2.2.1 p).toInt ≤ 1000000) (v0 : 0 ≤ V) (a0 : 0 < a.toInt) (ey : y = a.toInt64) (ew : w.toInt = V) (ez : z = w + y) : z.toInt = V + a.toInt := by
  have b := cfl_b h st hr
  have l := u_i2l ey
  have r := i_rng a
  unfold In at r
  rw [← ew, ← l]
  exact ladd_t ez (by rw [ew, l]; omega) (by rw [ew, l]; omega)
theorem flq_e {g : GVW} {t : GS} {x y : Int32} (hv : (t.2.2.1 65 0).toInt = g.2.2.2.2.2.2.2) (h1 : t.2.2.1 65 1 = x) (h2 : t.2.2.1 65 2 = y) (h : FLX g x.toNatClampNeg y.toNatClampNeg (t.2.2.2.1 65 3).toInt (fun v => bt (t.2.2.1 65 4) v)) : FLQ g t ∧ FLA t x y := by
  refine ⟨⟨hv, ?_⟩, h1, h2⟩
  rw [h1, h2]
  exact h
theorem flq_fr {g : GVW} {s t : GS} {L : FM} (h : FLQ g s) (hF : Fr L s t) (hq : (qF L.2.2.1 65 0 && qF L.2.2.1 65 1 && qF L.2.2.1 65 2 && qF L.2.2.1 65 4 && qF L.2.2.2 65 3) = true) : FLQ g t := by
  simp only [Bool.and_eq_true] at hq
  obtain ⟨⟨⟨⟨a, b⟩, c⟩, e⟩, f⟩ := hq
  unfold FLQ at h ⊢
  rw [hF.2.2.1 65 0 a, hF.2.2.1 65 1 b, hF.2.2.1 65 2 c, hF.2.2.1 65 4 e, hF.2.2.2 65 3 f]
  exact h
theorem flq_sI {g : GVW} {s : GS} {q j : Nat} {x : Int32} (h : FLQ g s) : FLQ g (sI s q j x) := h
def FLC (s : GS) : Prop := FLB (shC s) s
def FLV (g : GVW) (a b : Nat) (V : Int) : Prop := ∃ X : Nat → Bool, FLX g a b V X
def SDV (g : GVW) (a b v : Nat) (r : Int) : Prop := ∃ (V : Int) (X : Nat → Bool), FLX g a b V X ∧ ((r = 1 ∧ X v = true) ∨ (r = 0 ∧ X v = false))
theorem flv_of {g : GVW} {t : GS} {x y : Int32} {z : Int64} (h : FLQ g t ∧ FLA t x y) (hz : z.toInt = (t.2.2.2.1 65 3).toInt) : FLV g x.toNatClampNeg y.toNatClampNeg z.toInt := by
  obtain ⟨⟨-, h2⟩, h3, h4⟩ := h
  rw [h3, h4] at h2
  rw [hz]
  exact ⟨_, h2⟩
theorem sdv_1 {g : GVW} {t : GS} {x y w : Int32} {v : Nat} {r : Int} (h : FLQ g t ∧ FLA t x y) (hw : w = t.2.2.1 65 4) (hb : bt w v = true) (hr : r = 1) : SDV g x.toNatClampNeg y.toNatClampNeg v r := by
  obtain ⟨⟨-, h2⟩, h3, h4⟩ := h
  rw [h3, h4] at h2
  rw [hw] at hb
  exact ⟨_, _, h2, Or.inl ⟨hr, hb⟩⟩
theorem sdv_0 {g : GVW} {t : GS} {x y w : Int32} {v : Nat} {r : Int} (h : FLQ g t ∧ FLA t x y) (hw : w = t.2.2.1 65 4) (hb : bt w v = false) (hr : r = 0) : SDV g x.toNatClampNeg y.toNatClampNeg v r := by
  obtain ⟨⟨-, h2⟩, h3, h4⟩ := h
  rw [h3, h4] at h2
  rw [hw] at hb
  exact ⟨_, _, h2, Or.inr ⟨hr, hb⟩⟩
theorem sdv_u {g h : GVW} (q : GEW g h) {a b v : Nat} {r u : Int} (hv : v < 32) (x : SDV g a b v r) (y : SDV h a b v u) : r = u := by
  obtain ⟨V, X, x, x2⟩ := x
  obtain ⟨W, Y, y, y2⟩ := y
  have e := (flx_u q x y).2 v hv
  rcases x2 with ⟨r1, xv⟩ | ⟨r1, xv⟩ <;> rcases y2 with ⟨u1, yv⟩ | ⟨u1, yv⟩
  · rw [r1, u1]
  · rw [xv, yv] at e; cases e
  · rw [xv, yv] at e; cases e
  · rw [r1, u1]
theorem flx_e {g h : GVW} (q : GEW g h) {s t : Nat} {V : Int} {X : Nat → Bool} (a : FLX g s t V X) : FLX h s t V X := by
  obtain ⟨a1, a2, a3, a4⟩ := a
  exact ⟨a1, by rw [← cut_eq q X]; exact a2, fun Y y1 y2 => by rw [← cut_eq q Y]; exact a3 Y y1 y2, fun Y y1 y2 e => a4 Y y1 y2 (by rw [cut_eq q Y]; exact e)⟩
end
section
/-! THE REFERENCE'S FLOW: what is left over its arcs -/
def rcT (s : GS) (f : Nat → Int64) (Y : Nat → Bool) (a : Nat) : Int := if (s.1 112 (bs s + a)).toInt ≠ 0 then (if Y (s.1 113 (bs s + a)).toNatClampNeg = true ∧ Y (s.1 114 (bs s + a)).toNatClampNeg = false then (s.1 116 (bs s + a)).toInt - (f a).toInt else 0) + (if Y (s.1 114 (bs s + a)).toNatClampNeg = true ∧ Y (s.1 113 (bs s + a)).toNatClampNeg = false then (f a).toInt else 0) else 0
def RCS (s : GS) (f : Nat → Int64) (Y : Nat → Bool) : Int := sz (rcT s f Y) 160
theorem rcT_0 {s : GS} {f : Nat → Int64} {Y : Nat → Bool} (h : FB s f) : ∀ a, a < 160 → 0 ≤ rcT s f Y a := by
  intro a ha
  unfold rcT
  by_cases c : (s.1 112 (bs s + a)).toInt ≠ 0
  · rw [if_pos c]
    have h1 := h a ha c
    split <;> split <;> omega
  · rw [if_neg c]
    exact Int.le_refl _
theorem rcs_nn {s : GS} {f : Nat → Int64} {Y : Nat → Bool} (h : FB s f) : 0 ≤ RCS s f Y := sz_nn 160 (rcT_0 h)
theorem gvz_fn {s : GS} (hI : Inv s) {p : Nat} (h : (s.1 112 (bs s + p)).toInt = 0) : ((gvZ s).2.1 p).toInt = -1 := by
  have k2 : (s.2.2.1 109 19).toInt = 160 * (s.2.2.1 109 18).toInt := hI.2.2.2.2.2.2.2.2.2.1
  have i18 := inv_F hI (z := s.2.2.1 109 18) 0 1 rfl rfl
  have eb : bs s = 160 * (s.2.2.1 109 18).toNatClampNeg := by
    show (s.2.2.1 109 19).toInt.toNat = 160 * (s.2.2.1 109 18).toInt.toNat
    have := i18.1
    omega
  exact tg_no (g := (s.2.2.1 109 18).toNatClampNeg) (x := s.1 112 (bs s + p)) (by rw [eb]) h
theorem rcs_z {s : GS} {f : Nat → Int64} (hI : Inv s) (h : ∀ a, a < 160 → (f a).toInt = 0) (Y : Nat → Bool) : RCS s f Y = CUTV (gvZ s) Y := by
  refine sz_cg 160 (fun p hp => ?_)
  unfold rcT cuA
  by_cases c : (s.1 112 (bs s + p)).toInt = 0
  · have n1 : ¬ (s.1 112 (bs s + p)).toInt ≠ 0 := fun z => z c
    have n2 : ¬ (((gvZ s).2.1 p).toInt ≠ -1 ∧ Y ((gvZ s).2.1 p).toInt.toNat = true ∧ Y ((gvZ s).2.2.1 p).toInt.toNat = false) := fun z => z.1 (gvz_fn hI c)
    rw [if_neg n1, if_neg n2]
  · obtain ⟨e1, e2⟩ := gvz_ft hI hp c
    have r := (arc_n hI hp c).1.1.1
    rw [if_pos c, e1, e2, gvz_r hI, h p hp]
    by_cases y : Y (s.1 113 (bs s + p)).toNatClampNeg = true ∧ Y (s.1 114 (bs s + p)).toNatClampNeg = false
    · have n : ¬ (Y (s.1 114 (bs s + p)).toNatClampNeg = true ∧ Y (s.1 113 (bs s + p)).toNatClampNeg = false) := fun z => by
        have z1 := z.1
        rw [y.2] at z1
        cases z1
      have n2 : (s.1 113 (bs s + p)).toInt ≠ -1 ∧ Y (s.1 113 (bs s + p)).toInt.toNat = true ∧ Y (s.1 114 (bs s + p)).toInt.toNat = false := ⟨by omega, y⟩
      rw [if_pos y, if_neg n, if_pos n2]
      omega
    · have n2 : ¬ ((s.1 113 (bs s + p)).toInt ≠ -1 ∧ Y (s.1 113 (bs s + p)).toInt.toNat = true ∧ Y (s.1 114 (bs s + p)).toInt.toNat = false) := fun z => y z.2
      rw [if_neg y, if_neg n2]
      split <;> rfl
theorem rcT_cg {s : GS} {f g : Nat → Int64} {Y : Nat → Bool} {a : Nat} (h : f a = g a) : rcT s f Y a = rcT s g Y a := by
  unfold rcT
  rw [h]
theorem rcs_up {s : GS} {f : Nat → Int64} {Y : Nat → Bool} {a : Nat} {w : Int64} (ha : a < 160) : RCS s (vp_updL f a w) Y = RCS s f Y + (rcT s (vp_updL f a w) Y a - rcT s f Y a) := sz_up 160 ha (fun k _ ne => rcT_cg (ul_ne ne))
theorem rcT_d {s : GS} {f : Nat → Int64} {Y : Nat → Bool} {a u v : Nat} {w : Int64} {m : Int} (c : (s.1 112 (bs s + a)).toInt ≠ 0) (h : ((s.1 113 (bs s + a)).toNatClampNeg = u ∧ (s.1 114 (bs s + a)).toNatClampNeg = v ∧ w.toInt = (f a).toInt + m) ∨ ((s.1 113 (bs s + a)).toNatClampNeg = v ∧ (s.1 114 (bs s + a)).toNatClampNeg = u ∧ w.toInt = (f a).toInt - m)) : rcT s (vp_updL f a w) Y a - rcT s f Y a = -(m * (iy Y u - iy Y v)) := by
  unfold rcT iy
  rw [if_pos c, if_pos c, ul_eq]
  rcases h with ⟨e1, e2, e3⟩ | ⟨e1, e2, e3⟩
  · rw [e1, e2, e3]
    cases hu : Y u <;> cases hv : Y v <;> simp <;> omega
  · rw [e1, e2, e3]
    cases hu : Y u <;> cases hv : Y v <;> simp <;> omega
def RPS (s : GS) (m : Int) (t : Nat) (f : Nat → Int64) (v : Nat) : Prop := ∀ Y : Nat → Bool, RCS s f Y = RCS s (s.2.1 147) Y - m * (iy Y v - iy Y t)
theorem rps_0 {s : GS} {m : Int} {t : Nat} : RPS s m t (s.2.1 147) t := by
  intro Y
  rw [Int.sub_self, Int.mul_zero, Int.sub_zero]
theorem rps_s {s u w : GS} {x m : Int} {t v z : Nat} (hI : Inv s) (hr : SR s x) (h1 : u.1 = s.1) (h2 : u.2.2.1 = s.2.2.1) (h : PBW s x m t (u.2.1 147) v) (hx : (v : Int) ≠ x) (hm1 : 1 ≤ m) (hm2 : m ≤ 1000000000) (hp : PU u w v m) (hz : z = bf u v) (hq : RPS s m t (u.2.1 147) v) : RPS s m t (w.2.1 147) z := by
  obtain ⟨y, e1, e2⟩ := hp
  obtain ⟨r, hr2⟩ := hr
  obtain ⟨q1, q2, q3, q4, q5, q6, q7⟩ := ev_bf hI hr2 (pbw_nd h hx) hx
  have hb := pbw_fb h (ar s v) q5 q6
  have hn := (arc_n hI q5 q6).2.2.2
  have e3 := e2 (by unfold FO; rw [ar_cg h1]; exact ⟨by omega, by omega⟩) (by omega) hm2
  rw [ar_cg h1, h1] at e3
  intro Y
  have d := rcT_d (s := s) (Y := Y) (f := u.2.1 147) (a := ar s v) (w := y) (m := m) (u := bf s v) (v := v) q6 (by
    rcases q7 with ⟨a, b, c⟩ | ⟨a, b, c⟩
    · rw [if_pos a] at e3
      exact Or.inr ⟨b, c, by omega⟩
    · rw [if_neg (by omega)] at e3
      exact Or.inl ⟨c, b, e3⟩)
  rw [e1, ar_cg h1, hz, bf_cg h1 h2, rcs_up q5, hq Y, d, Int.mul_sub, Int.mul_sub, Int.mul_sub]
  omega
theorem rcs_cg {s t : GS} {f : Nat → Int64} {Y : Nat → Bool} (h2 : t.1 112 = s.1 112) (h3 : t.1 113 = s.1 113) (h4 : t.1 114 = s.1 114) (h5 : t.1 116 = s.1 116) (h7 : t.2.2.1 109 19 = s.2.2.1 109 19) : RCS t f Y = RCS s f Y := sz_cg 160 (fun a _ => by
  unfold rcT bs
  rw [h2, h3, h4, h5, h7])
/-- V is carried, what is left over fits -/
def RFW (s : GS) (g : GVW) (x y : Nat) (V : Int) : Prop := 0 ≤ V ∧ ∀ Y : Nat → Bool, Y x = true → Y y = false → RCS s (s.2.1 147) Y + V = CUTV g Y
theorem rfw_0 {u : GS} {g : GVW} {x y : Nat} (hI : Inv u) (hg : gvZ u = g) (h : ∀ a : Nat, a < 160 → (u.2.1 147 a).toInt = 0) : RFW u g x y 0 := by
  refine ⟨Int.le_refl _, fun Y _ _ => ?_⟩
  rw [rcs_z hI h Y, hg, Int.add_zero]
theorem rfw_s {s t : GS} {g : GVW} {x y v : Nat} {V m : Int} (h : RFW s g x y V) (m0 : 1 ≤ m) (hp : RPS s m y (t.2.1 147) v) (hv : v = x) (h2 : t.1 112 = s.1 112) (h3 : t.1 113 = s.1 113) (h4 : t.1 114 = s.1 114) (h5 : t.1 116 = s.1 116) (h7 : t.2.2.1 109 19 = s.2.2.1 109 19) : RFW t g x y (V + m) := by
  refine ⟨by have := h.1; omega, fun Y y1 y2 => ?_⟩
  have a := h.2 Y y1 y2
  have b := hp Y
  have e1 : iy Y x = 1 := if_pos y1
  have e2 : iy Y y = 0 := if_neg (by rw [y2]; decide)
  rw [hv, e1, e2] at b
  rw [rcs_cg h2 h3 h4 h5 h7, b]
  omega
theorem rm_Z {s : GS} (hI : Inv s) : ∀ p, p < 160 → 0 ≤ ((gvZ s).2.2.2.2.1 p).toInt ∧ ((gvZ s).2.2.2.2.1 p).toInt ≤ 1000000 := by
  intro p hp
  have b := inv_F hI (z := s.2.2.1 109 19) 0 160 rfl rfl
  have e : bs s = (s.2.2.1 109 19).toInt.toNat := rfl
  have b1 := b.1
  have b2 := b.2
  have w := hI.1.1 116 (bs s + p) (Nat.lt_of_lt_of_le (show bs s + p < 480 by omega) (Nat.le_of_ble_eq_true rfl))
  have e2 : rI 116 = (0, 1000000) := rfl
  rw [e2] at w
  rw [gvz_r hI]
  exact w
theorem rfw_b {s : GS} {g : GVW} {x y : Nat} {V : Int} (h : RFW s g x y V) (st : x ≠ y) (hb : FB s (s.2.1 147)) (hr : ∀ p, p < 160 → 0 ≤ (g.2.2.2.2.1 p).toInt ∧ (g.2.2.2.2.1 p).toInt ≤ 1000000) : V ≤ 160000000 := by
  have y2 : decide (y = x) = false := decide_eq_false (fun z => st z.symm)
  have a := h.2 (fun v => decide (v = x)) (decide_eq_true rfl) y2
  have b2 := rcs_nn (Y := fun v => decide (v = x)) hb
  have c := sz_b (f := cuA g (fun v => decide (v = x))) (B := 1000000) 160 (fun k hk => cuA_b (hr k hk))
  have c2 : CUTV g (fun v => decide (v = x)) ≤ 1000000 * ((160 : Nat) : Int) := c
  omega
/-- what can still be carried from u to v -/
def RRE (s : GS) (u v : Nat) : Prop := ∃ a, a < 160 ∧ (s.1 112 (bs s + a)).toInt ≠ 0 ∧ (((s.1 113 (bs s + a)).toNatClampNeg = u ∧ (s.1 114 (bs s + a)).toNatClampNeg = v ∧ (s.2.1 147 a).toInt < (s.1 116 (bs s + a)).toInt) ∨ ((s.1 114 (bs s + a)).toNatClampNeg = u ∧ (s.1 113 (bs s + a)).toNatClampNeg = v ∧ 0 < (s.2.1 147 a).toInt))
theorem rfw_fl {s : GS} {g : GVW} {x y : Nat} {V : Int} {X : Nat → Bool} (h : RFW s g x y V) (hb : FB s (s.2.1 147)) (x1 : X x = true) (x2 : X y = false) (hc : ∀ u v, RRE s u v → X u = true → X v = true) (hr : ∀ v, v < 32 → X v = true → wlq (RRE s) x v) : FLX g x y V X := by
  have z0 : RCS s (s.2.1 147) X = 0 := sz_zz 160 (fun a ha => by
    unfold rcT
    by_cases c : (s.1 112 (bs s + a)).toInt ≠ 0
    · have b := hb a ha c
      have p1 : (X (s.1 113 (bs s + a)).toNatClampNeg = true ∧ X (s.1 114 (bs s + a)).toNatClampNeg = false) → (s.1 116 (bs s + a)).toInt - (s.2.1 147 a).toInt = 0 := fun z => by
        by_cases q : (s.2.1 147 a).toInt < (s.1 116 (bs s + a)).toInt
        · have k := hc _ _ ⟨a, ha, c, Or.inl ⟨rfl, rfl, q⟩⟩ z.1
          rw [z.2] at k
          cases k
        · omega
      have p2 : (X (s.1 114 (bs s + a)).toNatClampNeg = true ∧ X (s.1 113 (bs s + a)).toNatClampNeg = false) → (s.2.1 147 a).toInt = 0 := fun z => by
        by_cases q : 0 < (s.2.1 147 a).toInt
        · have k := hc _ _ ⟨a, ha, c, Or.inr ⟨rfl, rfl, q⟩⟩ z.1
          rw [z.2] at k
          cases k
        · omega
      rw [if_pos c]
      by_cases k1 : X (s.1 113 (bs s + a)).toNatClampNeg = true ∧ X (s.1 114 (bs s + a)).toNatClampNeg = false
      · rw [if_pos k1, p1 k1]
        by_cases k2 : X (s.1 114 (bs s + a)).toNatClampNeg = true ∧ X (s.1 113 (bs s + a)).toNatClampNeg = false
        · rw [if_pos k2, p2 k2]; rfl
        · rw [if_neg k2]; rfl
      · rw [if_neg k1]
        by_cases k2 : X (s.1 114 (bs s + a)).toNatClampNeg = true ∧ X (s.1 113 (bs s + a)).toNatClampNeg = false
        · rw [if_pos k2, p2 k2]; rfl
        · rw [if_neg k2]; rfl
    · rw [if_neg c])
  refine ⟨⟨x1, x2⟩, by have := h.2 X x1 x2; omega, fun Y y1 y2 => ?_, fun Y y1 y2 hY v hv hx => ?_⟩
  · have a := h.2 Y y1 y2
    have b := rcs_nn (Y := Y) hb
    omega
  · have a := h.2 Y y1 y2
    have e : sz (rcT s (s.2.1 147) Y) 160 = 0 := by
      have e9 : RCS s (s.2.1 147) Y = 0 := by omega
      exact e9
    have cl : ∀ u w, RRE s u w → Y u = true → Y w = true := fun u w he hu => by
      obtain ⟨a, ha, c, he⟩ := he
      cases hw : Y w with
      | true => rfl
      | false =>
        have k0 := sz_0 160 (rcT_0 (Y := Y) hb) e a ha
        unfold rcT at k0
        rw [if_pos c] at k0
        have n1 : Y u = true ∧ Y w = false := ⟨hu, hw⟩
        have n2 : ¬ (Y w = true ∧ Y u = false) := fun z => by
          have z1 := z.1
          rw [hw] at z1
          cases z1
        rcases he with ⟨e1, e2, e3⟩ | ⟨e1, e2, e3⟩
        · rw [e1, e2, if_pos n1, if_neg n2] at k0
          omega
        · rw [e1, e2, if_neg n2, if_pos n1] at k0
          omega
    obtain ⟨j, hj⟩ := hr v hv hx
    have key : ∀ (j a b : Nat), wkq (RRE s) j a b → Y a = true → Y b = true := by
      intro j
      induction j with
      | zero =>
        intro a b hw ha
        have e2 : a = b := hw
        rw [← e2]
        exact ha
      | succ j ih =>
        intro a b hw ha
        obtain ⟨c, hc2, hw2⟩ := hw
        exact ih c b hw2 (cl a c hc2 ha)
    exact key j x v hj y1
def bkX (s : GS) (v : Nat) : Bool := decide ((v : Int) < (s.2.2.1 109 20).toInt ∧ 0 ≤ (s.1 148 v).toInt)
theorem sr_wl {s : GS} {x : Int32} (hI : Inv s) (h : SR s x.toInt) (hx : In x 0 31) : ∀ v : Nat, v < 32 → bkX s v = true → wlq (RRE s) x.toNatClampNeg v := by
  obtain ⟨r, h1, h2⟩ := h
  have key : ∀ (k v : Nat), r v < k → v < 32 → bkX s v = true → wlq (RRE s) x.toNatClampNeg v := by
    intro k
    induction k with
    | zero => intro v hk; omega
    | succ k ih =>
      intro v hk hv hb
      obtain ⟨b1, b2⟩ := of_decide_eq_true hb
      by_cases c : (v : Int) = x.toInt
      · have e : x.toNatClampNeg = v := by
          show x.toInt.toNat = v
          omega
        rw [e]
        exact wl_0
      · obtain ⟨a, ha, q⟩ := h2 v hv b1 c b2
        rcases q with ⟨-, t1, t2, t3, t4, t5⟩ | ⟨-, t1, t2, t3, t4, t5⟩
        · have n := (arc_n hI ha t1).1
          have n1 := n.1.1
          have n2 := n.1.2
          have n3 := n.2
          have ed : (s.1 113 (bs s + a)).toNatClampNeg = (s.1 113 (bs s + a)).toInt.toNat := rfl
          exact wl_tr (ih _ (by omega) (by omega) (decide_eq_true ⟨by omega, t3⟩)) (wl_1 ⟨a, ha, t1, Or.inl ⟨rfl, t2, t5⟩⟩)
        · have n := (arc_n hI ha t1).2.1
          have n1 := n.1.1
          have n2 := n.1.2
          have n3 := n.2
          have ed : (s.1 114 (bs s + a)).toNatClampNeg = (s.1 114 (bs s + a)).toInt.toNat := rfl
          exact wl_tr (ih _ (by omega) (by omega) (decide_eq_true ⟨by omega, t3⟩)) (wl_1 ⟨a, ha, t1, Or.inr ⟨rfl, t2, t5⟩⟩)
  intro v hv hb
  exact key (r v + 1) v (by omega) hv hb
def SCL (s : GS) : Prop := ∀ u v, RRE s u v → (u : Int) < (s.2.2.1 109 20).toInt → 0 ≤ (s.1 148 u).toInt → 0 ≤ (s.1 148 v).toInt
theorem bk_fl {s : GS} {g : GVW} {x y : Int32} {V : Int} (hI : Inv s) (h : RFW s g x.toNatClampNeg y.toNatClampNeg V) (hb : FB s (s.2.1 147)) (hr : SR s x.toInt) (hx : In x 0 31) (hn : x.toInt < (s.2.2.1 109 20).toInt) (h3 : 0 ≤ (s.1 148 x.toNatClampNeg).toInt) (hy : (s.1 148 y.toNatClampNeg).toInt < 0) (hc : SCL s) : FLX g x.toNatClampNeg y.toNatClampNeg V (bkX s) := by
  have ex : ((x.toNatClampNeg : Nat) : Int) = x.toInt := by
    show ((x.toInt.toNat : Nat) : Int) = x.toInt
    have := hx.1
    omega
  refine rfw_fl h hb (decide_eq_true ⟨by omega, h3⟩) (decide_eq_false (fun z => by have := z.2; omega)) (fun u v he hu => ?_) (sr_wl hI hr hx)
  obtain ⟨b1, b2⟩ := of_decide_eq_true hu
  refine decide_eq_true ⟨?_, hc u v he b1 b2⟩
  obtain ⟨a, ha, c, q⟩ := he
  have n := arc_n hI ha c
  rcases q with ⟨e1, e2, -⟩ | ⟨e1, e2, -⟩
  · rw [← e2]
    have n1 := n.2.1.1.1
    have n3 := n.2.1.2
    show (((s.1 114 (bs s + a)).toInt.toNat : Nat) : Int) < _
    omega
  · rw [← e2]
    have n1 := n.1.1.1
    have n3 := n.1.2
    show (((s.1 113 (bs s + a)).toInt.toNat : Nat) : Int) < _
    omega
/-! the reference's search: nothing is passed by -/
def SCN (s : GS) (v a : Nat) : Prop := (s.1 112 (bs s + a)).toInt ≠ 0 → ((s.1 113 (bs s + a)).toNatClampNeg = v → (s.2.1 147 a).toInt < (s.1 116 (bs s + a)).toInt → 0 ≤ (s.1 148 (s.1 114 (bs s + a)).toNatClampNeg).toInt) ∧ ((s.1 114 (bs s + a)).toNatClampNeg = v → 0 < (s.2.1 147 a).toInt → 0 ≤ (s.1 148 (s.1 113 (bs s + a)).toNatClampNeg).toInt)
def SQQ (s : GS) (l k : Int) : Prop := (∀ v : Nat, (v : Int) < (s.2.2.1 109 20).toInt → 0 ≤ (s.1 148 v).toInt → ∃ i : Nat, (i : Int) < l ∧ (s.1 132 i).toNatClampNeg = v) ∧ (∀ i : Nat, (i : Int) < k → ∀ a : Nat, a < 160 → SCN s (s.1 132 i).toNatClampNeg a)
theorem scn_up {s t : GS} {w b : Int32} {v a : Nat} (hb : t.1 148 = upd (s.1 148) w.toNatClampNeg b) (h0 : 0 ≤ b.toInt) (h2 : t.1 112 = s.1 112) (h3 : t.1 113 = s.1 113) (h4 : t.1 114 = s.1 114) (h5 : t.1 116 = s.1 116) (h6 : t.2.1 147 = s.2.1 147) (h7 : t.2.2.1 109 19 = s.2.2.1 109 19) (h : SCN s v a) : SCN t v a := by
  have eb : bs t = bs s := by unfold bs; rw [h7]
  unfold SCN at h ⊢
  rw [eb, h2, h3, h4, h5, h6, hb]
  intro c
  exact ⟨fun x y => up_ge ((h c).1 x y) h0, fun x y => up_ge ((h c).2 x y) h0⟩
theorem sq_push {s t : GS} {l k : Int} {w b : Int32} {m : Nat} (h : SQQ s l k) (hk : k ≤ l) (hm : (m : Int) = l) (hb : t.1 148 = upd (s.1 148) w.toNatClampNeg b) (h0 : 0 ≤ b.toInt) (hq : t.1 132 = upd (s.1 132) m w) (h2 : t.1 112 = s.1 112) (h3 : t.1 113 = s.1 113) (h4 : t.1 114 = s.1 114) (h5 : t.1 116 = s.1 116) (h6 : t.2.1 147 = s.2.1 147) (h7 : t.2.2.1 109 19 = s.2.2.1 109 19) (h8 : t.2.2.1 109 20 = s.2.2.1 109 20) : SQQ t (l + 1) k := by
  refine ⟨fun v hv hbv => ?_, fun i hi a ha => ?_⟩
  · by_cases c : v = w.toNatClampNeg
    · exact ⟨m, by omega, by rw [hq, up_e]; exact c.symm⟩
    · rw [hb, up_n c] at hbv
      obtain ⟨i, i1, i2⟩ := h.1 v (by rw [← h8]; exact hv) hbv
      have ne : i ≠ m := by omega
      exact ⟨i, by omega, by rw [hq, up_n ne]; exact i2⟩
  · have ne : i ≠ m := by omega
    have e : t.1 132 i = s.1 132 i := by rw [hq, up_n ne]
    rw [e]
    exact scn_up hb h0 h2 h3 h4 h5 h6 h7 (h.2 i hi a ha)
theorem sq_0 {s t : GS} {x y : Int32} (hb : t.1 148 = upd (s.1 148) x.toNatClampNeg y) (hq : t.1 132 0 = x) (h8 : t.2.2.1 109 20 = s.2.2.1 109 20) (h : ∀ k : Nat, (k : Int) < (s.2.2.1 109 20).toInt → (s.1 148 k).toInt < 0) : SQQ t 1 0 := by
  refine ⟨fun v hv hbv => ?_, fun i hi a ha => by omega⟩
  by_cases c : v = x.toNatClampNeg
  · exact ⟨0, by omega, by rw [hq]; exact c.symm⟩
  · rw [hb, up_n c] at hbv
    have k := h v (by rw [← h8]; exact hv)
    omega
theorem sq_n {s : GS} {l k k2 : Int} {j : Nat} {v : Int32} (h : SQQ s l k) (hj : (j : Int) = k) (h2 : k2 = k + 1) (hv : v = s.1 132 j) (ha : ∀ a : Nat, a < 160 → SCN s v.toNatClampNeg a) : SQQ s l k2 := by
  refine ⟨h.1, fun i hi a h1 => ?_⟩
  by_cases c : i = j
  · rw [c, ← hv]
    exact ha a h1
  · exact h.2 i (by omega) a h1
theorem sq_c {s : GS} {l k : Int} (h : SQQ s l k) (hk : l ≤ k) : SCL s := by
  intro u v he hu hb
  obtain ⟨i, i1, i2⟩ := h.1 u hu hb
  obtain ⟨a, ha, c, q⟩ := he
  have m := h.2 i (by omega) a ha c
  rw [i2] at m
  rcases q with ⟨e1, e2, e3⟩ | ⟨e1, e2, e3⟩
  · rw [← e2]
    exact m.1 e1 e3
  · rw [← e2]
    exact m.2 e1 e3
theorem scn_i {s : GS} {v a x : Nat} (hx : bs s + a = x) (h1 : (s.1 112 x).toInt = 0 ∨ (s.1 113 x).toNatClampNeg ≠ v ∨ 0 ≤ (s.1 148 (s.1 114 x).toNatClampNeg).toInt ∨ (s.1 116 x).toInt ≤ (s.2.1 147 a).toInt) (h2 : (s.1 112 x).toInt = 0 ∨ (s.1 114 x).toNatClampNeg ≠ v ∨ 0 ≤ (s.1 148 (s.1 113 x).toNatClampNeg).toInt ∨ (s.2.1 147 a).toInt ≤ 0) : SCN s v a := by
  unfold SCN
  rw [hx]
  intro c
  refine ⟨fun p q => ?_, fun p q => ?_⟩
  · rcases h1 with k | k | k | k
    · exact absurd k c
    · exact absurd p k
    · exact k
    · omega
  · rcases h2 with k | k | k | k
    · exact absurd k c
    · exact absurd p k
    · exact k
    · omega
theorem scn_f {s t : GS} {v a x : Nat} {w b : Int32} (hx : bs s + a = x) (hb : t.1 148 = upd (s.1 148) w.toNatClampNeg b) (h0 : 0 ≤ b.toInt) (h2 : t.1 112 = s.1 112) (h3 : t.1 113 = s.1 113) (h4 : t.1 114 = s.1 114) (h5 : t.1 116 = s.1 116) (h6 : t.2.1 147 = s.2.1 147) (h7 : t.2.2.1 109 19 = s.2.2.1 109 19) (hw : w = s.1 114 x) (hn : (s.1 148 w.toNatClampNeg).toInt < 0) (hv : 0 ≤ (s.1 148 v).toInt) : SCN t v a := by
  have eb : bs t = bs s := by unfold bs; rw [h7]
  unfold SCN
  rw [eb, hx, h2, h3, h4, h5, h6, hb, ← hw]
  intro c
  refine ⟨fun _ _ => by rw [up_e]; exact h0, fun p q => ?_⟩
  rw [p] at hn
  omega
theorem scn_b {s t : GS} {v a x : Nat} {w b : Int32} (hx : bs s + a = x) (hb : t.1 148 = upd (s.1 148) w.toNatClampNeg b) (h0 : 0 ≤ b.toInt) (h2 : t.1 112 = s.1 112) (h3 : t.1 113 = s.1 113) (h4 : t.1 114 = s.1 114) (h5 : t.1 116 = s.1 116) (h6 : t.2.1 147 = s.2.1 147) (h7 : t.2.2.1 109 19 = s.2.2.1 109 19) (hw : w = s.1 113 x) (h1 : (s.1 112 x).toInt = 0 ∨ (s.1 113 x).toNatClampNeg ≠ v ∨ 0 ≤ (s.1 148 (s.1 114 x).toNatClampNeg).toInt ∨ (s.1 116 x).toInt ≤ (s.2.1 147 a).toInt) : SCN t v a := by
  have eb : bs t = bs s := by unfold bs; rw [h7]
  unfold SCN
  rw [eb, hx, h2, h3, h4, h5, h6, hb, ← hw]
  rw [← hw] at h1
  intro c
  refine ⟨fun p q => ?_, fun _ _ => by rw [up_e]; exact h0⟩
  rcases h1 with k | k | k | k
  · exact absurd k c
  · exact absurd p k
  · exact up_ge k h0
  · omega
theorem tn_ne {x y : Int32} (hx : 0 ≤ x.toInt) (hy : 0 ≤ y.toInt) (h : x.toInt ≠ y.toInt) : x.toNatClampNeg ≠ y.toNatClampNeg := by
  show x.toInt.toNat ≠ y.toInt.toNat
  omega
def SDR (s t : GS) (x y v z : Int32) : Prop := ((t.2.2.1 109 0).toInt = 1 ∧ ¬ (TWO (s.2.2.1 109 20).toInt x y ∧ 0 ≤ v.toInt ∧ v.toInt < (s.2.2.1 109 20).toInt)) ∨ ((t.2.2.1 109 0).toInt = 0 ∧ (TWO (s.2.2.1 109 20).toInt x y ∧ 0 ≤ v.toInt ∧ v.toInt < (s.2.2.1 109 20).toInt) ∧ SDV (gvZ s) x.toNatClampNeg y.toNatClampNeg v.toNatClampNeg z.toInt)
theorem bk_v {s : GS} {v z : Int32} {r : Int} (hv : 0 ≤ v.toInt ∧ v.toInt < (s.2.2.1 109 20).toInt) (hz : z = s.1 148 v.toNatClampNeg) (h : (r = 1 ∧ 0 ≤ z.toInt) ∨ (r = 0 ∧ z.toInt < 0)) : (r = 1 ∧ bkX s v.toNatClampNeg = true) ∨ (r = 0 ∧ bkX s v.toNatClampNeg = false) := by
  have ev : ((v.toNatClampNeg : Nat) : Int) = v.toInt := by
    show ((v.toInt.toNat : Nat) : Int) = v.toInt
    omega
  rw [hz] at h
  rcases h with ⟨a, b⟩ | ⟨a, b⟩
  · exact Or.inl ⟨a, decide_eq_true ⟨by omega, b⟩⟩
  · exact Or.inr ⟨a, decide_eq_false (fun q => by have := q.2; omega)⟩
end
