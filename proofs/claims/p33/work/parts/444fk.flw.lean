section
/-! GREATEST FLOWS AND LEAST SIDES -/
def sz (f : Nat → Int) : Nat → Int
  | 0 => 0
  | n + 1 => sz f n + f n
theorem sz_s {f : Nat → Int} {n : Nat} : sz f (n + 1) = sz f n + f n := rfl
theorem sz_cg {f g : Nat → Int} : ∀ n : Nat, (∀ k, k < n → g k = f k) → sz g n = sz f n := by
  intro n
  induction n with
  | zero => intro _; rfl
  | succ n ih =>
    intro h
    rw [sz_s, sz_s, ih (fun k hk => h k (by omega)), h n (by omega)]
theorem sz_up {f g : Nat → Int} {j : Nat} : ∀ n : Nat, j < n → (∀ k, k < n → k ≠ j → g k = f k) → sz g n = sz f n + (g j - f j) := by
  intro n
  induction n with
  | zero => intro h; omega
  | succ n ih =>
    intro h hk
    rw [sz_s, sz_s]
    by_cases c : j = n
    · have e := sz_cg (f := f) (g := g) n (fun k hk2 => hk k (by omega) (by omega))
      rw [e, c]
      omega
    · rw [ih (by omega) (fun k h1 h2 => hk k (by omega) h2), hk n (by omega) (fun z => c z.symm)]
      omega
theorem sz_nn {f : Nat → Int} : ∀ n : Nat, (∀ k, k < n → 0 ≤ f k) → 0 ≤ sz f n := by
  intro n
  induction n with
  | zero => intro _; exact Int.le_refl _
  | succ n ih =>
    intro h
    have a := ih (fun k hk => h k (by omega))
    have b := h n (by omega)
    rw [sz_s]
    omega
theorem sz_0 {f : Nat → Int} : ∀ n : Nat, (∀ k, k < n → 0 ≤ f k) → sz f n = 0 → ∀ k, k < n → f k = 0 := by
  intro n
  induction n with
  | zero => intro _ _ k hk; omega
  | succ n ih =>
    intro h e k hk
    rw [sz_s] at e
    have a := sz_nn n (fun k hk => h k (by omega))
    have b := h n (by omega)
    by_cases c : k = n
    · rw [c]; omega
    · exact ih (fun k hk => h k (by omega)) (by omega) k (by omega)
theorem sz_zz {f : Nat → Int} : ∀ n : Nat, (∀ k, k < n → f k = 0) → sz f n = 0 := by
  intro n
  induction n with
  | zero => intro _; rfl
  | succ n ih =>
    intro h
    rw [sz_s, ih (fun k hk => h k (by omega)), h n (by omega)]
    omega
def iy (Y : Nat → Bool) (u : Nat) : Int := if Y u = true then 1 else 0
/-- what an arc lets out of Y -/
def cuA (g : GVW) (Y : Nat → Bool) (p : Nat) : Int := if (g.2.1 p).toInt ≠ -1 ∧ Y (g.2.1 p).toInt.toNat = true ∧ Y (g.2.2.1 p).toInt.toNat = false then (g.2.2.2.2.1 p).toInt else 0
def CUTV (g : GVW) (Y : Nat → Bool) : Int := sz (cuA g Y) 160
theorem cuA_e {g h : GVW} (q : GEW g h) {Y : Nat → Bool} {p : Nat} (hp : p < 160) : cuA g Y p = cuA h Y p := by
  unfold cuA
  have e1 := q.2.1 p hp
  by_cases c : (g.2.1 p).toInt = -1
  · rw [if_neg (fun z => z.1 c), if_neg (fun z => z.1 (by rw [← e1]; exact c))]
  · obtain ⟨e2, e3, e4, -⟩ := q.2.2.1 p hp c
    rw [e1, e2, e4]
theorem cut_eq {g h : GVW} (q : GEW g h) (Y : Nat → Bool) : CUTV g Y = CUTV h Y := sz_cg 160 (fun p hp => cuA_e q hp)
/-- V is the greatest flow, X the least side -/
def FLX (g : GVW) (s t : Nat) (V : Int) (X : Nat → Bool) : Prop := (X s = true ∧ X t = false) ∧ V = CUTV g X ∧ (∀ Y : Nat → Bool, Y s = true → Y t = false → V ≤ CUTV g Y) ∧ (∀ Y : Nat → Bool, Y s = true → Y t = false → CUTV g Y = V → ∀ v, v < 32 → X v = true → Y v = true)
/-! the class: what is left between two nodes -/
def xlT (Y : Nat → Bool) (L : Nat → Int32) (k : Nat) : Int := if Y (k / 32) = true ∧ Y (k % 32) = false then (L k).toInt else 0
def XLS (Y : Nat → Bool) (L : Nat → Int32) : Int := sz (xlT Y L) 1024
theorem xl_up {Y : Nat → Bool} {L : Nat → Int32} {u v : Nat} {x : Int32} (hu : u < 32) (hv : v < 32) : XLS Y (upd L (32 * u + v) x) = XLS Y L + (if Y u = true ∧ Y v = false then x.toInt - (L (32 * u + v)).toInt else 0) := by
  have e := sz_up (f := xlT Y L) (g := xlT Y (upd L (32 * u + v) x)) (j := 32 * u + v) 1024 (by omega) (fun k hk hne => by
    unfold xlT
    rw [up_n hne])
  have d1 : (32 * u + v) / 32 = u := by omega
  have d2 : (32 * u + v) % 32 = v := by omega
  show sz _ 1024 = sz _ 1024 + _
  rw [e]
  unfold xlT
  rw [d1, d2, up_e]
  by_cases c : Y u = true ∧ Y v = false
  · rw [if_pos c, if_pos c, if_pos c]
  · rw [if_neg c, if_neg c, if_neg c]
    omega
/-- a step of a way: from u to v -/
theorem xl_st {Y : Nat → Bool} {L : Nat → Int32} {u v : Nat} {x y : Int32} {a : Int} (hu : u < 32) (hv : v < 32) (ne : u ≠ v) (hx : x.toInt = (L (32 * u + v)).toInt - a) (hy : y.toInt = (L (32 * v + u)).toInt + a) : XLS Y (upd (upd L (32 * u + v) x) (32 * v + u) y) = XLS Y L - a * (iy Y u - iy Y v) := by
  have n1 : 32 * v + u ≠ 32 * u + v := by omega
  rw [xl_up hv hu, xl_up hu hv, up_n n1, hx, hy]
  unfold iy
  by_cases c1 : Y u = true
  · by_cases c2 : Y v = true
    · rw [if_neg (show ¬ (Y u = true ∧ Y v = false) from fun z => by rw [c2] at z; cases z.2), if_neg (show ¬ (Y v = true ∧ Y u = false) from fun z => by rw [c1] at z; cases z.2), if_pos c1, if_pos c2]
      omega
    · have c3 : Y v = false := by
        cases h : Y v with
        | true => exact absurd h c2
        | false => rfl
      rw [if_pos (show Y u = true ∧ Y v = false from ⟨c1, c3⟩), if_neg (show ¬ (Y v = true ∧ Y u = false) from fun z => c2 z.1), if_pos c1, if_neg c2]
      omega
  · have c4 : Y u = false := by
      cases h : Y u with
      | true => exact absurd h c1
      | false => rfl
    by_cases c2 : Y v = true
    · rw [if_neg (show ¬ (Y u = true ∧ Y v = false) from fun z => c1 z.1), if_pos (show Y v = true ∧ Y u = false from ⟨c2, c4⟩), if_neg c1, if_pos c2]
      omega
    · rw [if_neg (show ¬ (Y u = true ∧ Y v = false) from fun z => c1 z.1), if_neg (show ¬ (Y v = true ∧ Y u = false) from fun z => c2 z.1), if_neg c1, if_neg c2]
      omega
/-- open is what is left -/
def OPQ (L O : Nat → Int32) : Prop := ∀ u v : Nat, u < 32 → v < 32 → (bt (O u) v = true ↔ 0 < (L (32 * u + v)).toInt)
/-- nothing below 0; two nodes have 160,000,000 at most -/
def LNN (L : Nat → Int32) (B : Int) : Prop := ∀ u v : Nat, u < 32 → v < 32 → 0 ≤ (L (32 * u + v)).toInt ∧ (L (32 * u + v)).toInt + (L (32 * v + u)).toInt ≤ B
theorem lnn_k {L : Nat → Int32} {B : Int} (h : LNN L B) {k : Nat} (hk : k < 1024) : 0 ≤ (L k).toInt := by
  have q := (h (k / 32) (k % 32) (by omega) (by omega)).1
  rw [show 32 * (k / 32) + k % 32 = k by omega] at q
  exact q
theorem xlT_0 {Y : Nat → Bool} {L : Nat → Int32} {B : Int} (h : LNN L B) : ∀ k, k < 1024 → 0 ≤ xlT Y L k := fun k hk => by
  unfold xlT
  by_cases c : Y (k / 32) = true ∧ Y (k % 32) = false
  · rw [if_pos c]; exact lnn_k h hk
  · rw [if_neg c]
    exact Int.le_refl _
/-! a flow of the class: V has gone -/
def CFL (g : GVW) (s t : Nat) (L O : Nat → Int32) (V : Int) : Prop := LNN L 160000000 ∧ OPQ L O ∧ ∀ Y : Nat → Bool, Y s = true → Y t = false → XLS Y L + V = CUTV g Y
def EOP (O : Nat → Int32) (u v : Nat) : Prop := u < 32 ∧ v < 32 ∧ bt (O u) v = true
theorem cfl_fl {g : GVW} {s t : Nat} {L O : Nat → Int32} {V : Int} {X : Nat → Bool} (h : CFL g s t L O V) (x1 : X s = true) (x2 : X t = false) (hc : ∀ u v, EOP O u v → X u = true → X v = true) (hr : ∀ v, v < 32 → X v = true → wlq (EOP O) s v) : FLX g s t V X := by
  obtain ⟨h1, h2, h3⟩ := h
  have z0 : XLS X L = 0 := sz_zz 1024 (fun k hk => by
    unfold xlT
    by_cases c : X (k / 32) = true ∧ X (k % 32) = false
    · rw [if_pos c]
      have nn := (h1 (k / 32) (k % 32) (by omega) (by omega)).1
      have nb : ¬ 0 < (L (32 * (k / 32) + k % 32)).toInt := fun z => by
        have b := (h2 (k / 32) (k % 32) (by omega) (by omega)).mpr z
        have m := hc (k / 32) (k % 32) ⟨by omega, by omega, b⟩ c.1
        rw [c.2] at m
        cases m
      rw [show 32 * (k / 32) + k % 32 = k by omega] at nn nb
      omega
    · rw [if_neg c])
  refine ⟨⟨x1, x2⟩, by have := h3 X x1 x2; omega, fun Y y1 y2 => ?_, fun Y y1 y2 hY v hv hx => ?_⟩
  · have a := h3 Y y1 y2
    have b := sz_nn 1024 (xlT_0 (Y := Y) h1)
    have b2 : 0 ≤ XLS Y L := b
    omega
  · have a := h3 Y y1 y2
    have e : XLS Y L = 0 := by omega
    have cl : ∀ u w, EOP O u w → Y u = true → Y w = true := fun u w he hu => by
      obtain ⟨u1, w1, b⟩ := he
      have p := (h2 u w u1 w1).mp b
      cases hw : Y w with
      | true => rfl
      | false =>
        have k0 := sz_0 1024 (xlT_0 (Y := Y) h1) e (32 * u + w) (by omega)
        unfold xlT at k0
        rw [show (32 * u + w) / 32 = u by omega, show (32 * u + w) % 32 = w by omega, if_pos ⟨hu, hw⟩] at k0
        omega
    obtain ⟨j, hj⟩ := hr v hv hx
    have key : ∀ (j a b : Nat), wkq (EOP O) j a b → Y a = true → Y b = true := by
      intro j
      induction j with
      | zero =>
        intro a b hw ha
        have e2 : a = b := hw
        rw [← e2]
        exact ha
      | succ j ih =>
        intro a b hw ha
        obtain ⟨c, hc2, hw2⟩ := hw
        exact ih c b hw2 (cl a c hc2 ha)
    exact key j s v hj y1
theorem cb_mono {a b : Int32} (h : ∀ v, bt a v = true → bt b v = true) : cb a ≤ cb b := cbf_mono (fun k _ hk => h k hk)
theorem cb_lt {a b : Int32} (h : ∀ v, bt a v = true → bt b v = true) {v : Nat} (h1 : bt a v = false) (h2 : bt b v = true) : cb a + 1 ≤ cb b := by
  show cbf (bt a) 32 + 1 ≤ cbf (bt b) 32
  rw [cbf_cnP, cbf_cnP]
  have q := cnP_lt (P := fun k => bt a k = true) (Q := fun k => bt b k = true) 32 (fun k _ hk => h k hk) v (bt_lt h2) h2 (fun z => by rw [h1] at z; cases z)
  omega
theorem bt_ex {a : Int32} (h : a.toInt ≠ 0) : ∃ v, bt a v = true := Classical.byContradiction fun z => h (by
  have e : a = Int32.ofInt 0 := bt_ext (fun k _ => by
    cases q : bt a k with
    | true => exact absurd ⟨k, q⟩ z
    | false => exact (show bt (Int32.ofInt 0) k = false from bt_z).symm)
  rw [e]
  rfl)
/-! layers: d counts the arcs from s on -/
def LYA (O W : Nat → Int32) (s : Nat) (M : Int32) (d : Nat → Nat) : Prop := (s < 32 ∧ bt M s = true ∧ d s = 0) ∧ (∀ v, bt M v = true → wlq (EOP O) s v) ∧ (∀ v, bt M v = true → v ≠ s → EOP O (W v).toNatClampNeg v ∧ d v = d (W v).toNatClampNeg + 1 ∧ bt M (W v).toNatClampNeg = true)
/-- at the head of layer i -/
def LYR (O W : Nat → Int32) (s t i : Nat) (M Y : Int32) : Prop := ∃ d : Nat → Nat, (bt M t = true → d t = i) ∧ LYA O W s M d ∧ (∀ v, bt M v = true → d v ≤ i) ∧ (∀ v, bt Y v = true ↔ (bt M v = true ∧ d v = i)) ∧ (∀ u v, bt M u = true → d u < i → EOP O u v → bt M v = true ∧ d v ≤ d u + 1) ∧ (Y.toInt ≠ 0 → i + 1 ≤ cb M) ∧ i ≤ cb M
/-- within layer i: R of it is still to do, N is what comes behind it -/
def LYM (O W : Nat → Int32) (s t i : Nat) (M R N : Int32) : Prop := ∃ d : Nat → Nat, (bt M t = true → d t = i + 1) ∧ LYA O W s M d ∧ (∀ v, bt M v = true → d v ≤ i + 1) ∧ (∀ v, bt N v = true ↔ (bt M v = true ∧ d v = i + 1)) ∧ (∀ v, bt R v = true → bt M v = true ∧ d v = i) ∧ (∀ u v, bt M u = true → d u < i ∨ (d u = i ∧ bt R u = false) → EOP O u v → bt M v = true ∧ d v ≤ d u + 1) ∧ (if N.toInt = 0 then i + 1 else i + 2) ≤ cb M
section LYR
variable {O W : Nat → Int32} {s t i : Nat} {M Y R N : Int32}
theorem lyr_0 {x : Int32} (hx : In x 0 31) (e : M = Int32.ofInt 1 <<< (x &&& 31)) : LYR O W x.toNatClampNeg t 0 M M := by
  have b1 : ∀ v, bt M v = true ↔ v = x.toNatClampNeg := fun v => by rw [bt_one e hx, decide_eq_true_iff]
  have x1 := hx.1
  have x2 := hx.2
  have xs : x.toNatClampNeg < 32 := by show x.toInt.toNat < 32; omega
  have c1 : 1 ≤ cb M := cb_pos ((b1 _).mpr rfl)
  refine ⟨fun _ => 0, fun _ => rfl, ⟨⟨xs, (b1 _).mpr rfl, rfl⟩, fun v hv => ?_, fun v hv hn => absurd ((b1 v).mp hv) hn⟩, fun v _ => Nat.le_refl _, fun v => ⟨fun h => ⟨h, rfl⟩, fun h => h.1⟩, fun u v _ h => absurd h (Nat.not_lt_zero _), fun _ => by omega, Nat.zero_le _⟩
  rw [(b1 v).mp hv]
  exact wl_0
theorem lym_0 (h : LYR O W s t i M Y) (hy : Y.toInt ≠ 0) (ht : bt M t = false) : LYM O W s t i M Y (Int32.ofInt 0) := by
  obtain ⟨d, -, a, b, c, e, f, g⟩ := h
  have z : ∀ v, bt (Int32.ofInt 0) v = false := fun v => bt_z
  refine ⟨d, fun q => (by rw [ht] at q; cases q), a, fun v hv => (by have := b v hv; omega), fun v => ⟨fun h => (by rw [z] at h; cases h), fun h => by have := b v h.1; omega⟩, fun v hv => (c v).mp hv, fun u v hu hd he => ?_, ?_⟩
  · rcases hd with hd | ⟨hd, hr⟩
    · exact e u v hu hd he
    · have q := (c u).mpr ⟨hu, hd⟩
      rw [q] at hr
      cases hr
  · rw [if_pos (show (Int32.ofInt 0).toInt = 0 from rfl)]
    exact f hy
theorem lyr_n (h : LYM O W s t i M R N) (hr : R.toInt = 0) : LYR O W s t (i + 1) M N := by
  obtain ⟨d, a0, a, b, c, e, f, g⟩ := h
  have z : ∀ v, bt R v = false := fun v => by
    have e0 : R = Int32.ofInt 0 := Int32.toInt_inj.mp (show R.toInt = (Int32.ofInt 0).toInt from hr)
    rw [e0]
    exact bt_z
  refine ⟨d, a0, a, b, c, fun u v hu hd he => f u v hu (by
    by_cases q : d u < i
    · exact Or.inl q
    · exact Or.inr ⟨by omega, z u⟩) he, fun hn => ?_, ?_⟩
  · rw [if_neg hn] at g
    omega
  · by_cases q : N.toInt = 0
    · rw [if_pos q] at g; omega
    · rw [if_neg q] at g; omega
/-- node u of the layer is done: A is what it newly reaches -/
theorem lym_s {W2 : Nat → Int32} {A M2 R2 N2 u : Int32} (h : LYM O W s t i M R N) (hu : In u 0 31) (ub : bt R u.toNatClampNeg = true) (ha : ∀ v, bt A v = true ↔ (bt (O u.toNatClampNeg) v = true ∧ bt M v = false)) (hm : ∀ v, bt M2 v = true ↔ (bt M v = true ∨ bt A v = true)) (hn : ∀ v, bt N2 v = true ↔ (bt N v = true ∨ bt A v = true)) (hr : ∀ v, bt R2 v = true ↔ (bt R v = true ∧ v ≠ u.toNatClampNeg)) (w1 : ∀ v, bt M v = true → W2 v = W v) (w2 : ∀ v, bt A v = true → W2 v = u) : LYM O W2 s t i M2 R2 N2 := by
  obtain ⟨d, a0, ⟨⟨s1, s2, s3⟩, a2, a3⟩, b, c, e, f, g⟩ := h
  have ui := e _ ub
  have u1 := hu.1
  have u2 := hu.2
  have un : u.toNatClampNeg < 32 := by show u.toInt.toNat < 32; omega
  have ex : ∀ v, bt A v = true → bt M v = false := fun v hv => ((ha v).mp hv).2
  have nm : ∀ v, bt M v = true → ¬ bt A v = true := fun v hv z => by rw [ex v z] at hv; cases hv
  have dM : ∀ v, bt M v = true → (if bt A v = true then i + 1 else d v) = d v := fun v hv => if_neg (nm v hv)
  have dA : ∀ v, bt A v = true → (if bt A v = true then i + 1 else d v) = i + 1 := fun v hv => if_pos hv
  have eo : ∀ v, bt A v = true → EOP O u.toNatClampNeg v := fun v hv => ⟨un, bt_lt ((ha v).mp hv).1, ((ha v).mp hv).1⟩
  refine ⟨fun v => if bt A v = true then i + 1 else d v, fun q => ?_, ⟨⟨s1, (hm s).mpr (Or.inl s2), (show (if bt A s = true then i + 1 else d s) = 0 by rw [dM s s2]; exact s3)⟩, fun v hv => ?_, fun v hv hne => ?_⟩, fun v hv => ?_, fun v => ?_, fun v hv => ?_, fun x v hx hd he => ?_, ?_⟩
  · show (if bt A t = true then i + 1 else d t) = i + 1
    rcases (hm t).mp q with k | k
    · rw [dM t k]; exact a0 k
    · exact dA t k
  · rcases (hm v).mp hv with q | q
    · exact a2 v q
    · exact wl_tr (a2 _ ui.1) (wl_1 (eo v q))
  · rcases (hm v).mp hv with q | q
    · obtain ⟨k1, k2, k3⟩ := a3 v q hne
      rw [w1 v q]
      exact ⟨k1, by show (if bt A v = true then i + 1 else d v) = (if bt A (W v).toNatClampNeg = true then i + 1 else d (W v).toNatClampNeg) + 1; rw [dM v q, dM _ k3]; exact k2, (hm _).mpr (Or.inl k3)⟩
    · rw [w2 v q]
      exact ⟨eo v q, by show (if bt A v = true then i + 1 else d v) = (if bt A u.toNatClampNeg = true then i + 1 else d u.toNatClampNeg) + 1; rw [dA v q, dM _ ui.1, ui.2], (hm _).mpr (Or.inl ui.1)⟩
  · show (if bt A v = true then i + 1 else d v) ≤ i + 1
    rcases (hm v).mp hv with q | q
    · rw [dM v q]; exact b v q
    · rw [dA v q]; exact Nat.le_refl _
  · show bt N2 v = true ↔ (bt M2 v = true ∧ (if bt A v = true then i + 1 else d v) = i + 1)
    rw [hn v, hm v]
    constructor
    · rintro (q | q)
      · have k := (c v).mp q
        exact ⟨Or.inl k.1, by rw [dM v k.1]; exact k.2⟩
      · exact ⟨Or.inr q, dA v q⟩
    · rintro ⟨q | q, k⟩
      · rw [dM v q] at k
        exact Or.inl ((c v).mpr ⟨q, k⟩)
      · exact Or.inr q
  · have k := e v ((hr v).mp hv).1
    exact ⟨(hm v).mpr (Or.inl k.1), by show (if bt A v = true then i + 1 else d v) = i; rw [dM v k.1]; exact k.2⟩
  · have hd2 : (if bt A x = true then i + 1 else d x) < i ∨ ((if bt A x = true then i + 1 else d x) = i ∧ bt R2 x = false) := hd
    have xm : bt M x = true := by
      rcases (hm x).mp hx with q | q
      · exact q
      · rw [dA x q] at hd2
        rcases hd2 with z | z
        · omega
        · have := z.1
          omega
    show bt M2 v = true ∧ (if bt A v = true then i + 1 else d v) ≤ (if bt A x = true then i + 1 else d x) + 1
    rw [dM x xm] at hd2 ⊢
    by_cases q : x = u.toNatClampNeg
    · rw [q, ui.2]
      rw [q] at he
      by_cases k : bt M v = true
      · exact ⟨(hm v).mpr (Or.inl k), by rw [dM v k]; exact b v k⟩
      · have k2 : bt M v = false := by
          cases z : bt M v with
          | true => exact absurd z k
          | false => rfl
        have k3 := (ha v).mpr ⟨he.2.2, k2⟩
        exact ⟨(hm v).mpr (Or.inr k3), by rw [dA v k3]; exact Nat.le_refl _⟩
    · have old : d x < i ∨ (d x = i ∧ bt R x = false) := by
        rcases hd2 with z | ⟨z, z2⟩
        · exact Or.inl z
        · refine Or.inr ⟨z, ?_⟩
          cases k : bt R x with
          | true =>
            have k2 := (hr x).mpr ⟨k, q⟩
            rw [k2] at z2
            cases z2
          | false => rfl
      have k := f x v xm old he
      exact ⟨(hm v).mpr (Or.inl k.1), by rw [dM v k.1]; exact k.2⟩
  · have mono : cb M ≤ cb M2 := cb_mono (fun v hv => (hm v).mpr (Or.inl hv))
    by_cases q : N2.toInt = 0
    · rw [if_pos q]
      by_cases q2 : N.toInt = 0
      · rw [if_pos q2] at g; omega
      · rw [if_neg q2] at g; omega
    · rw [if_neg q]
      by_cases q2 : N.toInt = 0
      · rw [if_pos q2] at g
        obtain ⟨v, hv⟩ := bt_ex q
        rcases (hn v).mp hv with z | z
        · have e0 : N = Int32.ofInt 0 := Int32.toInt_inj.mp (show N.toInt = (Int32.ofInt 0).toInt from q2)
          rw [e0, show bt (Int32.ofInt 0) v = false from bt_z] at z
          cases z
        · have st := cb_lt (a := M) (b := M2) (fun w hw => (hm w).mpr (Or.inl hw)) (ex v z) ((hm v).mpr (Or.inr z))
          omega
      · rw [if_neg q2] at g
        omega
end LYR
/-! what reach tells -/
def DLB (O W : Nat → Int32) (s t : Nat) (M : Int32) (d : Nat → Nat) : Prop := LYA O W s M d ∧ bt M t = true ∧ d t ≤ 31 ∧ (∀ u v, EOP O u v → d v ≤ d u + 1) ∧ (∀ v, bt M v = true → d v ≤ d t)
theorem lyr_f {O W : Nat → Int32} {s t i : Nat} {M Y : Int32} (h : LYR O W s t i M Y) (hy : Y.toInt = 0) : bt M s = true ∧ (∀ v, bt M v = true → wlq (EOP O) s v) ∧ ∀ u v, EOP O u v → bt M u = true → bt M v = true := by
  obtain ⟨d, -, ⟨a1, a2, a3⟩, b, c, e, f, g⟩ := h
  have e0 : Y = Int32.ofInt 0 := Int32.toInt_inj.mp (show Y.toInt = (Int32.ofInt 0).toInt from hy)
  refine ⟨a1.2.1, a2, fun u v he hu => ?_⟩
  have lt : d u < i := by
    have q := b u hu
    by_cases z : d u = i
    · have k := (c u).mpr ⟨hu, z⟩
      rw [e0, show bt (Int32.ofInt 0) u = false from bt_z] at k
      cases k
    · omega
  exact (e u v hu lt he).1
theorem lyr_x {O W : Nat → Int32} {s t i : Nat} {M Y : Int32} (h : LYR O W s t i M Y) (hy : Y.toInt ≠ 0) : i ≤ 31 := by
  obtain ⟨d, -, a, b, c, e, f, g⟩ := h
  have q := f hy
  have k := cb_le M
  omega
theorem lyr_t {O W : Nat → Int32} {s t i : Nat} {M Y : Int32} (h : LYR O W s t i M Y) (ht : bt M t = true) : ∃ d, DLB O W s t M d := by
  obtain ⟨d, a0, ⟨⟨s1, s2, s3⟩, a2, a3⟩, b, c, e, f, g⟩ := h
  have dt := a0 ht
  have yt := (c t).mpr ⟨ht, dt⟩
  have yn : Y.toInt ≠ 0 := fun z => by
    have e0 : Y = Int32.ofInt 0 := Int32.toInt_inj.mp (show Y.toInt = (Int32.ofInt 0).toInt from z)
    rw [e0, show bt (Int32.ofInt 0) t = false from bt_z] at yt
    cases yt
  have k := cb_le M
  have k2 := f yn
  have dM : ∀ v, bt M v = true → (if bt M v = true then d v else i + 1) = d v := fun v hv => if_pos hv
  refine ⟨fun v => if bt M v = true then d v else i + 1, ⟨⟨s1, s2, (show (if bt M s = true then d s else i + 1) = 0 by rw [dM s s2]; exact s3)⟩, a2, fun v hv hn => ?_⟩, ht, (show (if bt M t = true then d t else i + 1) ≤ 31 by rw [dM t ht]; omega), fun u v he => ?_, fun v hv => (show (if bt M v = true then d v else i + 1) ≤ (if bt M t = true then d t else i + 1) by rw [dM v hv, dM t ht, dt]; exact b v hv)⟩
  · obtain ⟨k1, k2, k3⟩ := a3 v hv hn
    refine ⟨k1, ?_, k3⟩
    show (if bt M v = true then d v else i + 1) = (if bt M (W v).toNatClampNeg = true then d (W v).toNatClampNeg else i + 1) + 1
    rw [dM v hv, dM _ k3]
    exact k2
  · show (if bt M v = true then d v else i + 1) ≤ (if bt M u = true then d u else i + 1) + 1
    have le : (if bt M v = true then d v else i + 1) ≤ i + 1 := by
      by_cases q : bt M v = true
      · rw [if_pos q]
        have := b v q
        omega
      · rw [if_neg q]
        exact Nat.le_refl _
    by_cases q : bt M u = true
    · rw [dM u q]
      by_cases q2 : d u < i
      · have r := e u v q q2 he
        rw [dM v r.1]
        exact r.2
      · have := b u q
        omega
    · rw [if_neg q]
      omega
/-! the way back from t -/
def itv (W : Nat → Int32) (t : Nat) : Nat → Nat
  | 0 => t
  | j + 1 => (W (itv W t j)).toNatClampNeg
section DLB
variable {O W : Nat → Int32} {s t : Nat} {M : Int32} {d : Nat → Nat}
theorem dlb_0 (h : DLB O W s t M d) {v : Nat} (hv : bt M v = true) (hd : d v = 0) : v = s := Classical.byContradiction fun z => by
  have q := (h.1.2.2 v hv z).2.1
  omega
theorem itv_d (h : DLB O W s t M d) : ∀ j : Nat, j ≤ d t → bt M (itv W t j) = true ∧ d (itv W t j) + j = d t := by
  intro j
  induction j with
  | zero => intro _; exact ⟨h.2.1, rfl⟩
  | succ j ih =>
    intro hj
    obtain ⟨a, b⟩ := ih (by omega)
    have ne : itv W t j ≠ s := fun z => by
      have e : d s = 0 := h.1.1.2.2
      rw [z] at b
      omega
    obtain ⟨k1, k2, k3⟩ := h.1.2.2 _ a ne
    have e : itv W t (j + 1) = (W (itv W t j)).toNatClampNeg := rfl
    rw [e]
    exact ⟨k3, by omega⟩
theorem itv_s (h : DLB O W s t M d) : itv W t (d t) = s := by
  obtain ⟨a, b⟩ := itv_d h (d t) (Nat.le_refl _)
  exact dlb_0 h a (by omega)
theorem itv_e (h : DLB O W s t M d) {j : Nat} (hj : j < d t) : EOP O (itv W t (j + 1)) (itv W t j) ∧ itv W t j ≠ s := by
  obtain ⟨a, b⟩ := itv_d h j (by omega)
  have ne : itv W t j ≠ s := fun z => by
    have e : d s = 0 := h.1.1.2.2
    rw [z] at b
    omega
  exact ⟨(h.1.2.2 _ a ne).1, ne⟩
theorem itv_l (h : DLB O W s t M d) {j : Nat} (hj : j ≤ d t) (ne : itv W t j ≠ s) : j < d t := Classical.byContradiction fun z => ne (by
  have e : j = d t := by omega
  rw [e]
  exact itv_s h)
theorem itv_i (h : DLB O W s t M d) {i j : Nat} (hi : i ≤ d t) (hj : j ≤ d t) (e : itv W t i = itv W t j) : i = j := by
  have a := (itv_d h i hi).2
  have b := (itv_d h j hj).2
  rw [e] at a
  omega
theorem itv_32 (h : DLB O W s t M d) {j : Nat} (hj : j ≤ d t) : itv W t j < 32 := bt_lt (itv_d h j hj).1
end DLB
/-! how often -/
def EKI (O : Nat → Int32) (s t i : Nat) : Prop := ∃ d : Nat → Nat, d s = 0 ∧ d t ≤ 32 ∧ (∀ u v, EOP O u v → d v ≤ d u + 1) ∧ i + (32 - d t) * 1024 + cnP (fun k => EOP O (k / 32) (k % 32) ∧ d (k % 32) = d (k / 32) + 1) 1024 ≤ 33792
theorem eki_0 {O : Nat → Int32} {s t : Nat} (ne : s ≠ t) : EKI O s t 0 := by
  refine ⟨fun v => if v = s then 0 else 1, if_pos rfl, ?_, fun u v _ => ?_, ?_⟩
  · show (if t = s then 0 else 1) ≤ 32
    rw [if_neg (fun z => ne z.symm)]
    decide
  · show (if v = s then 0 else 1) ≤ (if u = s then 0 else 1) + 1
    by_cases q : v = s
    · rw [if_pos q]; omega
    · rw [if_neg q]; omega
  · refine Nat.le_trans (Nat.add_le_add_left (cnP_top 1024) _) ?_
    show 0 + (32 - (if t = s then 0 else 1)) * 1024 + 1024 ≤ 33792
    rw [if_neg (fun z => ne z.symm)]
    decide
theorem eki_b {O : Nat → Int32} {s t i : Nat} (h : EKI O s t i) : i ≤ 33792 := by
  obtain ⟨d, -, -, -, h⟩ := h
  omega
theorem eki_c {O O2 : Nat → Int32} {W : Nat → Int32} {t L : Nat} {d : Nat → Nat} (he : ∀ j, j < L → EOP O (itv W t (j + 1)) (itv W t j) ∧ d (itv W t j) = d (itv W t (j + 1)) + 1) (p3 : ∀ x y, EOP O2 x y → EOP O x y ∨ ∃ j, j < L ∧ x = itv W t j ∧ y = itv W t (j + 1)) (p4 : ∃ j, j < L ∧ ¬ EOP O2 (itv W t (j + 1)) (itv W t j)) : (∀ u v, (EOP O u v → d v ≤ d u + 1) → EOP O2 u v → d v ≤ d u + 1) ∧ cnP (fun k => EOP O2 (k / 32) (k % 32) ∧ d (k % 32) = d (k / 32) + 1) 1024 + 1 ≤ cnP (fun k => EOP O (k / 32) (k % 32) ∧ d (k % 32) = d (k / 32) + 1) 1024 := by
  refine ⟨fun u v hv h2 => ?_, ?_⟩
  · rcases p3 u v h2 with q | ⟨j, j1, j2, j3⟩
    · exact hv q
    · have k := (he j j1).2
      rw [j2, j3]
      omega
  · obtain ⟨j, j1, j2⟩ := p4
    have ej := he j j1
    have u32 := ej.1.1
    have v32 := ej.1.2.1
    have e1 : (32 * itv W t (j + 1) + itv W t j) / 32 = itv W t (j + 1) := by omega
    have e2 : (32 * itv W t (j + 1) + itv W t j) % 32 = itv W t j := by omega
    have q := cnP_lt (P := fun k => EOP O2 (k / 32) (k % 32) ∧ d (k % 32) = d (k / 32) + 1) (Q := fun k => EOP O (k / 32) (k % 32) ∧ d (k % 32) = d (k / 32) + 1) 1024 (fun k _ hk => ⟨(p3 _ _ hk.1).elim id (fun ⟨i, i1, i2, i3⟩ => by
      have k2 := (he i i1).2
      have k3 := hk.2
      rw [i2, i3] at k3
      omega), hk.2⟩) (32 * itv W t (j + 1) + itv W t j) (by omega) ⟨by rw [e1, e2]; exact ej.1, by rw [e1, e2]; exact ej.2⟩ (fun z => j2 (by have z1 := z.1; rw [e1, e2] at z1; exact z1))
    omega
theorem eki_s {O O2 W : Nat → Int32} {s t i : Nat} {M : Int32} {d : Nat → Nat} (h : EKI O s t i) (hd : DLB O W s t M d) (p3 : ∀ x y, EOP O2 x y → EOP O x y ∨ ∃ j, j < d t ∧ x = itv W t j ∧ y = itv W t (j + 1)) (p4 : ∃ j, j < d t ∧ ¬ EOP O2 (itv W t (j + 1)) (itv W t j)) : EKI O2 s t (i + 1) := by
  obtain ⟨f, f1, f2, f3, f4⟩ := h
  have lo : ∀ j, j ≤ d t → f t ≤ f (itv W t j) + j := by
    intro j
    induction j with
    | zero => intro _; exact Nat.le_refl _
    | succ j ih =>
      intro hj
      have a := ih (by omega)
      have b := f3 _ _ (itv_e hd (show j < d t by omega)).1
      omega
  have le := lo (d t) (Nat.le_refl _)
  rw [itv_s hd, f1] at le
  have dt := hd.2.2.1
  by_cases c : f t = d t
  · have hi : ∀ k, k ≤ d t → f (itv W t (d t - k)) ≤ k := by
      intro k
      induction k with
      | zero =>
        intro _
        rw [Nat.sub_zero, itv_s hd, f1]
        exact Nat.le_refl _
      | succ k ih =>
        intro hk
        have a := ih (by omega)
        have b := f3 _ _ (itv_e hd (show d t - (k + 1) < d t by omega)).1
        rw [show d t - (k + 1) + 1 = d t - k by omega] at b
        omega
    have ex : ∀ j, j ≤ d t → f (itv W t j) + j = d t := fun j hj => by
      have a := lo j hj
      have b := hi (d t - j) (by omega)
      rw [show d t - (d t - j) = j by omega] at b
      omega
    obtain ⟨q1, q2⟩ := eki_c (d := f) (fun j hj => ⟨(itv_e hd hj).1, by have a := ex j (by omega); have b := ex (j + 1) (by omega); omega⟩) p3 p4
    exact ⟨f, f1, f2, fun u v he => q1 u v (f3 u v) he, by omega⟩
  · obtain ⟨q1, q2⟩ := eki_c (d := d) (fun j hj => ⟨(itv_e hd hj).1, by have a := (itv_d hd j (by omega)).2; have b := (itv_d hd (j + 1) (by omega)).2; omega⟩) p3 p4
    have k := cnP_top (P := fun k => EOP O (k / 32) (k % 32) ∧ d (k % 32) = d (k / 32) + 1) 1024
    refine ⟨d, hd.1.1.2.2, by omega, fun u v he => q1 u v (hd.2.2.2.1 u v) he, ?_⟩
    have m : (32 - d t) * 1024 + 1024 ≤ (32 - f t) * 1024 := by omega
    omega
/-! a way is filled -/
def edL (L W : Nat → Int32) (t j : Nat) : Int := (L (32 * itv W t (j + 1) + itv W t j)).toInt
def PTH (L W : Nat → Int32) (t : Nat) (a : Int) (i : Nat) : Prop := (∀ j, j < i → a ≤ edL L W t j) ∧ ((i = 0 ∧ a = 160000000) ∨ ∃ j, j < i ∧ a = edL L W t j)
theorem pth_0 {L W : Nat → Int32} {t : Nat} : PTH L W t 160000000 0 := ⟨fun j h => absurd h (Nat.not_lt_zero j), Or.inl ⟨rfl, rfl⟩⟩
theorem pth_k {L W : Nat → Int32} {t i : Nat} {a : Int} (h : PTH L W t a i) (ha : a ≤ edL L W t i) (hb : edL L W t i ≤ 160000000) : PTH L W t a (i + 1) := by
  refine ⟨fun j hj => ?_, Or.inr ?_⟩
  · by_cases c : j = i
    · rw [c]; exact ha
    · exact h.1 j (by omega)
  · rcases h.2 with ⟨q, e⟩ | ⟨j, hj, e⟩
    · exact ⟨i, by omega, by omega⟩
    · exact ⟨j, by omega, e⟩
theorem pth_t {L W : Nat → Int32} {t i : Nat} {a b : Int} (h : PTH L W t a i) (hb : b = edL L W t i) (hl : b ≤ a) : PTH L W t b (i + 1) := by
  refine ⟨fun j hj => ?_, Or.inr ⟨i, by omega, hb⟩⟩
  by_cases c : j = i
  · rw [c, hb]; exact Int.le_refl _
  · exact Int.le_trans hl (h.1 j (by omega))
def PSI (L O L2 O2 W : Nat → Int32) (s t : Nat) (M : Int32) (a : Int) (i : Nat) : Prop := LNN L2 160000000 ∧ OPQ L2 O2 ∧ (∀ Y, XLS Y L2 = XLS Y L - a * (iy Y (itv W t i) - iy Y t)) ∧ (∀ d, DLB O W s t M d → i ≤ d t ∧ (∀ x y, x < 32 → y < 32 → d x + i ≤ d t → d y + i ≤ d t → L2 (32 * x + y) = L (32 * x + y)) ∧ (∀ j, j < i → (L2 (32 * itv W t (j + 1) + itv W t j)).toInt = edL L W t j - a)) ∧ (∀ x y, x < 32 → y < 32 → 0 < (L2 (32 * x + y)).toInt → 0 < (L (32 * x + y)).toInt ∨ ∃ j, j < i ∧ x = itv W t j ∧ y = itv W t (j + 1))
section PSI
variable {L O L2 O2 L3 O3 W : Nat → Int32} {s t i : Nat} {M : Int32} {a : Int}
theorem psi_0 (h1 : LNN L 160000000) (h2 : OPQ L O) : PSI L O L O W s t M a 0 := by
  refine ⟨h1, h2, fun Y => ?_, fun d _ => ⟨Nat.zero_le _, fun _ _ _ _ _ _ => rfl, fun j h => absurd h (Nat.not_lt_zero j)⟩, fun x y _ _ h => Or.inl h⟩
  show XLS Y L = XLS Y L - a * (iy Y t - iy Y t)
  rw [Int.sub_self, Int.mul_zero, Int.sub_zero]
theorem psi_u (h : PSI L O L2 O2 W s t M a i) {d : Nat → Nat} (hd : DLB O W s t M d) (ne : itv W t i ≠ s) : i < d t ∧ (itv W t (i + 1) < 32 ∧ itv W t i < 32 ∧ itv W t (i + 1) ≠ itv W t i) ∧ L2 (32 * itv W t (i + 1) + itv W t i) = L (32 * itv W t (i + 1) + itv W t i) ∧ L2 (32 * itv W t i + itv W t (i + 1)) = L (32 * itv W t i + itv W t (i + 1)) := by
  obtain ⟨-, -, -, h4, -⟩ := h
  obtain ⟨k1, k2, k3⟩ := h4 d hd
  have lt := itv_l hd k1 ne
  have u32 := itv_32 hd (show i + 1 ≤ d t by omega)
  have v32 := itv_32 hd (show i ≤ d t by omega)
  have e1 := (itv_d hd (i + 1) (by omega)).2
  have e2 := (itv_d hd i (by omega)).2
  exact ⟨lt, ⟨u32, v32, fun z => by rw [z] at e1; omega⟩, k2 _ _ u32 v32 (by omega) (by omega), k2 _ _ v32 u32 (by omega) (by omega)⟩
theorem psi_s {x y : Int32} (h : PSI L O L2 O2 W s t M a i) {d0 : Nat → Nat} (hd0 : DLB O W s t M d0) (ne : itv W t i ≠ s) (ha : 0 < a) (hm : a ≤ edL L W t i) (hx : x.toInt = (L2 (32 * itv W t (i + 1) + itv W t i)).toInt - a) (hy : y.toInt = (L2 (32 * itv W t i + itv W t (i + 1))).toInt + a) (hL : L3 = upd (upd L2 (32 * itv W t (i + 1) + itv W t i) x) (32 * itv W t i + itv W t (i + 1)) y) (hO : OPQ L3 O3) : PSI L O L3 O3 W s t M a (i + 1) := by
  obtain ⟨lt0, ⟨u32, v32, uv⟩, q1, q2⟩ := psi_u h hd0 ne
  obtain ⟨h1, h2, h3, h4, h5⟩ := h
  have hm2 : a ≤ (L (32 * itv W t (i + 1) + itv W t i)).toInt := hm
  have at1 : L3 (32 * itv W t (i + 1) + itv W t i) = x := by rw [hL, up_n (by omega), up_e]
  have at2 : L3 (32 * itv W t i + itv W t (i + 1)) = y := by rw [hL, up_e]
  have oth3 : ∀ p w, p < 32 → w < 32 → ¬ (p = itv W t (i + 1) ∧ w = itv W t i) → ¬ (p = itv W t i ∧ w = itv W t (i + 1)) → L3 (32 * p + w) = L2 (32 * p + w) := fun p w hp hw c1 c2 => by
    have n1 : 32 * p + w ≠ 32 * itv W t i + itv W t (i + 1) := fun z => c2 ⟨by omega, by omega⟩
    have n2 : 32 * p + w ≠ 32 * itv W t (i + 1) + itv W t i := fun z => c1 ⟨by omega, by omega⟩
    rw [hL, up_n n1, up_n n2]
  have g1 := h1 (itv W t (i + 1)) (itv W t i) u32 v32
  have g2 := h1 (itv W t i) (itv W t (i + 1)) v32 u32
  refine ⟨fun p w hp hw => ?_, hO, fun Y => ?_, fun d hd => ?_, fun p w hp hw hpos => ?_⟩
  · by_cases c1 : p = itv W t (i + 1) ∧ w = itv W t i
    · rw [c1.1, c1.2, at1, at2, hx, hy]
      rw [q1] at g1 ⊢
      exact ⟨by omega, by omega⟩
    · by_cases c2 : p = itv W t i ∧ w = itv W t (i + 1)
      · rw [c2.1, c2.2, at1, at2, hx, hy]
        exact ⟨by omega, by omega⟩
      · rw [oth3 p w hp hw c1 c2, oth3 w p hw hp (fun z => c2 ⟨z.2, z.1⟩) (fun z => c1 ⟨z.2, z.1⟩)]
        exact h1 p w hp hw
  · rw [hL, xl_st (a := a) u32 v32 uv hx hy, h3 Y]
    have m : a * (iy Y (itv W t i) - iy Y t) + a * (iy Y (itv W t (i + 1)) - iy Y (itv W t i)) = a * (iy Y (itv W t (i + 1)) - iy Y t) := by
      rw [← Int.mul_add, show (iy Y (itv W t i) - iy Y t) + (iy Y (itv W t (i + 1)) - iy Y (itv W t i)) = iy Y (itv W t (i + 1)) - iy Y t by omega]
    omega
  · obtain ⟨k1, k2, k3⟩ := h4 d hd
    have lt := itv_l hd k1 ne
    have e1 := (itv_d hd (i + 1) (by omega)).2
    have e2 := (itv_d hd i (by omega)).2
    refine ⟨by omega, fun p w hp hw hpd hwd => ?_, fun j hj => ?_⟩
    · have np : p ≠ itv W t i := fun z => by rw [z] at hpd; omega
      have nw : w ≠ itv W t i := fun z => by rw [z] at hwd; omega
      rw [oth3 p w hp hw (fun z => nw z.2) (fun z => np z.1)]
      exact k2 p w hp hw (by omega) (by omega)
    · by_cases c : j = i
      · rw [c, at1, hx, q1]
        rfl
      · have j1 := itv_32 hd (show j + 1 ≤ d t by omega)
        have j2 := itv_32 hd (show j ≤ d t by omega)
        rw [oth3 _ _ j1 j2 (fun z => c (itv_i hd (by omega) (by omega) z.2)) (fun z => by
          have := itv_i hd (show j ≤ d t by omega) (show i + 1 ≤ d t by omega) z.2
          omega)]
        exact k3 j (by omega)
  · by_cases c1 : p = itv W t (i + 1) ∧ w = itv W t i
    · left
      rw [c1.1, c1.2, ← q1]
      rw [c1.1, c1.2, at1, hx] at hpos
      omega
    · by_cases c2 : p = itv W t i ∧ w = itv W t (i + 1)
      · exact Or.inr ⟨i, by omega, c2.1, c2.2⟩
      · rw [oth3 p w hp hw c1 c2] at hpos
        rcases h5 p w hp hw hpos with z | ⟨j, j1, j2, j3⟩
        · exact Or.inl z
        · exact Or.inr ⟨j, by omega, j2, j3⟩
/-- the rows of open, kept -/
theorem opq_s {u v : Nat} {x y : Int32} (h : OPQ L2 O2) (hu : u < 32) (hv : v < 32) (ne : u ≠ v) (hL : L3 = upd (upd L2 (32 * u + v) x) (32 * v + u) y) (hy : 0 < y.toInt) (hO : ∀ p w, p < 32 → w < 32 → (bt (O3 p) w = true ↔ ((p = v ∧ w = u) ∨ (bt (O2 p) w = true ∧ ¬ (p = u ∧ w = v ∧ x.toInt = 0))))) (hp : 0 ≤ x.toInt) (hb : bt (O2 u) v = true) : OPQ L3 O3 := by
  intro p w hp2 hw2
  rw [hO p w hp2 hw2]
  by_cases c1 : p = u ∧ w = v
  · have e : L3 (32 * p + w) = x := by rw [hL, c1.1, c1.2, up_n (by omega), up_e]
    rw [e]
    constructor
    · rintro (z | ⟨-, z⟩)
      · exact absurd (c1.1.symm.trans z.1) (fun q => ne q)
      · have : ¬ x.toInt = 0 := fun q => z ⟨c1.1, c1.2, q⟩
        omega
    · intro z
      exact Or.inr ⟨by rw [c1.1, c1.2]; exact hb, fun q => by have := q.2.2; omega⟩
  · by_cases c2 : p = v ∧ w = u
    · have e : L3 (32 * p + w) = y := by rw [hL, c2.1, c2.2, up_e]
      rw [e]
      exact ⟨fun _ => hy, fun _ => Or.inl c2⟩
    · have e : L3 (32 * p + w) = L2 (32 * p + w) := by
        rw [hL, up_n (fun z => c2 ⟨by omega, by omega⟩), up_n (fun z => c1 ⟨by omega, by omega⟩)]
      rw [e, ← h p w hp2 hw2]
      constructor
      · rintro (z | z)
        · exact absurd z c2
        · exact z.1
      · intro z
        exact Or.inr ⟨z, fun q => c1 ⟨q.1, q.2.1⟩⟩
theorem psi_e {g : GVW} {V : Int} {d : Nat → Nat} {k : Nat} (hC : CFL g s t L O V) (hd : DLB O W s t M d) (hp : PTH L W t a i) (h : PSI L O L2 O2 W s t M a i) (hs : itv W t i = s) (st : s ≠ t) (hE : EKI O s t k) : CFL g s t L2 O2 (V + a) ∧ EKI O2 s t (k + 1) := by
  obtain ⟨h1, h2, h3, h4, h5⟩ := h
  obtain ⟨k1, k2, k3⟩ := h4 d hd
  obtain ⟨c1, c2, c3⟩ := hC
  have ei : i = d t := by
    have a1 := (itv_d hd i k1).2
    rw [hs, hd.1.1.2.2] at a1
    omega
  have i0 : i ≠ 0 := fun z => by
    rw [z] at hs
    exact st hs.symm
  refine ⟨⟨h1, h2, fun Y y1 y2 => ?_⟩, eki_s hE hd (fun x y hxy => ?_) ?_⟩
  · have a1 := h3 Y
    have a2 := c3 Y y1 y2
    have e1 : iy Y (itv W t i) = 1 := by rw [hs]; exact if_pos y1
    have e2 : iy Y t = 0 := if_neg (fun z => by rw [y2] at z; cases z)
    rw [e1, e2] at a1
    omega
  · obtain ⟨x1, y1, b⟩ := hxy
    rcases h5 x y x1 y1 ((h2 x y x1 y1).mp b) with z | ⟨j, j1, j2, j3⟩
    · exact Or.inl ⟨x1, y1, (c2 x y x1 y1).mpr z⟩
    · exact Or.inr ⟨j, by omega, j2, j3⟩
  · rcases hp.2 with ⟨z, -⟩ | ⟨j, j1, e⟩
    · exact absurd z i0
    · refine ⟨j, by omega, fun z => ?_⟩
      have p := (h2 _ _ z.1 z.2.1).mp z.2.2
      have q := k3 j j1
      omega
end PSI
/-! what is open at the beginning -/
def OPA (g : GVW) (L O : Nat → Int32) (p : Nat) : Prop := LNN L (1000000 * p) ∧ OPQ L O ∧ ∀ Y : Nat → Bool, XLS Y L = sz (cuA g Y) p
section OPA
variable {g : GVW} {L O L2 O2 : Nat → Int32} {p : Nat}
theorem opa_0 (h1 : ∀ k, k < 1024 → L k = Int32.ofInt 0) (h2 : ∀ u, u < 32 → O u = Int32.ofInt 0) : OPA g L O 0 := by
  have z : ∀ u v, u < 32 → v < 32 → (L (32 * u + v)).toInt = 0 := fun u v hu hv => by rw [h1 _ (by omega)]; rfl
  refine ⟨fun u v hu hv => ?_, fun u v hu hv => ?_, fun Y => ?_⟩
  · rw [z u v hu hv, z v u hv hu]
    exact ⟨Int.le_refl _, by omega⟩
  · rw [z u v hu hv, h2 u hu, show bt (Int32.ofInt 0) v = false from bt_z]
    exact ⟨fun q => (by cases q), fun q => by omega⟩
  · show sz (xlT Y L) 1024 = 0
    refine sz_zz 1024 (fun k hk => ?_)
    unfold xlT
    rw [h1 k hk]
    by_cases c : Y (k / 32) = true ∧ Y (k % 32) = false
    · rw [if_pos c]; rfl
    · rw [if_neg c]
theorem opa_n (h : OPA g L O p) (hz : ∀ Y, cuA g Y p = 0) : OPA g L O (p + 1) := by
  obtain ⟨h1, h2, h3⟩ := h
  refine ⟨fun u v hu hv => ?_, h2, fun Y => ?_⟩
  · have q := h1 u v hu hv
    exact ⟨q.1, by omega⟩
  · rw [sz_s, hz Y, h3 Y]
    omega
theorem cuA_m {Y : Nat → Bool} {f : Int32} (hf : f = g.2.1 p) (h : f.toInt = -1) : cuA g Y p = 0 := if_neg (fun z => z.1 (by rw [← hf]; exact h))
theorem cuA_l {Y : Nat → Bool} {f w : Int32} (hf : f = g.2.1 p) (hw : w = g.2.2.1 p) (h : f.toInt = w.toInt) : cuA g Y p = 0 := if_neg (fun z => by
  have z1 := z.2.1
  have z2 := z.2.2
  rw [← hf] at z1
  rw [← hw, ← h, z1] at z2
  cases z2)
theorem cuA_r {Y : Nat → Bool} {r : Int32} (hr : r = g.2.2.2.2.1 p) (h : r.toInt = 0) : cuA g Y p = 0 := by
  unfold cuA
  rw [← hr, h]
  by_cases c : (g.2.1 p).toInt ≠ -1 ∧ Y (g.2.1 p).toInt.toNat = true ∧ Y (g.2.2.1 p).toInt.toNat = false
  · rw [if_pos c]
  · rw [if_neg c]
theorem opa_y {f w r x z1 z : Int32} (h : OPA g L O p) (hp : p < 160) (hf : f = g.2.1 p) (hw : w = g.2.2.1 p) (hr : r = g.2.2.2.2.1 p) (i1 : In f 0 31) (i2 : In w 0 31) (ne : f.toInt ≠ w.toInt) (r1 : 0 < r.toInt) (r2 : r.toInt ≤ 1000000) (hx : x = L (32 * f.toNatClampNeg + w.toNatClampNeg) + r) (hL : L2 = upd L (32 * f.toNatClampNeg + w.toNatClampNeg) x) (e1 : z1 = Int32.ofInt 1 <<< (w &&& 31)) (e2 : z = O f.toNatClampNeg ||| z1) (hO : O2 = upd O f.toNatClampNeg z) : OPA g L2 O2 (p + 1) := by
  obtain ⟨h1, h2, h3⟩ := h
  have f1 := i1.1
  have f2 := i1.2
  have w1 := i2.1
  have w2 := i2.2
  have fn : f.toNatClampNeg = f.toInt.toNat := rfl
  have wn : w.toNatClampNeg = w.toInt.toNat := rfl
  have fu : f.toNatClampNeg < 32 := by omega
  have wu : w.toNatClampNeg < 32 := by omega
  have fw : f.toNatClampNeg ≠ w.toNatClampNeg := by omega
  have q := h1 _ _ fu wu
  have q2 := h1 _ _ wu fu
  have xv : x.toInt = (L (32 * f.toNatClampNeg + w.toNatClampNeg)).toInt + r.toInt := by
    rw [hx, Int32.toInt_add]
    exact Int.bmod_eq_of_le (by omega) (by omega)
  refine ⟨fun u v hu hv => ?_, fun u v hu hv => ?_, fun Y => ?_⟩
  · by_cases c1 : u = f.toNatClampNeg ∧ v = w.toNatClampNeg
    · rw [hL, c1.1, c1.2, up_e, up_n (by omega), xv]
      exact ⟨by omega, by omega⟩
    · by_cases c2 : u = w.toNatClampNeg ∧ v = f.toNatClampNeg
      · rw [hL, c2.1, c2.2, up_e, up_n (by omega), xv]
        exact ⟨by omega, by omega⟩
      · rw [hL, up_n (fun z => c1 ⟨by omega, by omega⟩), up_n (fun z => c2 ⟨by omega, by omega⟩)]
        have k := h1 u v hu hv
        exact ⟨k.1, by omega⟩
  · rw [hL, hO]
    by_cases c1 : u = f.toNatClampNeg
    · rw [c1, up_e, bt_set e1 e2 i2]
      by_cases c2 : v = w.toNatClampNeg
      · rw [c2, up_e]
        exact ⟨fun _ => by omega, fun _ => by simp⟩
      · rw [up_n (fun z => c2 (by omega)), ← h2 _ _ fu hv]
        simp [c2]
    · rw [up_n c1, up_n (fun z => c1 (by omega))]
      exact h2 u v hu hv
  · rw [hL, xl_up fu wu, h3 Y, sz_s, xv]
    have ab : (g.2.1 p).toInt ≠ -1 := by rw [← hf]; omega
    have cu : cuA g Y p = if Y f.toNatClampNeg = true ∧ Y w.toNatClampNeg = false then r.toInt else 0 := by
      unfold cuA
      rw [← hf, ← hw, ← hr]
      by_cases c : Y f.toNatClampNeg = true ∧ Y w.toNatClampNeg = false
      · rw [if_pos c, if_pos (show f.toInt ≠ -1 ∧ Y f.toInt.toNat = true ∧ Y w.toInt.toNat = false from ⟨by omega, c.1, c.2⟩)]
      · rw [if_neg c, if_neg (show ¬ (f.toInt ≠ -1 ∧ Y f.toInt.toNat = true ∧ Y w.toInt.toNat = false) from fun z => c ⟨z.2.1, z.2.2⟩)]
    rw [cu]
    by_cases c : Y f.toNatClampNeg = true ∧ Y w.toNatClampNeg = false
    · rw [if_pos c, if_pos c]
      omega
    · rw [if_neg c, if_neg c]
theorem opa_e {T0 : Int} (h : OPA g L O p) (hT : ∀ i : Nat, i < 160 → (g.2.1 i).toInt ≠ -1 → (i : Int) < T0) (hp : T0 ≤ (p : Int)) (h6 : p ≤ 160) {s t : Nat} : CFL g s t L O 0 := by
  have k : ∀ n, p + n ≤ 160 → OPA g L O (p + n) := by
    intro n
    induction n with
    | zero => intro _; exact h
    | succ n ih =>
      intro hn
      refine opa_n (ih (by omega)) (fun Y => cuA_m rfl ?_)
      exact Classical.byContradiction fun z => by
        have := hT (p + n) (by omega) z
        omega
  have q := k (160 - p) (by omega)
  rw [show p + (160 - p) = 160 by omega] at q
  obtain ⟨q1, q2, q3⟩ := q
  refine ⟨fun u v hu hv => ?_, q2, fun Y _ _ => ?_⟩
  · have r := q1 u v hu hv
    exact ⟨r.1, by omega⟩
  · rw [q3 Y]
    show sz (cuA g Y) 160 + 0 = sz (cuA g Y) 160
    omega
end OPA
theorem btn_iff {x y z z2 : Int32} {v : Nat} (e2 : z2 = y ^^^ Int32.ofInt (-1)) (e : z = x &&& z2) : bt z v = true ↔ (bt x v = true ∧ bt y v = false) := by
  rw [bt_and e, Bool.and_eq_true]
  constructor
  · rintro ⟨a, b⟩
    rw [bt_not e2 (bt_lt a)] at b
    refine ⟨a, ?_⟩
    cases q : bt y v with
    | true => rw [q] at b; cases b
    | false => rfl
  · rintro ⟨a, b⟩
    rw [bt_not e2 (bt_lt a), b]
    exact ⟨a, rfl⟩
theorem isub_v {x y z : Int32} (e : z = x - y) (h1 : -2147483648 ≤ x.toInt - y.toInt) (h2 : x.toInt - y.toInt ≤ 2147483647) : z.toInt = x.toInt - y.toInt := by
  rw [e, Int32.toInt_sub]
  exact Int.bmod_eq_of_le (by omega) (by omega)
theorem iadd_v {x y z : Int32} (e : z = x + y) (h1 : -2147483648 ≤ x.toInt + y.toInt) (h2 : x.toInt + y.toInt ≤ 2147483647) : z.toInt = x.toInt + y.toInt := by
  rw [e, Int32.toInt_add]
  exact Int.bmod_eq_of_le (by omega) (by omega)
section OPX
variable {O2 O3 : Nat → Int32} {u v c z z1 z2 z4 : Int32} {x : Int}
theorem opx_A (iu : In u 0 31) (iv : In v 0 31) (hx : x ≠ 0) (e1 : z1 = Int32.ofInt 1 <<< (u &&& 31)) (e2 : z = O2 v.toNatClampNeg ||| z1) (hO : O3 = upd O2 v.toNatClampNeg z) (p w : Nat) (hw : w < 32) : bt (O3 p) w = true ↔ ((p = v.toNatClampNeg ∧ w = u.toNatClampNeg) ∨ (bt (O2 p) w = true ∧ ¬ (p = u.toNatClampNeg ∧ w = v.toNatClampNeg ∧ x = 0))) := by
  rw [hO]
  by_cases q : p = v.toNatClampNeg
  · rw [q, up_e, bt_set e1 e2 iu, Bool.or_eq_true, decide_eq_true_iff]
    constructor
    · rintro (a | a)
      · exact Or.inr ⟨a, fun k => hx k.2.2⟩
      · exact Or.inl ⟨rfl, a⟩
    · rintro (a | a)
      · exact Or.inr a.2
      · exact Or.inl a.1
  · rw [up_n q]
    constructor
    · intro a
      exact Or.inr ⟨a, fun k => hx k.2.2⟩
    · rintro (a | a)
      · exact absurd a.1 q
      · exact a.1
theorem opx_B (iu : In u 0 31) (iv : In v 0 31) (ne : u.toNatClampNeg ≠ v.toNatClampNeg) (hx : x = 0) (e0 : z2 = Int32.ofInt 1 <<< (v &&& 31)) (e3 : z4 = z2 ^^^ Int32.ofInt (-1)) (ec : c = O2 u.toNatClampNeg &&& z4) (e1 : z1 = Int32.ofInt 1 <<< (u &&& 31)) (e2 : z = O2 v.toNatClampNeg ||| z1) (hO : O3 = upd (upd O2 u.toNatClampNeg c) v.toNatClampNeg z) (p w : Nat) (hw : w < 32) : bt (O3 p) w = true ↔ ((p = v.toNatClampNeg ∧ w = u.toNatClampNeg) ∨ (bt (O2 p) w = true ∧ ¬ (p = u.toNatClampNeg ∧ w = v.toNatClampNeg ∧ x = 0))) := by
  rw [hO]
  by_cases q : p = v.toNatClampNeg
  · rw [q, up_e, bt_set e1 e2 iu, Bool.or_eq_true, decide_eq_true_iff]
    constructor
    · rintro (a | a)
      · exact Or.inr ⟨a, fun k => ne k.1.symm⟩
      · exact Or.inl ⟨rfl, a⟩
    · rintro (a | a)
      · exact Or.inr a.2
      · exact Or.inl a.1
  · rw [up_n q]
    by_cases q2 : p = u.toNatClampNeg
    · rw [q2, up_e, bt_clr e0 e3 ec iv hw, Bool.and_eq_true]
      constructor
      · rintro ⟨a, b⟩
        refine Or.inr ⟨a, fun k => ?_⟩
        rw [k.2.1] at b
        simp at b
      · rintro (a | ⟨a, b⟩)
        · exact absurd a.1 ne
        · refine ⟨a, ?_⟩
          have nw : w ≠ v.toNatClampNeg := fun k => b ⟨rfl, k, hx⟩
          simp [nw]
    · rw [up_n q2]
      constructor
      · intro a
        exact Or.inr ⟨a, fun k => q2 k.1⟩
      · rintro (a | a)
        · exact absurd a.1 q
        · exact a.1
end OPX
/-! what the class keeps of its last question -/
def FLB (g : GVW) (s : GS) : Prop := (s.2.2.1 65 0).toInt = g.2.2.2.2.2.2.2 → FLX g (s.2.2.1 65 1).toNatClampNeg (s.2.2.1 65 2).toNatClampNeg (s.2.2.2.1 65 3).toInt (fun v => bt (s.2.2.1 65 4) v)
def FLQ (g : GVW) (t : GS) : Prop := (t.2.2.1 65 0).toInt = g.2.2.2.2.2.2.2 ∧ FLX g (t.2.2.1 65 1).toNatClampNeg (t.2.2.1 65 2).toNatClampNeg (t.2.2.2.1 65 3).toInt (fun v => bt (t.2.2.1 65 4) v)
def FLA (t : GS) (x y : Int32) : Prop := t.2.2.1 65 1 = x ∧ t.2.2.1 65 2 = y
theorem cuA_b {g : GVW} {Y : Nat → Bool} {p : Nat} (h : 0 ≤ (g.2.2.2.2.1 p).toInt ∧ (g.2.2.2.2.1 p).toInt ≤ 1000000) : cuA g Y p ≤ 1000000 := by
  unfold cuA
  by_cases c : (g.2.1 p).toInt ≠ -1 ∧ Y (g.2.1 p).toInt.toNat = true ∧ Y (g.2.2.1 p).toInt.toNat = false
  · rw [if_pos c]; exact h.2
  · rw [if_neg c]; decide
theorem sz_b {f : Nat → Int} {B : Int} : ∀ n : Nat, (∀ k, k < n → f k ≤ B) → sz f n ≤ B * n := by
  intro n
  induction n with
  | zero => intro _; show (0 : Int) ≤ B * ((0 : Nat) : Int); omega
  | succ n ih =>
    intro h
    have a := ih (fun k hk => h k (by omega))
    have b := h n (by omega)
    rw [sz_s]
    have e : B * ((n + 1 : Nat) : Int) = B * (n : Int) + B := by
      rw [show ((n + 1 : Nat) : Int) = (n : Int) + 1 by omega, Int.mul_add, Int.mul_one]
    omega
theorem cfl_b {g : GVW} {s t : Nat} {L O : Nat → Int32} {V : Int} (h : CFL g s t L O V) (st : s ≠ t) (hr : ∀ p, p < 160 → 0 ≤ (g.2.2.2.2.1 p).toInt ∧ (g.2.2.2.2.1 p).toInt ≤ 1000000) : V ≤ 160000000 := by
  obtain ⟨h1, h2, h3⟩ := h
  have y2 : decide (t = s) = false := decide_eq_false (fun z => st z.symm)
  have a := h3 (fun v => decide (v = s)) (decide_eq_true rfl) y2
  have b := sz_nn 1024 (xlT_0 (Y := fun v => decide (v = s)) h1)
  have b2 : 0 ≤ XLS (fun v => decide (v = s)) L := b
  have c := sz_b (f := cuA g (fun v => decide (v = s))) (B := 1000000) 160 (fun k hk => cuA_b (hr k hk))
  have c2 : CUTV g (fun v => decide (v = s)) ≤ 1000000 * ((160 : Nat) : Int) := c
  omega
theorem rm_C {s : GS} (h : Inv s) : ∀ p, p < 160 → 0 ≤ ((gvC s).2.2.2.2.1 p).toInt ∧ ((gvC s).2.2.2.2.1 p).toInt ≤ 1000000 := by
  intro p hp
  have w := h.1.1 7 p (Nat.lt_of_lt_of_le hp (Nat.le_of_ble_eq_true rfl))
  have e : rI 7 = (0, 1000000) := rfl
  rw [e] at w
  exact w
theorem rm_D {s : GS} (h : Inv s) : ∀ p, p < 160 → 0 ≤ ((gvD s).2.2.2.2.1 p).toInt ∧ ((gvD s).2.2.2.2.1 p).toInt ≤ 1000000 := by
  intro p hp
  have w := h.1.1 37 p (Nat.lt_of_lt_of_le hp (Nat.le_of_ble_eq_true rfl))
  have e : rI 37 = (0, 1000000) := rfl
  rw [e] at w
  exact w
theorem cfl_n {g : GVW} {s t : Nat} {L O : Nat → Int32} {V : Int} {a : Int32} {z w y : Int64} (h : CFL g s t L O V) (st : s ≠ t) (hr : ∀ p, p < 160 → 0 ≤ (g.2.2.2.2.1 p).toInt ∧ (g.2.2.2.2.1 p).toInt ≤ 1000000) (v0 : 0 ≤ V) (a0 : 0 < a.toInt) (ey : y = a.toInt64) (ew : w.toInt = V) (ez : z = w + y) : z.toInt = V + a.toInt := by
  have b := cfl_b h st hr
  have l := u_i2l ey
  have r := i_rng a
  unfold In at r
  rw [← ew, ← l]
  exact ladd_t ez (by rw [ew, l]; omega) (by rw [ew, l]; omega)
theorem flq_e {g : GVW} {t : GS} {x y : Int32} (hv : (t.2.2.1 65 0).toInt = g.2.2.2.2.2.2.2) (h1 : t.2.2.1 65 1 = x) (h2 : t.2.2.1 65 2 = y) (h : FLX g x.toNatClampNeg y.toNatClampNeg (t.2.2.2.1 65 3).toInt (fun v => bt (t.2.2.1 65 4) v)) : FLQ g t ∧ FLA t x y := by
  refine ⟨⟨hv, ?_⟩, h1, h2⟩
  rw [h1, h2]
  exact h
theorem flq_fr {g : GVW} {s t : GS} {L : FM} (h : FLQ g s) (hF : Fr L s t) (hq : (qF L.2.2.1 65 0 && qF L.2.2.1 65 1 && qF L.2.2.1 65 2 && qF L.2.2.1 65 4 && qF L.2.2.2 65 3) = true) : FLQ g t := by
  simp only [Bool.and_eq_true] at hq
  obtain ⟨⟨⟨⟨a, b⟩, c⟩, e⟩, f⟩ := hq
  unfold FLQ at h ⊢
  rw [hF.2.2.1 65 0 a, hF.2.2.1 65 1 b, hF.2.2.1 65 2 c, hF.2.2.1 65 4 e, hF.2.2.2 65 3 f]
  exact h
theorem flq_sI {g : GVW} {s : GS} {q j : Nat} {x : Int32} (h : FLQ g s) : FLQ g (sI s q j x) := h
def FLC (s : GS) : Prop := FLB (shC s) s
def FLV (g : GVW) (a b : Nat) (V : Int) : Prop := ∃ X : Nat → Bool, FLX g a b V X
def SDV (g : GVW) (a b v : Nat) (r : Int) : Prop := ∃ (V : Int) (X : Nat → Bool), FLX g a b V X ∧ ((r = 1 ∧ X v = true) ∨ (r = 0 ∧ X v = false))
theorem flv_of {g : GVW} {t : GS} {x y : Int32} {z : Int64} (h : FLQ g t ∧ FLA t x y) (hz : z.toInt = (t.2.2.2.1 65 3).toInt) : FLV g x.toNatClampNeg y.toNatClampNeg z.toInt := by
  obtain ⟨⟨-, h2⟩, h3, h4⟩ := h
  rw [h3, h4] at h2
  rw [hz]
  exact ⟨_, h2⟩
theorem sdv_1 {g : GVW} {t : GS} {x y w : Int32} {v : Nat} {r : Int} (h : FLQ g t ∧ FLA t x y) (hw : w = t.2.2.1 65 4) (hb : bt w v = true) (hr : r = 1) : SDV g x.toNatClampNeg y.toNatClampNeg v r := by
  obtain ⟨⟨-, h2⟩, h3, h4⟩ := h
  rw [h3, h4] at h2
  rw [hw] at hb
  exact ⟨_, _, h2, Or.inl ⟨hr, hb⟩⟩
theorem sdv_0 {g : GVW} {t : GS} {x y w : Int32} {v : Nat} {r : Int} (h : FLQ g t ∧ FLA t x y) (hw : w = t.2.2.1 65 4) (hb : bt w v = false) (hr : r = 0) : SDV g x.toNatClampNeg y.toNatClampNeg v r := by
  obtain ⟨⟨-, h2⟩, h3, h4⟩ := h
  rw [h3, h4] at h2
  rw [hw] at hb
  exact ⟨_, _, h2, Or.inr ⟨hr, hb⟩⟩
theorem flx_e {g h : GVW} (q : GEW g h) {s t : Nat} {V : Int} {X : Nat → Bool} (a : FLX g s t V X) : FLX h s t V X := by
  obtain ⟨a1, a2, a3, a4⟩ := a
  exact ⟨a1, by rw [← cut_eq q X]; exact a2, fun Y y1 y2 => by rw [← cut_eq q Y]; exact a3 Y y1 y2, fun Y y1 y2 e => a4 Y y1 y2 (by rw [cut_eq q Y]; exact e)⟩
end
section
/-! THE REFERENCE'S FLOW: what is left over its arcs -/
theorem rm_Z {s : GS} (hI : Inv s) : ∀ p, p < 160 → 0 ≤ ((gvZ s).2.2.2.2.1 p).toInt ∧ ((gvZ s).2.2.2.2.1 p).toInt ≤ 1000000 := by
  intro p hp
  have b := inv_F hI (z := s.2.2.1 109 19) 0 160 rfl rfl
  have e : bs s = (s.2.2.1 109 19).toInt.toNat := rfl
  have b1 := b.1
  have b2 := b.2
  have w := hI.1.1 116 (bs s + p) (Nat.lt_of_lt_of_le (show bs s + p < 480 by omega) (Nat.le_of_ble_eq_true rfl))
  have e2 : rI 116 = (0, 1000000) := rfl
  rw [e2] at w
  rw [gvz_r hI]
  exact w
/-! the reference's search: nothing is passed by -/
end
section
/-! LEAST WALKS TO A GOAL -/
def wkc (A : Nat → Nat → Nat → Prop) (c : Nat → Int) : Nat → Nat → Nat → Int → Prop
  | 0, u, t, x => u = t ∧ x = 0
  | k + 1, u, t, x => ∃ (p v : Nat) (y : Int), A p u v ∧ wkc A c k v t y ∧ x = c p + y
section WKC
variable {A : Nat → Nat → Nat → Prop} {c : Nat → Int}
theorem wkc_app : ∀ (k : Nat) {j u v t : Nat} {x y : Int}, wkc A c k u v x → wkc A c j v t y → wkc A c (k + j) u t (x + y) := by
  intro k
  induction k with
  | zero =>
    intro j u v t x y h1 h2
    obtain ⟨e1, e2⟩ := h1
    rw [e1, e2, Nat.zero_add, Int.zero_add]
    exact h2
  | succ k ih =>
    intro j u v t x y h1 h2
    obtain ⟨p, w, z, a, b, e⟩ := h1
    rw [show k + 1 + j = (k + j) + 1 by omega]
    exact ⟨p, w, z + y, a, ih b h2, by omega⟩
/-- either a ring, or D is met -/
theorem wkc_hit {n t : Nat} (hA : ∀ p u v, A p u v → u < n ∧ v < n) (ht : t < n) : ∀ (k : Nat) (D : Nat → Prop) (u : Nat) (x : Int), n ≤ cnP D n + k → wkc A c k u t x →
    (∃ (i l j v : Nat) (y r z : Int), (1 ≤ l ∧ l ≤ n) ∧ k = i + l + j ∧ wkc A c i u v y ∧ wkc A c l v v r ∧ wkc A c j v t z ∧ x = y + r + z) ∨ ∃ (i j v : Nat) (y z : Int), D v ∧ (i + cnP D n ≤ n ∧ k = i + j) ∧ wkc A c i u v y ∧ wkc A c j v t z ∧ x = y + z := by
  intro k
  induction k with
  | zero =>
    intro D u x hn h
    have h2 := h
    obtain ⟨e1, e2⟩ := h2
    by_cases hd : D u
    · have tp := cnP_top (P := D) n
      exact Or.inr ⟨0, 0, u, 0, x, hd, ⟨by omega, rfl⟩, ⟨rfl, rfl⟩, h, by omega⟩
    · have a := cnP_add (P := D) (n := n) (w := u) (by rw [e1]; exact ht) hd
      have b := cnP_top (P := fun k => D k ∨ k = u) n
      omega
  | succ k ih =>
    intro D u x hn h
    by_cases hd : D u
    · have tp := cnP_top (P := D) n
      exact Or.inr ⟨0, k + 1, u, 0, x, hd, ⟨by omega, by omega⟩, ⟨rfl, rfl⟩, h, by omega⟩
    · obtain ⟨p, w, q, a, b, e⟩ := h
      have un := (hA p u w a).1
      have cn := cnP_add (P := D) (n := n) (w := u) un hd
      rcases ih (fun k => D k ∨ k = u) w q (by rw [cn]; omega) b with ⟨i, l, j, v, y, r, z, h1, h2, h3, h4, h5, h6⟩ | ⟨i, j, v, y, z, h1, ⟨h0, h2⟩, h3, h4, h5⟩
      · exact Or.inl ⟨i + 1, l, j, v, c p + y, r, z, h1, by omega, ⟨p, w, y, a, h3, rfl⟩, h4, h5, by omega⟩
      · rw [cn] at h0
        rcases h1 with h1 | h1
        · exact Or.inr ⟨i + 1, j, v, c p + y, z, h1, ⟨by omega, by omega⟩, ⟨p, w, y, a, h3, rfl⟩, h4, by omega⟩
        · rw [h1] at h3 h4
          exact Or.inl ⟨0, i + 1, j, u, 0, c p + y, z, ⟨by omega, by omega⟩, by omega, ⟨rfl, rfl⟩, ⟨p, w, y, a, h3, rfl⟩, h4, by omega⟩
theorem wkc_ring {n t : Nat} (hA : ∀ p u v, A p u v → u < n ∧ v < n) (ht : t < n) {k u : Nat} {x : Int} (hk : n ≤ k) (h : wkc A c k u t x) : ∃ (i l j v : Nat) (y r z : Int), (1 ≤ l ∧ l ≤ n) ∧ k = i + l + j ∧ wkc A c i u v y ∧ wkc A c l v v r ∧ wkc A c j v t z ∧ x = y + r + z := by
  rcases wkc_hit hA ht k (fun _ => False) u x (by omega) h with q | ⟨i, j, v, y, z, h1, -⟩
  · exact q
  · exact h1.elim
end WKC
/-! weight first, then the number of arcs -/
end
section
/-! NETS: sums over pipes and nodes -/
theorem sn_mul {f : Nat → Int} {k : Int} : ∀ n : Nat, sm (fun v => k * f v) n = k * sm f n := by
  intro n
  induction n with
  | zero => show (0 : Int) = k * 0; rw [Int.mul_zero]
  | succ n ih => rw [sm_s, sm_s, ih, Int.mul_add]
theorem sn_sub {f h : Nat → Int} : ∀ n : Nat, sm (fun v => f v - h v) n = sm f n - sm h n := by
  intro n
  induction n with
  | zero => rfl
  | succ n ih => rw [sm_s, sm_s, sm_s, ih]; omega
theorem sn_mono {f h : Nat → Int} : ∀ n : Nat, (∀ k, k < n → f k ≤ h k) → sm f n ≤ sm h n := by
  intro n
  induction n with
  | zero => intro _; exact Int.le_refl _
  | succ n ih =>
    intro g
    have a := ih (fun k hk => g k (by omega))
    have b := g n (by omega)
    rw [sm_s, sm_s]
    omega
def dl (a v : Nat) : Int := if a = v then 1 else 0
theorem dl_e {a : Nat} : dl a a = 1 := by unfold dl; rw [if_pos rfl]
theorem dl_n {a v : Nat} (h : a ≠ v) : dl a v = 0 := by unfold dl; rw [if_neg h]
theorem sn_dl {g : Nat → Int} {a n : Nat} (ha : a < n) : sm (fun v => g v * dl a v) n = g a := by
  have t := sm_one (f := fun _ => 0) (h := fun v => g v * dl a v) (u := a) (d := g a) n ha (fun k _ hk => (by show g k * dl a k = 0; rw [dl_n (fun z => hk z.symm), Int.mul_zero])) (by show g a * dl a a = 0 + g a; rw [dl_e, Int.mul_one, Int.zero_add])
  rw [sm_0 (f := fun _ => 0) n (fun _ _ => rfl)] at t
  omega
def dvN (tl hd : Nat → Nat) (x : Nat → Int) (P v : Nat) : Int := sm (fun e => x e * (dl (hd e) v - dl (tl e) v)) P
theorem nt_r1 (a b c d e : Int) : a * (b + c * (d - e)) = a * b + (c * (a * d) - c * (a * e)) := by
  rw [Int.mul_add, Int.mul_left_comm a c, Int.mul_sub a, Int.mul_sub c]
theorem dv_al {tl hd : Nat → Nat} {x g : Nat → Int} : ∀ P : Nat, (∀ e, e < P → tl e < 32 ∧ hd e < 32) → sm (fun v => g v * dvN tl hd x P v) 32 = sm (fun e => x e * (g (hd e) - g (tl e))) P := by
  intro P
  induction P with
  | zero =>
    intro _
    exact sm_0 32 (fun k _ => (by show g k * 0 = 0; exact Int.mul_zero _))
  | succ P ih =>
    intro hE
    have e : ∀ v, v < 32 → g v * dvN tl hd x (P + 1) v = g v * dvN tl hd x P v + (x P * (g v * dl (hd P) v) - x P * (g v * dl (tl P) v)) := by
      intro v _
      show g v * (sm (fun e => x e * (dl (hd e) v - dl (tl e) v)) P + x P * (dl (hd P) v - dl (tl P) v)) = _
      exact nt_r1 _ _ _ _ _
    have a := hE P (by omega)
    rw [sm_eq 32 e, sm_add, sn_sub, sn_mul, sn_mul, sn_dl a.1, sn_dl a.2, ih (fun e he => hE e (by omega)), sm_s, Int.mul_sub (x P)]
theorem nt_r2 (y x p a b : Int) (h : 0 ≤ (y - x) * (p + a - b)) : y * (b - a) - x * (b - a) ≤ p * y - p * x := by
  have e : (y - x) * (p + a - b) = (p * y - p * x) - (y * (b - a) - x * (b - a)) := by
    rw [show p + a - b = p - (b - a) by omega, Int.mul_sub, Int.sub_mul, Int.sub_mul, Int.mul_comm y p, Int.mul_comm x p]
  omega
/-- what another carrying costs more, at least -/
theorem lp_le {P : Nat} {tl hd : Nat → Nat} {pr q x y : Nat → Int} (hE : ∀ e, e < P → tl e < 32 ∧ hd e < 32) (h : ∀ e, e < P → 0 ≤ (y e - x e) * (pr e + q (tl e) - q (hd e))) : sm (fun v => q v * (dvN tl hd y P v - dvN tl hd x P v)) 32 ≤ sm (fun e => pr e * y e) P - sm (fun e => pr e * x e) P := by
  have a : sm (fun v => q v * (dvN tl hd y P v - dvN tl hd x P v)) 32 = sm (fun e => y e * (q (hd e) - q (tl e))) P - sm (fun e => x e * (q (hd e) - q (tl e))) P := by
    rw [sm_eq (h := fun v => q v * dvN tl hd y P v - q v * dvN tl hd x P v) 32 (fun v _ => Int.mul_sub _ _ _), sn_sub, dv_al P hE, dv_al P hE]
  have b := sn_mono (f := fun e => y e * (q (hd e) - q (tl e)) - x e * (q (hd e) - q (tl e))) (h := fun e => pr e * y e - pr e * x e) P (fun e he => nt_r2 _ _ _ _ _ (h e he))
  rw [sn_sub, sn_sub] at b
  omega
theorem fe_min {R : Nat → Nat → Int → Prop} {pi p : Nat → Int} {C : Int} (hf : FE R pi) (hcl : ∀ u v w, R u v w → p u < 9000000000000000 → p v ≤ p u + w ∧ p v < 9000000000000000) : FE R (fun v => if p v < 9000000000000000 ∧ p v - pi v ≤ C then p v else pi v + C) := by
  intro u v w hr
  dsimp only
  have f := hf u v w hr
  by_cases cu : p u < 9000000000000000 ∧ p u - pi u ≤ C
  · have a := hcl u v w hr cu.1
    rw [if_pos cu]
    split
    · omega
    · rename_i k
      have : ¬ p v - pi v ≤ C := fun z => k ⟨a.2, z⟩
      omega
  · rw [if_neg cu]
    split
    · rename_i k
      omega
    · omega
/-! WALKS over arcs with small weights -/
def cR (p : Nat) : Int := (p : Int) - 1000000
def AR (R : Nat → Nat → Int → Prop) (p u v : Nat) : Prop := R v u (cR p)
theorem ar_of {R : Nat → Nat → Int → Prop} (hR : RB R) {u v : Nat} {w : Int} (h : R u v w) : AR R (w + 1000000).toNat v u ∧ cR (w + 1000000).toNat = w := by
  have b := hR u v w h
  have e : cR (w + 1000000).toNat = w := by unfold cR; omega
  refine ⟨?_, e⟩
  unfold AR
  rw [e]
  exact h
theorem wk_pot {R : Nat → Nat → Int → Prop} {q : Nat → Int} (hf : FE R q) : ∀ (k v t : Nat) (x : Int), wkc (AR R) cR k v t x → q v ≤ q t + x := by
  intro k
  induction k with
  | zero =>
    intro v t x h
    obtain ⟨e1, e2⟩ := h
    rw [e1, e2]
    omega
  | succ k ih =>
    intro v t x h
    obtain ⟨p, u, y, a, b, e⟩ := h
    have f := hf _ _ _ (show R u v (cR p) from a)
    have g := ih u t y b
    omega
theorem wk_short {R : Nat → Nat → Int → Prop} {q : Nat → Int} {n t : Nat} (hf : FE R q) (hn : ∀ u v w, R u v w → u < n ∧ v < n) (ht : t < n) : ∀ (k v : Nat) (x : Int), wkc (AR R) cR k v t x → ∃ (k2 : Nat) (x2 : Int), k2 < n ∧ x2 ≤ x ∧ wkc (AR R) cR k2 v t x2 := by
  intro k
  induction k using Nat.strongRecOn with
  | ind k ih =>
    intro v x h
    by_cases hk : k < n
    · exact ⟨k, x, hk, Int.le_refl _, h⟩
    · obtain ⟨i, l, j, y0, y, r, z, h1, h2, h3, h4, h5, h6⟩ := wkc_ring (fun p u v ha => (by have b := hn v u _ ha; exact ⟨b.2, b.1⟩)) ht (by omega) h
      have g := wk_pot hf _ _ _ _ h4
      obtain ⟨k2, x2, a, b, c⟩ := ih (i + j) (by omega) v (y + z) (wkc_app i h3 h5)
      exact ⟨k2, x2, a, by omega, c⟩
theorem bi_relax2 {R : Nat → Nat → Int → Prop} {pi : Nat → Int} {c : Int} {S S2 : Nat → Prop} {p p2 : Nat → Int} {pd pd2 : Nat → Nat} {wt wt2 : Nat → Int} {u v : Nat} {w : Int} (hR : RB R) (hf : FE R pi) (hp : PB2 pi c) (h : BI R pi c S p pd wt) (hr : R u v w) (hu : p u < 9000000000000000) (hlt : p u + w < p v)
    (e1 : p2 v = p u + w) (e2 : ∀ x, x < 32 → x ≠ v → p2 x = p x) (e3 : pd2 v = u) (e4 : ∀ x, x < 32 → x ≠ v → pd2 x = pd x) (e5 : wt2 v = w) (e6 : ∀ x, x < 32 → x ≠ v → wt2 x = wt x) (hS2 : ∀ x, x < 32 → x ≠ v → S x → S2 x) : BI R pi c S2 p2 pd2 wt2 := by
  obtain ⟨hu32, hv32, w1, w2⟩ := hR u v w hr
  have hfe := hf u v w hr
  have hne : u ≠ v := by
    intro e
    rw [e] at hfe hlt
    omega
  obtain ⟨h1, τ, t1, t2⟩ := h
  have bu := h1 u hu32 hu
  have hc32 := cq_le (fnp p) 32
  have hpv := hp.1 v hv32
  have hcc := hp.2
  have hnew : p2 v < 9000000000000000 := by rw [e1]; omega
  have hsub : ∀ i, i < 32 → fnp p i = true → fnp p2 i = true := by
    intro i hi hq
    by_cases e : i = v
    · rw [e]; exact decide_eq_true hnew
    · unfold fnp at hq ⊢
      rw [e2 i hi e]; exact hq
  have hc1 := cq_mono (p := fnp p) (q := fnp p2) 32 hsub
  have hlow : 0 ≤ p u + w - pi v + c := by omega
  have hms : msr pi c p2 < msr pi c p := by
    refine smq_lt (k := v) 32 (fun i hi => ?_) hv32 ?_
    · by_cases e : i = v
      · rw [e]
        unfold ee
        rw [if_pos hnew, e1]
        split <;> omega
      · unfold ee
        rw [e2 i hi e]
        exact Nat.le_refl _
    · unfold ee
      rw [if_pos hnew, e1]
      split <;> omega
  refine ⟨fun x hx hq => ?_, fun x => if x = v then 3200000000 - msr pi c p2 else τ x, fun x hx => ?_, fun x hx hq hS => ?_⟩
  · by_cases e : x = v
    · rw [e, e1]
      refine ⟨hlow, ?_⟩
      by_cases k : p v < 9000000000000000
      · have := h1 v hv32 k
        omega
      · have := cq_lt (p := fnp p) (q := fnp p2) (k := v) 32 hsub hv32 (decide_eq_false k) (decide_eq_true hnew)
        omega
    · rw [e2 x hx e] at hq ⊢
      have := h1 x hx hq
      omega
  · dsimp only
    have a := t1 v hv32
    have b := t1 x hx
    split <;> omega
  · dsimp only
    by_cases e : x = v
    · rw [e, e3, e5, if_pos rfl, if_neg hne, e2 u hu32 hne, e1]
      have a := t1 u hu32
      exact ⟨hu32, hr, hu, Or.inr ⟨rfl, by omega⟩⟩
    · rw [e2 x hx e] at hq ⊢
      obtain ⟨q1, q2, q3, q4⟩ := t2 x hx hq (fun z => hS (hS2 x hx e z))
      rw [e4 x hx e, e6 x hx e, if_neg e]
      by_cases k : pd x = v
      · rw [k] at q2 q3 q4 ⊢
        refine ⟨hv32, q2, hnew, Or.inl ?_⟩
        rw [e1]
        rcases q4 with q4 | q4 <;> omega
      · rw [e2 _ q1 k, if_neg k]
        exact ⟨q1, q2, q3, q4⟩
/-! WHAT IS LEFT IN PIPES -/
abbrev NT : Type := Nat × (Nat → Nat) × (Nat → Nat) × (Nat → Int) × (Nat → Int)
def RSA (N : NT) (fi : Nat → Int) (σ : Int) (u v : Nat) (w : Int) : Prop := ∃ e : Nat, e < N.1 ∧ ((u = N.2.1 e ∧ v = N.2.2.1 e ∧ w = N.2.2.2.1 e ∧ σ ≤ N.2.2.2.2 e - fi e) ∨ (u = N.2.2.1 e ∧ v = N.2.1 e ∧ w = -(N.2.2.2.1 e) ∧ σ ≤ fi e))
def NOK (N : NT) (n : Nat) : Prop := n ≤ 32 ∧ ∀ e, e < N.1 → N.2.1 e < n ∧ N.2.2.1 e < n ∧ N.2.1 e ≠ N.2.2.1 e ∧ -1000000 ≤ N.2.2.2.1 e ∧ N.2.2.2.1 e ≤ 1000000
def FOK (N : NT) (fi : Nat → Int) : Prop := ∀ e, e < N.1 → 0 ≤ fi e ∧ fi e ≤ N.2.2.2.2 e ∧ N.2.2.2.2 e ≤ 1000000
theorem rsa_n {N : NT} {fi : Nat → Int} {σ : Int} {n u v : Nat} {w : Int} (h : NOK N n) (hr : RSA N fi σ u v w) : u < n ∧ v < n := by
  obtain ⟨e, he, hr⟩ := hr
  obtain ⟨a, b, -⟩ := h.2 e he
  rcases hr with ⟨e1, e2, -⟩ | ⟨e1, e2, -⟩
  · rw [e1, e2]; exact ⟨a, b⟩
  · rw [e1, e2]; exact ⟨b, a⟩
theorem rsa_b {N : NT} {fi : Nat → Int} {σ : Int} {n : Nat} (h : NOK N n) : RB (RSA N fi σ) := by
  intro u v w hr
  have a := rsa_n h hr
  have b := h.1
  obtain ⟨e, he, hr⟩ := hr
  obtain ⟨-, -, -, c, d⟩ := h.2 e he
  rcases hr with ⟨-, -, e3, -⟩ | ⟨-, -, e3, -⟩
  · exact ⟨by omega, by omega, by omega, by omega⟩
  · exact ⟨by omega, by omega, by omega, by omega⟩
def pqn (n : Nat) (f : Nat → Int) (v : Nat) : Int := if v < n then f v else 9000000000000000
theorem pqn_i {n v : Nat} {f : Nat → Int} (h : v < n) : pqn n f v = f v := by unfold pqn; rw [if_pos h]
theorem pqn_f {n v : Nat} {f : Nat → Int} (h : pqn n f v < 9000000000000000) : v < n ∧ pqn n f v = f v := by
  by_cases c : v < n
  · exact ⟨c, pqn_i c⟩
  · unfold pqn at h
    rw [if_neg c] at h
    omega
def pdN (N : NT) (vi : Nat → Int) (v : Nat) : Nat := if vi v % 2 = 0 then N.2.1 (vi v / 2).toNat else N.2.2.1 (vi v / 2).toNat
def wtN (N : NT) (vi : Nat → Int) (v : Nat) : Int := if vi v % 2 = 0 then N.2.2.2.1 (vi v / 2).toNat else -(N.2.2.2.1 (vi v / 2).toNat)
/-- by which pipe v was come to -/
def VIO (N : NT) (fi : Nat → Int) (σ : Int) (c : Int) (v : Nat) : Prop := ∃ e : Nat, e < N.1 ∧ ((c = 2 * (e : Int) ∧ N.2.2.1 e = v ∧ σ ≤ N.2.2.2.2 e - fi e) ∨ (c = 2 * (e : Int) + 1 ∧ N.2.1 e = v ∧ σ ≤ fi e))
def FRq : Int := 9223372036854775807
def BFK (N : NT) (fi : Nat → Int) (σ : Int) (n : Nat) (pi f0 vi0 f vi : Nat → Int) : Prop :=
  BI (RSA N fi σ) pi 32000000 (fun v => pqn n f v = pqn n f0 v) (pqn n f) (pdN N vi) (wtN N vi) ∧
  ∀ v, v < n → f v ≤ f0 v ∧ (f v < 9000000000000000 ∨ f v = FRq) ∧ (f v = f0 v → vi v = vi0 v) ∧ (f v ≠ f0 v → VIO N fi σ (vi v) v)
def IN0 (n : Nat) (f0 : Nat → Int) : Prop := ∀ v, v < n → f0 v = 0 ∨ f0 v = FRq
theorem bfk_0 {N : NT} {fi : Nat → Int} {σ : Int} {n : Nat} {pi f0 vi0 : Nat → Int} (hp : PB2 pi 32000000) (h : IN0 n f0) : BFK N fi σ n pi f0 vi0 f0 vi0 := by
  refine ⟨bi_0 hp (fun v hv hq => ?_), fun v hv => ⟨Int.le_refl _, ?_, fun _ => rfl, fun z => absurd rfl z⟩⟩
  · obtain ⟨a, b⟩ := pqn_f hq
    rw [b] at hq ⊢
    have c := hp.1 v hv
    rcases h v a with z | z
    · exact ⟨rfl, z, c.2⟩
    · unfold FRq at z; omega
  · rcases h v hv with z | z
    · exact Or.inl (by omega)
    · exact Or.inr z
theorem bfk_b {N : NT} {fi : Nat → Int} {σ : Int} {n : Nat} {pi f0 vi0 f vi : Nat → Int} (hp : PB2 pi 32000000) (hN : NOK N n) (h : BFK N fi σ n pi f0 vi0 f vi) {v : Nat} (hv : v < n) : f v = FRq ∨ (f v < 9000000000000000 ∧ -32000000 ≤ f v ∧ f v ≤ 31000000) := by
  rcases (h.2 v hv).2.1 with a | a
  · have e := pqn_i (f := f) hv
    have b := bi_b hp h.1 (v := v) (by have := hN.1; omega) (by rw [e]; exact a)
    rw [e] at b
    exact Or.inr ⟨a, b⟩
  · exact Or.inl a
/-- one lowering -/
def RLS (f vi f2 vi2 : Nat → Int) (u v : Nat) (w k : Int) : Prop := f u ≠ FRq ∧ f u + w < f v ∧ f2 v = f u + w ∧ (∀ x, x ≠ v → f2 x = f x) ∧ vi2 v = k ∧ ∀ x, x ≠ v → vi2 x = vi x
theorem bfk_s {N : NT} {fi : Nat → Int} {σ : Int} {n e u v : Nat} {pi f0 vi0 f vi f2 vi2 : Nat → Int} {w k : Int} (hp : PB2 pi 32000000) (hf : FE (RSA N fi σ) pi) (hN : NOK N n) (h : BFK N fi σ n pi f0 vi0 f vi) (he : e < N.1)
    (hd : (u = N.2.1 e ∧ v = N.2.2.1 e ∧ w = N.2.2.2.1 e ∧ σ ≤ N.2.2.2.2 e - fi e ∧ k = 2 * (e : Int)) ∨ (u = N.2.2.1 e ∧ v = N.2.1 e ∧ w = -(N.2.2.2.1 e) ∧ σ ≤ fi e ∧ k = 2 * (e : Int) + 1)) (hs : RLS f vi f2 vi2 u v w k) : BFK N fi σ n pi f0 vi0 f2 vi2 ∧ u ≠ v := by
  obtain ⟨s1, s2, s3, s4, s5, s6⟩ := hs
  have hr : RSA N fi σ u v w := ⟨e, he, by rcases hd with ⟨a, b, c, d, -⟩ | ⟨a, b, c, d, -⟩; exact Or.inl ⟨a, b, c, d⟩; exact Or.inr ⟨a, b, c, d⟩⟩
  obtain ⟨un, vn⟩ := rsa_n hN hr
  have n32 := hN.1
  have fu := bfk_b hp hN h un
  have fu2 : f u < 9000000000000000 := by
    rcases fu with z | z
    · exact absurd z s1
    · exact z.1
  have wb := rsa_b hN u v w hr
  have fub : f u ≤ 31000000 := by
    rcases fu with z | z
    · exact absurd z s1
    · exact z.2.2
  have uv : u ≠ v := by
    intro c
    have := hf u v w hr
    rw [c] at this s2
    omega
  have hv0 := h.2 v vn
  have ks : k % 2 = 0 ∧ (k / 2).toNat = e ∨ k % 2 ≠ 0 ∧ (k / 2).toNat = e := by
    rcases hd with ⟨-, -, -, -, c⟩ | ⟨-, -, -, -, c⟩
    · exact Or.inl ⟨by omega, by omega⟩
    · exact Or.inr ⟨by omega, by omega⟩
  have pv : pdN N vi2 v = u ∧ wtN N vi2 v = w := by
    unfold pdN wtN
    rw [s5]
    rcases hd with ⟨a, -, c, -, d⟩ | ⟨a, -, c, -, d⟩
    · have k0 : k % 2 = 0 := by omega
      have k1 : (k / 2).toNat = e := by omega
      rw [if_pos k0, if_pos k0, k1]
      exact ⟨a.symm, c.symm⟩
    · have k0 : ¬ k % 2 = 0 := by omega
      have k1 : (k / 2).toNat = e := by omega
      rw [if_neg k0, if_neg k0, k1]
      exact ⟨a.symm, c.symm⟩
  have po : ∀ x, x ≠ v → pdN N vi2 x = pdN N vi x ∧ wtN N vi2 x = wtN N vi x := by
    intro x hx
    unfold pdN wtN
    rw [s6 x hx]
    exact ⟨rfl, rfl⟩
  have q1 : ∀ x, x ≠ v → pqn n f2 x = pqn n f x := by
    intro x hx
    unfold pqn
    rw [s4 x hx]
  have qu := pqn_i (f := f) un
  have qv := pqn_i (f := f) vn
  have qv2 := pqn_i (f := f2) vn
  refine ⟨⟨bi_relax2 (S := fun v => pqn n f v = pqn n f0 v) (rsa_b hN) hf hp h.1 hr (by rw [qu]; exact fu2) (by rw [qu, qv]; exact s2) (by rw [qv2, qu]; exact s3) (fun x _ hx => q1 x hx) pv.1 (fun x _ hx => (po x hx).1) pv.2 (fun x _ hx => (po x hx).2) (fun x _ hx z => by rw [q1 x hx]; exact z), fun x hx => ?_⟩, uv⟩
  by_cases c : x = v
  · rw [c, s3, s5]
    refine ⟨by omega, Or.inl (by omega), fun z => by omega, fun _ => ⟨e, he, ?_⟩⟩
    rcases hd with ⟨a, b, -, d, e5⟩ | ⟨a, b, -, d, e5⟩
    · exact Or.inl ⟨e5, b.symm, d⟩
    · exact Or.inr ⟨e5, b.symm, d⟩
  · rw [s4 x c, s6 x c]
    exact h.2 x hx
/-- walks of at most r arcs are not lighter -/
def WKB (R : Nat → Nat → Int → Prop) (n : Nat) (f0 f : Nat → Int) (r : Nat) : Prop := ∀ (k v t : Nat) (x : Int), k ≤ r → v < n → t < n → f0 t = 0 → wkc (AR R) cR k v t x → f v ≤ x ∧ f v < 9000000000000000
theorem wkb_0 {R : Nat → Nat → Int → Prop} {n : Nat} {f0 : Nat → Int} : WKB R n f0 f0 0 := by
  intro k v t x hk hv ht h0 h
  have e : k = 0 := by omega
  rw [e] at h
  obtain ⟨e1, e2⟩ := h
  rw [e1, e2, h0]
  exact ⟨Int.le_refl _, by omega⟩
theorem wkb_s {R : Nat → Nat → Int → Prop} {n r : Nat} {f0 O f : Nat → Int} (hR : RB R) (hn : ∀ u v w, R u v w → u < n ∧ v < n) (hb : ∀ v, v < n → O v < 9000000000000000 → O v ≤ 31000000) (h1 : ∀ v, v < n → f v ≤ O v) (h2 : ∀ u v w, R u v w → O u < 9000000000000000 → f v ≤ O u + w) (h : WKB R n f0 O r) : WKB R n f0 f (r + 1) := by
  intro k v t x hk hv ht h0 hw
  cases k with
  | zero =>
    have a := h 0 v t x (Nat.zero_le _) hv ht h0 hw
    have b := h1 v hv
    exact ⟨by omega, by omega⟩
  | succ k =>
    obtain ⟨p, u, y, a, b, e⟩ := hw
    have a2 : R u v (cR p) := a
    have un := (hn _ _ _ a2).1
    have c := h k u t y (by omega) un ht h0 b
    have d := h2 u v (cR p) a2 c.2
    have g := hb u un c.2
    have w := hR _ _ _ a2
    exact ⟨by omega, by omega⟩
/-- what is told is no lighter than some walk -/
theorem wk_of {N : NT} {fi : Nat → Int} {σ : Int} {n : Nat} {pi f0 vi0 f vi : Nat → Int} (hf : FE (RSA N fi σ) pi) (hN : NOK N n) (h0 : IN0 n f0) (h : BFK N fi σ n pi f0 vi0 f vi) : ∀ v, v < n → f v < 9000000000000000 → ∃ (t k : Nat) (x : Int), t < n ∧ f0 t = 0 ∧ wkc (AR (RSA N fi σ)) cR k v t x ∧ x ≤ f v := by
  obtain ⟨r, r1, r2⟩ := bi_rank hf h.1
  have n32 := hN.1
  have key : ∀ (m v : Nat), r v < m → v < n → f v < 9000000000000000 → ∃ (t k : Nat) (x : Int), t < n ∧ f0 t = 0 ∧ wkc (AR (RSA N fi σ)) cR k v t x ∧ x ≤ f v := by
    intro m
    induction m with
    | zero => intro v hr; omega
    | succ m ih =>
      intro v hr hv hq
      have ev := pqn_i (f := f) hv
      by_cases c : f v = f0 v
      · rcases h0 v hv with z | z
        · exact ⟨v, 0, 0, hv, z, ⟨rfl, rfl⟩, by omega⟩
        · unfold FRq at z; omega
      · have e0 := pqn_i (f := f0) hv
        obtain ⟨a1, a2, a3, a4, a5⟩ := r2 v (by omega) (by rw [ev]; exact hq) (by rw [ev, e0]; exact c)
        obtain ⟨b1, b2⟩ := pqn_f a3
        rw [b2] at a3 a5
        rw [ev] at a5
        obtain ⟨t, k, x, t1, t2, t3, t4⟩ := ih (pdN N vi v) (by omega) b1 a3
        obtain ⟨c1, c2⟩ := ar_of (rsa_b hN) a2
        exact ⟨t, k + 1, wtN N vi v + x, t1, t2, ⟨_, _, x, c1, t3, by rw [c2]⟩, by omega⟩
  exact fun v hv hq => key (r v + 1) v (by omega) hv hq
/-- within a round -/
def FWN (N : NT) (fi : Nat → Int) (σ : Int) (f : Nat → Int) (e : Nat) : Prop := σ ≤ N.2.2.2.2 e - fi e → f (N.2.1 e) ≠ FRq → f (N.2.2.1 e) ≤ f (N.2.1 e) + N.2.2.2.1 e
def BWN (N : NT) (fi : Nat → Int) (σ : Int) (f : Nat → Int) (e : Nat) : Prop := σ ≤ fi e → f (N.2.2.1 e) ≠ FRq → f (N.2.1 e) ≤ f (N.2.2.1 e) - N.2.2.2.1 e
def RLP (N : NT) (fi : Nat → Int) (σ : Int) (e : Nat) (f vi f2 vi2 : Nat → Int) (z : Int) : Prop :=
  (z = 0 ∧ f2 = f ∧ vi2 = vi ∧ FWN N fi σ f e ∧ BWN N fi σ f e) ∨
  (z = 1 ∧ RLS f vi f2 vi2 (N.2.1 e) (N.2.2.1 e) (N.2.2.2.1 e) (2 * (e : Int)) ∧ σ ≤ N.2.2.2.2 e - fi e) ∨
  (z = 1 ∧ RLS f vi f2 vi2 (N.2.2.1 e) (N.2.1 e) (-(N.2.2.2.1 e)) (2 * (e : Int) + 1) ∧ σ ≤ fi e ∧ FWN N fi σ f e)
def RDD (N : NT) (fi : Nat → Int) (σ : Int) (e : Nat) (O f : Nat → Int) : Prop := ∀ d, d < e → (σ ≤ N.2.2.2.2 d - fi d → O (N.2.1 d) < 9000000000000000 → f (N.2.2.1 d) ≤ O (N.2.1 d) + N.2.2.2.1 d) ∧ (σ ≤ fi d → O (N.2.2.1 d) < 9000000000000000 → f (N.2.1 d) ≤ O (N.2.2.1 d) - N.2.2.2.1 d)
/-- e pipes of a round are done; O is the row before it -/
def RXJ (N : NT) (fi : Nat → Int) (σ : Int) (n : Nat) (pi f0 vi0 O f vi : Nat → Int) (e : Nat) (z : Int) : Prop := BFK N fi σ n pi f0 vi0 f vi ∧ (∀ v, v < n → f v ≤ O v) ∧ RDD N fi σ e O f ∧ (z = 0 → f = O) ∧ (z ≠ 0 → ∃ v, v < n ∧ f v < O v)
theorem rxj_0 {N : NT} {fi : Nat → Int} {σ : Int} {n : Nat} {pi f0 vi0 f vi : Nat → Int} (h : BFK N fi σ n pi f0 vi0 f vi) : RXJ N fi σ n pi f0 vi0 f f vi 0 0 := ⟨h, fun v _ => Int.le_refl _, fun d hd => absurd hd (Nat.not_lt_zero d), fun _ => rfl, fun z => absurd rfl z⟩
theorem rxj_s {N : NT} {fi : Nat → Int} {σ : Int} {n e : Nat} {pi f0 vi0 O f vi f2 vi2 : Nat → Int} {z y y2 : Int} (hp : PB2 pi 32000000) (hf : FE (RSA N fi σ) pi) (hN : NOK N n) (h : RXJ N fi σ n pi f0 vi0 O f vi e y) (he : e < N.1) (hr : RLP N fi σ e f vi f2 vi2 z) (hy : y2 = 0 ↔ y = 0 ∧ z = 0) : RXJ N fi σ n pi f0 vi0 O f2 vi2 (e + 1) y2 := by
  obtain ⟨h1, h2, h3, h4, h5⟩ := h
  obtain ⟨t1, t2, -⟩ := hN.2 e he
  have hF : (9000000000000000 : Int) < FRq := by unfold FRq; decide
  have a1 := h2 _ t1
  have a2 := h2 _ t2
  have low : ∀ u v : Nat, ∀ w k : Int, RLS f vi f2 vi2 u v w k → v < n → (∀ x, x < n → f2 x ≤ f x) ∧ f2 v < f v := by
    intro u v w k hs hv
    obtain ⟨s1, s2, s3, s4, s5, s6⟩ := hs
    refine ⟨fun x hx => ?_, by omega⟩
    by_cases c : x = v
    · rw [c]; omega
    · rw [s4 x c]; exact Int.le_refl _
  have old : (∀ x, x < n → f2 x ≤ f x) → ∀ d, d < e → (σ ≤ N.2.2.2.2 d - fi d → O (N.2.1 d) < 9000000000000000 → f2 (N.2.2.1 d) ≤ O (N.2.1 d) + N.2.2.2.1 d) ∧ (σ ≤ fi d → O (N.2.2.1 d) < 9000000000000000 → f2 (N.2.1 d) ≤ O (N.2.2.1 d) - N.2.2.2.1 d) := by
    intro hl d hd
    obtain ⟨b1, b2, -⟩ := hN.2 d (by omega)
    have c1 := hl _ b1
    have c2 := hl _ b2
    have g := h3 d hd
    exact ⟨fun p q => by have := g.1 p q; omega, fun p q => by have := g.2 p q; omega⟩
  have fwn : FWN N fi σ f e → σ ≤ N.2.2.2.2 e - fi e → O (N.2.1 e) < 9000000000000000 → f (N.2.2.1 e) ≤ O (N.2.1 e) + N.2.2.2.1 e := by
    intro g p q
    have := g p (by omega)
    omega
  rcases hr with ⟨z0, ef, ev, g1, g2⟩ | ⟨z1, hs, hσ⟩ | ⟨z1, hs, hσ, g1⟩
  · rw [ef, ev]
    refine ⟨h1, h2, fun d hd => ?_, fun q => h4 (hy.mp q).1, fun q => h5 (fun c => q (hy.mpr ⟨c, z0⟩))⟩
    by_cases c : d = e
    · rw [c]
      refine ⟨fwn g1, fun p q => ?_⟩
      have := g2 p (by omega)
      omega
    · exact h3 d (by omega)
  · obtain ⟨k1, k2⟩ := bfk_s hp hf hN h1 he (Or.inl ⟨rfl, rfl, rfl, hσ, rfl⟩) hs
    obtain ⟨l1, l2⟩ := low _ _ _ _ hs t2
    refine ⟨k1, fun v hv => by have := l1 v hv; have := h2 v hv; omega, fun d hd => ?_, fun q => absurd (hy.mp q).2 (by omega), fun _ => ⟨_, t2, by omega⟩⟩
    obtain ⟨s1, s2, s3, s4, s5, s6⟩ := hs
    by_cases c : d = e
    · rw [c]
      refine ⟨fun p q => by omega, fun p q => ?_⟩
      rw [s4 _ k2]
      omega
    · exact old l1 d (by omega)
  · obtain ⟨k1, k2⟩ := bfk_s hp hf hN h1 he (Or.inr ⟨rfl, rfl, rfl, hσ, rfl⟩) hs
    obtain ⟨l1, l2⟩ := low _ _ _ _ hs t1
    refine ⟨k1, fun v hv => by have := l1 v hv; have := h2 v hv; omega, fun d hd => ?_, fun q => absurd (hy.mp q).2 (by omega), fun _ => ⟨_, t1, by omega⟩⟩
    obtain ⟨s1, s2, s3, s4, s5, s6⟩ := hs
    by_cases c : d = e
    · rw [c]
      refine ⟨fun p q => ?_, fun p q => by omega⟩
      rw [s4 _ k2]
      exact fwn g1 p q
    · exact old l1 d (by omega)
def CLO (R : Nat → Nat → Int → Prop) (f : Nat → Int) : Prop := ∀ u v w, R u v w → f u < 9000000000000000 → f v ≤ f u + w
theorem rdd_r {N : NT} {fi : Nat → Int} {σ : Int} {O f : Nat → Int} (h : RDD N fi σ N.1 O f) : ∀ u v w, RSA N fi σ u v w → O u < 9000000000000000 → f v ≤ O u + w := by
  intro u v w hr hu
  obtain ⟨e, he, hr⟩ := hr
  have g := h e he
  rcases hr with ⟨e1, e2, e3, e4⟩ | ⟨e1, e2, e3, e4⟩
  · rw [e1] at hu
    rw [e1, e2, e3]
    exact g.1 e4 hu
  · rw [e1] at hu
    rw [e1, e2, e3]
    have := g.2 e4 hu
    omega
/-- behind r rounds; z: the last one lowered something -/
def RXI (N : NT) (fi : Nat → Int) (σ : Int) (n : Nat) (pi f0 vi0 f vi : Nat → Int) (r : Nat) (z : Int) : Prop := BFK N fi σ n pi f0 vi0 f vi ∧ WKB (RSA N fi σ) n f0 f r ∧ (z = 0 → CLO (RSA N fi σ) f) ∧ (z ≠ 0 → r = 0 ∨ ∃ (O : Nat → Int) (v : Nat), v < n ∧ f v < O v ∧ (O v < 9000000000000000 ∨ O v = FRq) ∧ WKB (RSA N fi σ) n f0 O (r - 1))
theorem rxi_0 {N : NT} {fi : Nat → Int} {σ : Int} {n : Nat} {pi f0 vi0 : Nat → Int} (hp : PB2 pi 32000000) (h : IN0 n f0) : RXI N fi σ n pi f0 vi0 f0 vi0 0 1 := ⟨bfk_0 hp h, wkb_0, fun z => by omega, fun _ => Or.inl rfl⟩
theorem rxi_s {N : NT} {fi : Nat → Int} {σ : Int} {n r : Nat} {pi f0 vi0 O viO f vi : Nat → Int} {y z : Int} (hp : PB2 pi 32000000) (hN : NOK N n) (h : RXI N fi σ n pi f0 vi0 O viO r y) (hj : RXJ N fi σ n pi f0 vi0 O f vi N.1 z) : RXI N fi σ n pi f0 vi0 f vi (r + 1) z := by
  obtain ⟨h1, h2, -, -⟩ := h
  obtain ⟨j1, j2, j3, j4, j5⟩ := hj
  have hd := rdd_r j3
  refine ⟨j1, wkb_s (rsa_b hN) (fun u v w hr => rsa_n hN hr) (fun v hv hq => ?_) j2 hd h2, fun q u v w hr hu => ?_, fun q => ?_⟩
  · rcases bfk_b hp hN h1 hv with a | a
    · unfold FRq at a; omega
    · exact a.2.2
  · have e := j4 q
    rw [← e] at hd
    exact hd u v w hr hu
  · obtain ⟨v, v1, v2⟩ := j5 q
    exact Or.inr ⟨O, v, v1, v2, (h1.2 v v1).2.1, by rw [Nat.add_sub_cancel]; exact h2⟩
/-- the rounds end: nothing is left to be lowered -/
theorem rxi_e {N : NT} {fi : Nat → Int} {σ : Int} {n r : Nat} {pi f0 vi0 f vi : Nat → Int} {z : Int} (hp : PB2 pi 32000000) (hf : FE (RSA N fi σ) pi) (hN : NOK N n) (h0 : IN0 n f0) (h : RXI N fi σ n pi f0 vi0 f vi r z) (he : z = 0 ∨ n < r) : CLO (RSA N fi σ) f := by
  obtain ⟨h1, h2, h3, h4⟩ := h
  by_cases c : z = 0
  · exact h3 c
  · exfalso
    rcases h4 c with h4 | ⟨O, v, v1, v2, v3, v4⟩
    · rcases he with he | he
      · exact c he
      · omega
    · have hr : n < r := by
        rcases he with he | he
        · exact absurd he c
        · exact he
      have fv : f v < 9000000000000000 := by
        rcases bfk_b hp hN h1 v1 with a | a
        · rcases v3 with b | b
          · unfold FRq at a; omega
          · omega
        · exact a.1
      obtain ⟨t, k, x, t1, t2, t3, t4⟩ := wk_of hf hN h0 h1 v v1 fv
      obtain ⟨k2, x2, k3, k4, k5⟩ := wk_short hf (fun u v w hr => rsa_n hN hr) t1 k v x t3
      have b := (v4 k2 v t x2 (by omega) v1 t1 t2 k5).1
      omega
/-- what relaxAll leaves: closed; by which pipes, with ranks -/
def RXE (N : NT) (fi : Nat → Int) (σ : Int) (n : Nat) (f0 vi0 f vi : Nat → Int) : Prop := CLO (RSA N fi σ) f ∧ (∀ v, v < n → f v ≤ f0 v ∧ (f v = FRq ∨ (f v < 9000000000000000 ∧ -32000000 ≤ f v ∧ f v ≤ 31000000)) ∧ (f v = f0 v → vi v = vi0 v) ∧ (f v ≠ f0 v → VIO N fi σ (vi v) v)) ∧
  ∃ r : Nat → Nat, (∀ v, v < 32 → r v < 32) ∧ ∀ v, v < n → f v ≠ f0 v → f v < 9000000000000000 → pdN N vi v < n ∧ f (pdN N vi v) < 9000000000000000 ∧ r (pdN N vi v) < r v ∧ f (pdN N vi v) + wtN N vi v = f v
theorem rxe_i {N : NT} {fi : Nat → Int} {σ : Int} {n r : Nat} {pi f0 vi0 f vi : Nat → Int} {z : Int} (hp : PB2 pi 32000000) (hf : FE (RSA N fi σ) pi) (hN : NOK N n) (h0 : IN0 n f0) (h : RXI N fi σ n pi f0 vi0 f vi r z) (he : z = 0 ∨ n < r) : RXE N fi σ n f0 vi0 f vi := by
  have cl := rxi_e hp hf hN h0 h he
  obtain ⟨h1, -, -, -⟩ := h
  have n32 := hN.1
  refine ⟨cl, fun v hv => ⟨(h1.2 v hv).1, bfk_b hp hN h1 hv, (h1.2 v hv).2.2⟩, ?_⟩
  obtain ⟨r, r1, r2⟩ := bi_rank hf h1.1
  refine ⟨r, r1, fun v hv hc hq => ?_⟩
  have ev := pqn_i (f := f) hv
  have e0 := pqn_i (f := f0) hv
  obtain ⟨a1, a2, a3, a4, a5⟩ := r2 v (by omega) (by rw [ev]; exact hq) (by rw [ev, e0]; exact hc)
  obtain ⟨b1, b2⟩ := pqn_f a3
  rw [b2] at a3 a5
  rw [ev] at a5
  have c := cl _ _ _ a2 a3
  exact ⟨b1, a3, a4, by omega⟩
end
section
/-! THE CLASS'S PIPES -/
def netC (s : GS) : NT := ((s.2.2.1 65 8).toNatClampNeg, fun e => (s.1 69 e).toNatClampNeg, fun e => (s.1 70 e).toNatClampNeg, fun e => (s.1 71 e).toInt, fun e => (s.1 72 e).toInt)
def fiC (s : GS) (e : Nat) : Int := (s.1 73 e).toInt
def exC (s : GS) (v : Nat) : Int := (s.1 74 v).toInt
def faC (s : GS) (v : Nat) : Int := (s.2.1 75 v).toInt
def viC (s : GS) (v : Nat) : Int := (s.1 68 v).toInt
def QNT (F : FM) : Bool := qI F.1 69 && (qI F.1 70 && (qI F.1 71 && (qI F.1 72 && qF F.2.2.1 65 8)))
theorem net_fr {s t : GS} {F : FM} (hF : Fr F s t) (hk : QNT F = true) : netC t = netC s := by
  simp only [QNT, Bool.and_eq_true] at hk
  obtain ⟨a, b, c, d, e⟩ := hk
  unfold netC
  rw [hF.1 69 a, hF.1 70 b, hF.1 71 c, hF.1 72 d, hF.2.2.1 65 8 e]
theorem fi_fr {s t : GS} {F : FM} (hF : Fr F s t) (hk : qI F.1 73 = true) : fiC t = fiC s := by funext e; unfold fiC; rw [hF.1 73 hk]
theorem ex_fr {s t : GS} {F : FM} (hF : Fr F s t) (hk : qI F.1 74 = true) : exC t = exC s := by funext e; unfold exC; rw [hF.1 74 hk]
theorem sL_qn {s : GS} {q j : Nat} {v : Int64} : (sL s q j v).2.1 q = vp_updL (s.2.1 q) j v := by
  show (if q = q then vp_updL (s.2.1 q) j v else s.2.1 q) = _
  rw [if_pos rfl]
theorem isb_v {x y z : Int32} (e : z = x - y) (h1 : -2147483648 ≤ x.toInt - y.toInt) (h2 : x.toInt - y.toInt ≤ 2147483647) : z.toInt = x.toInt - y.toInt := by
  rw [e, Int32.toInt_sub]
  exact Int.bmod_eq_of_le (by omega) (by omega)
theorem iad_v {x y z : Int32} (e : z = x + y) (h1 : -2147483648 ≤ x.toInt + y.toInt) (h2 : x.toInt + y.toInt ≤ 2147483647) : z.toInt = x.toInt + y.toInt := by
  rw [e, Int32.toInt_add]
  exact Int.bmod_eq_of_le (by omega) (by omega)
theorem lFA : (Int64.ofInt 9223372036854775807).toInt = FRq := rfl
theorem or01 {x y z : Int32} (h : x = y ||| z) (hy : In y 0 1) (hz : In z 0 1) : x.toInt = 0 ↔ y.toInt = 0 ∧ z.toInt = 0 := by
  have two : ∀ u : Int32, In u 0 1 → u = Int32.ofInt 0 ∨ u = Int32.ofInt 1 := by
    intro u hu
    obtain ⟨p, q⟩ := hu
    by_cases c : u.toInt = 0
    · exact Or.inl (Int32.toInt_inj.mp c)
    · exact Or.inr (Int32.toInt_inj.mp (show u.toInt = 1 by omega))
  rw [h]
  rcases two y hy with a | a <;> rcases two z hz with b | b <;> rw [a, b] <;> decide
theorem i_n320 {u : Int32} (hu : In u 0 319) : ∃ k : Nat, k < 320 ∧ u = Int32.ofNat k ∧ u.toInt = (k : Int) := by
  obtain ⟨h1, h2⟩ := hu
  refine ⟨u.toInt.toNat, by omega, ?_, by omega⟩
  exact Int32.toInt_inj.mp (by rw [Int32.toInt_ofNat_of_lt (by omega)]; omega)
theorem shan_a : ∀ k : Fin 320, (Int32.ofNat k.val >>> (Int32.ofInt 1 &&& 31) : Int32).toInt = ((k.val / 2 : Nat) : Int) ∧ (Int32.ofNat k.val &&& Int32.ofInt 1 : Int32).toInt = ((k.val % 2 : Nat) : Int) := by decide +kernel
theorem shan {u a b : Int32} (hu : In u 0 319) (ea : a = u >>> (Int32.ofInt 1 &&& 31)) (eb : b = u &&& Int32.ofInt 1) : a.toInt = u.toInt / 2 ∧ b.toInt = u.toInt % 2 := by
  obtain ⟨k, k1, k2, k3⟩ := i_n320 hu
  have h := shan_a ⟨k, k1⟩
  dsimp only at h
  rw [← k2] at h
  rw [ea, eb, k3, h.1, h.2]
  exact ⟨by omega, by omega⟩
/-! relaxPipe -/
def BDE (x : Int) : Prop := x = FRq ∨ (-1000000000000 ≤ x ∧ x ≤ 1000000000000)
def RPX (s : GS) (e : Nat) : Prop := BDE (faC s ((netC s).2.1 e)) ∧ BDE (faC s ((netC s).2.2.1 e)) ∧ 0 ≤ fiC s e ∧ fiC s e ≤ 1000000
theorem nt_fv {s : GS} {x : Nat} {a b c : Int64} {w : Int32} (h : BDE (faC s x)) (ea : a = s.2.1 75 x) (hne : faC s x ≠ FRq) (iw : In w (-1000000) 1000000) (eb : b = w.toInt64) (ec : c = a + b) : c.toInt = faC s x + w.toInt := by
  have l := u_i2l eb
  have ha : a.toInt = faC s x := by rw [ea]; rfl
  unfold In at iw
  rcases h with h | h
  · exact absurd h hne
  · have v := ladd_t ec (by rw [l, ha]; omega) (by rw [l, ha]; omega)
    rw [v, l, ha]
theorem nt_bv {s : GS} {x : Nat} {a b c : Int64} {w : Int32} (h : BDE (faC s x)) (ea : a = s.2.1 75 x) (hne : faC s x ≠ FRq) (iw : In w (-1000000) 1000000) (eb : b = w.toInt64) (ec : c = a - b) : c.toInt = faC s x + -w.toInt := by
  have l := u_i2l eb
  have ha : a.toInt = faC s x := by rw [ea]; rfl
  unfold In at iw
  rcases h with h | h
  · exact absurd h hne
  · have v := lsub_t ec (by rw [l, ha]; omega) (by rw [l, ha]; omega)
    rw [v, l, ha]
    omega
theorem fa_ne {s : GS} {x : Nat} {a : Int64} (ea : a = s.2.1 75 x) (h : a.toInt ≠ (Int64.ofInt 9223372036854775807).toInt) : faC s x ≠ FRq := by
  intro c
  apply h
  rw [ea, lFA]
  exact c
section RPL
variable {s : GS} {e : Nat} {t h w a b z : Int32} {σ : Int} {f g k l m : Int64}
theorem room_v (ea : a = s.1 72 e) (eb : b = s.1 73 e) (ez : z = a - b) (ia : In a 0 1000000) (hx : RPX s e) : z.toInt = (netC s).2.2.2.2 e - fiC s e := by
  have h1 := hx.2.2
  have e1 : (netC s).2.2.2.2 e = a.toInt := by rw [ea]; rfl
  have e2 : fiC s e = b.toInt := by rw [eb]; rfl
  rw [e2] at h1
  unfold In at ia
  rw [e1, e2]
  exact isb_v ez (by omega) (by omega)
theorem fwn_1 (ea : a = s.1 72 e) (eb : b = s.1 73 e) (ez : z = a - b) (ia : In a 0 1000000) (hx : RPX s e) (c : z.toInt < σ) : FWN (netC s) (fiC s) σ (faC s) e := by
  intro q
  have v := room_v ea eb ez ia hx
  omega
theorem fwn_2 (et : t = s.1 69 e) (ef : f = s.2.1 75 t.toNatClampNeg) (c : f.toInt = (Int64.ofInt 9223372036854775807).toInt) : FWN (netC s) (fiC s) σ (faC s) e := by
  intro _ q
  exfalso
  apply q
  show (s.2.1 75 (s.1 69 e).toNatClampNeg).toInt = FRq
  rw [← et, ← ef, c]
  rfl
theorem fwn_3 (hx : RPX s e) (et : t = s.1 69 e) (eh : h = s.1 70 e) (ew : w = s.1 71 e) (iw : In w (-1000000) 1000000) (ef : f = s.2.1 75 t.toNatClampNeg) (ek : k = w.toInt64) (el : l = f + k) (eg : g = s.2.1 75 h.toNatClampNeg) (c : g.toInt ≤ l.toInt) : FWN (netC s) (fiC s) σ (faC s) e := by
  intro _ q
  have e1 : (netC s).2.1 e = t.toNatClampNeg := by rw [et]; rfl
  have e2 : (netC s).2.2.1 e = h.toNatClampNeg := by rw [eh]; rfl
  have e3 : (netC s).2.2.2.1 e = w.toInt := by rw [ew]; rfl
  have b1 := hx.1
  rw [e1] at b1 q
  have v := nt_fv b1 ef q iw ek el
  have e4 : faC s h.toNatClampNeg = g.toInt := by rw [eg]; rfl
  rw [e1, e2, e3, e4]
  omega
theorem bwn_1 (eb : b = s.1 73 e) (c : b.toInt < σ) : BWN (netC s) (fiC s) σ (faC s) e := by
  intro q
  have e2 : fiC s e = b.toInt := by rw [eb]; rfl
  omega
theorem bwn_2 (eh : h = s.1 70 e) (ef : f = s.2.1 75 h.toNatClampNeg) (c : f.toInt = (Int64.ofInt 9223372036854775807).toInt) : BWN (netC s) (fiC s) σ (faC s) e := by
  intro _ q
  exfalso
  apply q
  show (s.2.1 75 (s.1 70 e).toNatClampNeg).toInt = FRq
  rw [← eh, ← ef, c]
  rfl
theorem bwn_3 (hx : RPX s e) (et : t = s.1 69 e) (eh : h = s.1 70 e) (ew : w = s.1 71 e) (iw : In w (-1000000) 1000000) (ef : f = s.2.1 75 h.toNatClampNeg) (ek : k = w.toInt64) (el : l = f - k) (eg : g = s.2.1 75 t.toNatClampNeg) (c : g.toInt ≤ l.toInt) : BWN (netC s) (fiC s) σ (faC s) e := by
  intro _ q
  have e1 : (netC s).2.1 e = t.toNatClampNeg := by rw [et]; rfl
  have e2 : (netC s).2.2.1 e = h.toNatClampNeg := by rw [eh]; rfl
  have e3 : (netC s).2.2.2.1 e = w.toInt := by rw [ew]; rfl
  have b1 := hx.2.1
  rw [e2] at b1 q
  have v := nt_bv b1 ef q iw ek el
  have e4 : faC s t.toNatClampNeg = g.toInt := by rw [eg]; rfl
  rw [e1, e2, e3, e4]
  omega
theorem rls_i {T : GS} {u v : Nat} {c : Int32} {W K : Int} {x : Int64} (h1 : T.2.1 75 = vp_updL (s.2.1 75) v x) (h2 : T.1 68 = upd (s.1 68) v c) (hu : faC s u ≠ FRq) (hx : x.toInt = faC s u + W) (hl : x.toInt < faC s v) (hc : c.toInt = K) : RLS (faC s) (viC s) (faC T) (viC T) u v W K := by
  refine ⟨hu, by omega, ?_, fun y hy => ?_, ?_, fun y hy => ?_⟩
  · show (T.2.1 75 v).toInt = _
    rw [h1, ul_eq]
    exact hx
  · show (T.2.1 75 y).toInt = (s.2.1 75 y).toInt
    rw [h1, ul_ne hy]
  · show (T.1 68 v).toInt = _
    rw [h2, up_e]
    exact hc
  · show (T.1 68 y).toInt = (s.1 68 y).toInt
    rw [h2, up_n hy]
/-- forth -/
theorem rlp_f {T : GS} {x : Int32} (hx : RPX s e) (et : t = s.1 69 e) (eh : h = s.1 70 e) (ew : w = s.1 71 e) (iw : In w (-1000000) 1000000) (ea : a = s.1 72 e) (eb : b = s.1 73 e) (ez : z = a - b) (ia : In a 0 1000000) (c : σ ≤ z.toInt) (ef : f = s.2.1 75 t.toNatClampNeg) (cf : f.toInt ≠ (Int64.ofInt 9223372036854775807).toInt) {f2 : Int64} (ef2 : f2 = s.2.1 75 t.toNatClampNeg) (ek : k = w.toInt64) (el : l = f2 + k) (eg : g = s.2.1 75 h.toNatClampNeg) (cl : l.toInt < g.toInt)
    {f3 k3 : Int64} (ef3 : f3 = s.2.1 75 t.toNatClampNeg) (ek3 : k3 = w.toInt64) (el3 : m = f3 + k3) (h1 : T.2.1 75 = vp_updL (s.2.1 75) h.toNatClampNeg m) (h2 : T.1 68 = upd (s.1 68) h.toNatClampNeg x) (hk : x.toInt = 2 * (e : Int)) : RLP (netC s) (fiC s) σ e (faC s) (viC s) (faC T) (viC T) 1 := by
  have e1 : (netC s).2.1 e = t.toNatClampNeg := by rw [et]; rfl
  have e2 : (netC s).2.2.1 e = h.toNatClampNeg := by rw [eh]; rfl
  have e3 : (netC s).2.2.2.1 e = w.toInt := by rw [ew]; rfl
  have ml : m = l := by rw [el3, el, ef3, ef2, ek3, ek]
  have b1 := hx.1
  rw [e1] at b1
  have nf := fa_ne ef cf
  have v := nt_fv b1 ef2 nf iw ek el
  have e4 : faC s h.toNatClampNeg = g.toInt := by rw [eg]; rfl
  have rv := room_v ea eb ez ia hx
  refine Or.inr (Or.inl ⟨rfl, ?_, by omega⟩)
  rw [e1, e2, e3]
  exact rls_i h1 h2 nf (by rw [ml]; exact v) (by rw [ml, e4]; exact cl) hk
theorem rlp_b {T : GS} {x : Int32} (hx : RPX s e) (hn : FWN (netC s) (fiC s) σ (faC s) e) (et : t = s.1 69 e) (eh : h = s.1 70 e) (ew : w = s.1 71 e) (iw : In w (-1000000) 1000000) (eb : b = s.1 73 e) (c : σ ≤ b.toInt) (ef : f = s.2.1 75 h.toNatClampNeg) (cf : f.toInt ≠ (Int64.ofInt 9223372036854775807).toInt) {f2 : Int64} (ef2 : f2 = s.2.1 75 h.toNatClampNeg) (ek : k = w.toInt64) (el : l = f2 - k) (eg : g = s.2.1 75 t.toNatClampNeg) (cl : l.toInt < g.toInt)
    {f3 k3 : Int64} (ef3 : f3 = s.2.1 75 h.toNatClampNeg) (ek3 : k3 = w.toInt64) (el3 : m = f3 - k3) (h1 : T.2.1 75 = vp_updL (s.2.1 75) t.toNatClampNeg m) (h2 : T.1 68 = upd (s.1 68) t.toNatClampNeg x) (hk : x.toInt = 2 * (e : Int) + 1) : RLP (netC s) (fiC s) σ e (faC s) (viC s) (faC T) (viC T) 1 := by
  have e1 : (netC s).2.1 e = t.toNatClampNeg := by rw [et]; rfl
  have e2 : (netC s).2.2.1 e = h.toNatClampNeg := by rw [eh]; rfl
  have e3 : (netC s).2.2.2.1 e = w.toInt := by rw [ew]; rfl
  have ml : m = l := by rw [el3, el, ef3, ef2, ek3, ek]
  have b1 := hx.2.1
  rw [e2] at b1
  have nf := fa_ne ef cf
  have v := nt_bv b1 ef2 nf iw ek el
  have e4 : faC s t.toNatClampNeg = g.toInt := by rw [eg]; rfl
  have e5 : fiC s e = b.toInt := by rw [eb]; rfl
  refine Or.inr (Or.inr ⟨rfl, ?_, by omega, hn⟩)
  rw [e1, e2, e3]
  exact rls_i h1 h2 nf (by rw [ml]; exact v) (by rw [ml, e4]; exact cl) hk
theorem rlp_n (h1 : FWN (netC s) (fiC s) σ (faC s) e) (h2 : BWN (netC s) (fiC s) σ (faC s) e) : RLP (netC s) (fiC s) σ e (faC s) (viC s) (faC s) (viC s) 0 := Or.inl ⟨rfl, rfl, rfl, h1, h2⟩
end RPL
/-! relaxAll -/
def RXP (s : GS) (σ : Int) (n : Nat) : Prop := NOK (netC s) n ∧ FOK (netC s) (fiC s) ∧ IN0 n (faC s) ∧ ∃ pi : Nat → Int, FE (RSA (netC s) (fiC s) σ) pi
noncomputable def piN (s : GS) (σ : Int) : Nat → Int := Classical.epsilon (fun q : Nat → Int => (∀ v, v < 32 → 0 ≤ q v ∧ q v ≤ 32000000) ∧ FE (RSA (netC s) (fiC s) σ) q)
theorem piN_ok {s : GS} {σ : Int} {n : Nat} (h : RXP s σ n) : PB2 (piN s σ) 32000000 ∧ FE (RSA (netC s) (fiC s) σ) (piN s σ) := by
  obtain ⟨hN, -, -, pi, hf⟩ := h
  have a : (∀ v, v < 32 → 0 ≤ piN s σ v ∧ piN s σ v ≤ 32000000) ∧ FE (RSA (netC s) (fiC s) σ) (piN s σ) := Classical.epsilon_spec (squeezeI (rsa_b hN) hf)
  exact ⟨⟨a.1, by omega, by omega⟩, a.2⟩
/-- what relaxPipe wants -/
theorem rxj_x {s T : GS} {σ y : Int} {n e : Nat} {O : Nat → Int} (hP : RXP s σ n) (hN : netC T = netC s) (hf : fiC T = fiC s) (h : RXJ (netC s) (fiC s) σ n (piN s σ) (faC s) (viC s) O (faC T) (viC T) e y) (he : e < (netC s).1) : RPX T e := by
  have ok := piN_ok hP
  obtain ⟨t1, t2, -⟩ := hP.1.2 e he
  have g := hP.2.1 e he
  have bd : ∀ v, v < n → BDE (faC T v) := by
    intro v hv
    rcases bfk_b ok.1 hP.1 h.1 hv with a | a
    · exact Or.inl a
    · exact Or.inr ⟨by omega, by omega⟩
  unfold RPX
  rw [hN, hf]
  exact ⟨bd _ t1, bd _ t2, g.1, by omega⟩
theorem rxj_w {N : NT} {fi : Nat → Int} {σ : Int} {n e : Nat} {pi f0 vi0 O f vi : Nat → Int} {z : Int} (h : RXJ N fi σ n pi f0 vi0 O f vi e z) (he : N.1 ≤ e) : RXJ N fi σ n pi f0 vi0 O f vi N.1 z := ⟨h.1, h.2.1, fun d hd => h.2.2.1 d (by omega), h.2.2.2⟩
/-! nearestLack -/
def NLI (ex : Nat → Int) (σ : Int) (f vi : Nat → Int) (k : Nat) : Prop := ∀ v, v < k → (σ ≤ ex v → f v = 0) ∧ (¬ σ ≤ ex v → f v = FRq) ∧ vi v = -1
theorem nli_s {ex f vi f2 vi2 : Nat → Int} {σ : Int} {k : Nat} (h : NLI ex σ f vi k) (h1 : (σ ≤ ex k → f2 k = 0) ∧ (¬ σ ≤ ex k → f2 k = FRq)) (h2 : vi2 k = -1) (h3 : ∀ v, v ≠ k → f2 v = f v ∧ vi2 v = vi v) : NLI ex σ f2 vi2 (k + 1) := by
  intro v hv
  by_cases c : v = k
  · rw [c]; exact ⟨h1.1, h1.2, h2⟩
  · rw [(h3 v c).1, (h3 v c).2]
    exact h v (by omega)
theorem nli_u {s T : GS} {x : Int64} {k : Nat} (h1 : T.2.1 75 = vp_updL (s.2.1 75) k x) (h2 : T.1 68 = upd (s.1 68) k (Int32.ofInt (-1))) : (faC T k = x.toInt ∧ viC T k = -1) ∧ ∀ v, v ≠ k → faC T v = faC s v ∧ viC T v = viC s v := by
  unfold faC viC
  rw [h1, h2, ul_eq, up_e]
  exact ⟨⟨rfl, rfl⟩, fun v hv => ⟨by rw [ul_ne hv], by rw [up_n hv]⟩⟩
theorem nli_0 {ex f vi : Nat → Int} {σ : Int} {n : Nat} (h : NLI ex σ f vi n) : IN0 n f := by
  intro v hv
  by_cases c : σ ≤ ex v
  · exact Or.inl ((h v hv).1 c)
  · exact Or.inr ((h v hv).2.1 c)
/-- what is known behind it: r the ranks -/
def NLF (N : NT) (fi : Nat → Int) (σ : Int) (n : Nat) (ex f vi : Nat → Int) (r : Nat → Nat) : Prop := CLO (RSA N fi σ) f ∧ (∀ v, v < 32 → r v < 32) ∧ (∀ v, v < n → σ ≤ ex v → f v ≤ 0) ∧
  ∀ v, v < n → f v = FRq ∨ (f v < 9000000000000000 ∧ -32000000 ≤ f v ∧ f v ≤ 31000000 ∧ ((vi v = -1 ∧ σ ≤ ex v ∧ f v = 0) ∨ (VIO N fi σ (vi v) v ∧ pdN N vi v < n ∧ f (pdN N vi v) < 9000000000000000 ∧ r (pdN N vi v) < r v ∧ f (pdN N vi v) + wtN N vi v = f v)))
theorem nlf_i {N : NT} {fi : Nat → Int} {σ : Int} {n : Nat} {ex f0 vi0 f vi : Nat → Int} (h0 : NLI ex σ f0 vi0 n) (h : RXE N fi σ n f0 vi0 f vi) : ∃ r : Nat → Nat, NLF N fi σ n ex f vi r := by
  obtain ⟨h1, h2, r, r1, r2⟩ := h
  refine ⟨r, h1, r1, fun v hv hs => ?_, fun v hv => ?_⟩
  · have a := (h2 v hv).1
    rw [(h0 v hv).1 hs] at a
    exact a
  · obtain ⟨a1, a2, a3, a4⟩ := h2 v hv
    rcases a2 with a2 | ⟨b1, b2, b3⟩
    · exact Or.inl a2
    · refine Or.inr ⟨b1, b2, b3, ?_⟩
      by_cases c : f v = f0 v
      · left
        have d := h0 v hv
        by_cases q : σ ≤ ex v
        · exact ⟨(a3 c).trans d.2.2, q, c.trans (d.1 q)⟩
        · have := d.2.1 q
          unfold FRq at this
          omega
      · right
        exact ⟨a4 c, r2 v hv c b1⟩
/-- the best so far -/
def NBT (ex f : Nat → Int) (σ : Int) (k : Nat) (b : Int) : Prop := (b = -1 ∧ ∀ v, v < k → ex v ≤ -σ → f v = FRq) ∨ (0 ≤ b ∧ b.toNat < k ∧ ex b.toNat ≤ -σ ∧ f b.toNat ≠ FRq ∧ ∀ v, v < k → ex v ≤ -σ → f v ≠ FRq → f b.toNat ≤ f v)
theorem nbt_0 {ex f : Nat → Int} {σ : Int} : NBT ex f σ 0 (-1) := Or.inl ⟨rfl, fun v hv => absurd hv (Nat.not_lt_zero v)⟩
theorem nbt_n {ex f : Nat → Int} {σ b : Int} {k : Nat} (h : NBT ex f σ k b) (hk : ex k ≤ -σ → f k ≠ FRq → 0 ≤ b ∧ f b.toNat ≤ f k) : NBT ex f σ (k + 1) b := by
  rcases h with ⟨h1, h2⟩ | ⟨h1, h2, h3, h4, h5⟩
  · refine Or.inl ⟨h1, fun v hv hx => ?_⟩
    by_cases c : v = k
    · rw [c] at hx ⊢
      by_cases q : f k = FRq
      · exact q
      · have := hk hx q
        omega
    · exact h2 v (by omega) hx
  · refine Or.inr ⟨h1, by omega, h3, h4, fun v hv hx hq => ?_⟩
    by_cases c : v = k
    · rw [c] at hx hq ⊢
      exact (hk hx hq).2
    · exact h5 v (by omega) hx hq
theorem nbt_y {ex f : Nat → Int} {σ b c : Int} {k : Nat} (h : NBT ex f σ k b) (hc : c = (k : Int)) (h1 : ex k ≤ -σ) (h2 : f k ≠ FRq) (h3 : b = -1 ∨ f k < f b.toNat) : NBT ex f σ (k + 1) c := by
  have ec : c.toNat = k := by omega
  refine Or.inr ⟨by omega, by omega, by rw [ec]; exact h1, by rw [ec]; exact h2, fun v hv hx hq => ?_⟩
  rw [ec]
  by_cases d : v = k
  · rw [d]; exact Int.le_refl _
  · rcases h with ⟨g1, g2⟩ | ⟨g1, g2, g3, g4, g5⟩
    · exact absurd (g2 v (by omega) hx) hq
    · have a := g5 v (by omega) hx hq
      rcases h3 with h3 | h3
      · omega
      · omega
/-! carryTo -/
def CTP (σ : Int) (n : Nat) (r : Nat → Nat) (s : GS) (g : Nat) : Prop := 0 < σ ∧ NOK (netC s) n ∧ FOK (netC s) (fiC s) ∧ NLF (netC s) (fiC s) σ n (exC s) (faC s) (viC s) r ∧ g < n ∧ exC s g ≤ -σ ∧ faC s g < 9000000000000000 ∧ (∀ v, v < n → -1000000000 ≤ exC s v ∧ exC s v ≤ 1000000000)
def pth (N : NT) (vi : Nat → Int) (g : Nat) : Nat → Nat
  | 0 => g
  | i + 1 => pdN N vi (pth N vi g i)
def rsN (N : NT) (fi vi : Nat → Int) (v : Nat) : Int := if vi v % 2 = 0 then N.2.2.2.2 (vi v / 2).toNat - fi (vi v / 2).toNat else fi (vi v / 2).toNat
/-- the way back: i steps of it, at most m can be carried -/
def CWB (N : NT) (fi vi : Nat → Int) (g i : Nat) (m : Int) : Prop := ∀ j, j < i → vi (pth N vi g j) ≠ -1 ∧ m ≤ rsN N fi vi (pth N vi g j)
def CTA (σ : Int) (n : Nat) (r : Nat → Nat) (s : GS) (g v i : Nat) (m : Int) : Prop := v = pth (netC s) (viC s) g i ∧ v < n ∧ faC s v < 9000000000000000 ∧ i + r v ≤ r g ∧ σ ≤ m ∧ m ≤ -exC s g ∧ CWB (netC s) (fiC s) (viC s) g i m
theorem cta_0 {σ : Int} {n : Nat} {r : Nat → Nat} {s : GS} {g : Nat} {m : Int} (h : CTP σ n r s g) (hm : m = -exC s g) : CTA σ n r s g g 0 m := by
  obtain ⟨h1, h2, h3, h4, h5, h6, h7, h8⟩ := h
  exact ⟨rfl, h5, h7, by omega, by omega, by omega, fun j hj => absurd hj (Nat.not_lt_zero j)⟩
/-- the pipe by which v was come to -/
theorem ctp_v {σ : Int} {n : Nat} {r : Nat → Nat} {s : GS} {g v : Nat} (h : CTP σ n r s g) (hv : v < n) (hf : faC s v < 9000000000000000) (hq : viC s v ≠ -1) : VIO (netC s) (fiC s) σ (viC s v) v ∧ pdN (netC s) (viC s) v < n ∧ faC s (pdN (netC s) (viC s) v) < 9000000000000000 ∧ r (pdN (netC s) (viC s) v) < r v ∧ faC s (pdN (netC s) (viC s) v) + wtN (netC s) (viC s) v = faC s v := by
  obtain ⟨h1, h2, h3, h4, -⟩ := h
  rcases h4.2.2.2 v hv with a | ⟨a1, a2, a3, a4⟩
  · unfold FRq at a; omega
  · rcases a4 with a4 | a4
    · exact absurd a4.1 hq
    · exact a4
theorem vio_r {N : NT} {fi vi : Nat → Int} {σ : Int} {v : Nat} (h : VIO N fi σ (vi v) v) : σ ≤ rsN N fi vi v ∧ 0 ≤ vi v ∧ (vi v / 2).toNat < N.1 ∧ ((vi v % 2 = 0 ∧ N.2.2.1 (vi v / 2).toNat = v ∧ pdN N vi v = N.2.1 (vi v / 2).toNat ∧ wtN N vi v = N.2.2.2.1 (vi v / 2).toNat ∧ rsN N fi vi v = N.2.2.2.2 (vi v / 2).toNat - fi (vi v / 2).toNat) ∨ (¬ vi v % 2 = 0 ∧ N.2.1 (vi v / 2).toNat = v ∧ pdN N vi v = N.2.2.1 (vi v / 2).toNat ∧ wtN N vi v = -(N.2.2.2.1 (vi v / 2).toNat) ∧ rsN N fi vi v = fi (vi v / 2).toNat)) := by
  obtain ⟨e, he, h⟩ := h
  unfold rsN pdN wtN
  rcases h with ⟨a, b, c⟩ | ⟨a, b, c⟩
  · have k0 : vi v % 2 = 0 := by omega
    have k1 : (vi v / 2).toNat = e := by omega
    rw [if_pos k0, if_pos k0, if_pos k0, k1]
    exact ⟨c, by omega, he, Or.inl ⟨k0, b, rfl, rfl, rfl⟩⟩
  · have k0 : ¬ vi v % 2 = 0 := by omega
    have k1 : (vi v / 2).toNat = e := by omega
    rw [if_neg k0, if_neg k0, if_neg k0, k1]
    exact ⟨c, by omega, he, Or.inr ⟨k0, b, rfl, rfl, rfl⟩⟩
theorem cta_s {σ : Int} {n : Nat} {r : Nat → Nat} {s : GS} {g v i v2 : Nat} {m m2 : Int} (h : CTP σ n r s g) (ha : CTA σ n r s g v i m) (hq : viC s v ≠ -1) (hv2 : v2 = pdN (netC s) (viC s) v) (hm : m2 ≤ m ∧ m2 ≤ rsN (netC s) (fiC s) (viC s) v ∧ (m2 = m ∨ m2 = rsN (netC s) (fiC s) (viC s) v)) : CTA σ n r s g v2 (i + 1) m2 := by
  obtain ⟨a1, a2, a3, a4, a5, a6, a7⟩ := ha
  obtain ⟨b1, b2, b3, b4, b5⟩ := ctp_v h a2 a3 hq
  have c := (vio_r b1).1
  rw [hv2]
  refine ⟨by rw [a1]; rfl, b2, b3, by omega, by rcases hm.2.2 with q | q <;> omega, by omega, fun j hj => ?_⟩
  by_cases d : j = i
  · rw [d, ← a1]; exact ⟨hq, hm.2.1⟩
  · have := a7 j (by omega)
    exact ⟨this.1, by omega⟩
/-- the way's end -/
theorem cta_e {σ : Int} {n : Nat} {r : Nat → Nat} {s : GS} {g v i : Nat} {m : Int} (h : CTP σ n r s g) (ha : CTA σ n r s g v i m) (hq : viC s v = -1 ∨ 32 ≤ i) : viC s v = -1 ∧ σ ≤ exC s v ∧ faC s v = 0 := by
  obtain ⟨a1, a2, a3, a4, a5, a6, a7⟩ := ha
  obtain ⟨h1, h2, h3, h4, h5, h6, h7, h8⟩ := h
  have hq2 : viC s v = -1 := by
    rcases hq with q | q
    · exact q
    · have b := h4.2.1 g (by have := h2.1; omega)
      omega
  rcases h4.2.2.2 v a2 with a | ⟨b1, b2, b3, b4⟩
  · unfold FRq at a; omega
  · rcases b4 with b4 | b4
    · exact ⟨hq2, b4.2⟩
    · have c := (vio_r b4.1).2.1
      omega
/-- behind v the carrying is done; o is the way's end, k its steps -/
def CTB (σ : Int) (n : Nat) (r : Nat → Nat) (s t : GS) (g o k v i : Nat) (m : Int) : Prop := CTA σ n r s g v i σ ∧ FOK (netC s) (fiC t) ∧ (∀ e, e < (netC s).1 → fiC t e = fiC s e ∨ (faC s ((netC s).2.2.1 e) = faC s ((netC s).2.1 e) + (netC s).2.2.2.1 e ∧ faC s ((netC s).2.2.1 e) < 9000000000000000 ∧ faC s ((netC s).2.1 e) < 9000000000000000 ∧ ∀ pi : Nat → Int, FE (RSA (netC s) (fiC s) σ) pi → faC s ((netC s).2.2.1 e) - pi ((netC s).2.2.1 e) ≤ faC s g - pi g ∧ faC s ((netC s).2.1 e) - pi ((netC s).2.1 e) ≤ faC s g - pi g)) ∧
  (∀ pi : Nat → Int, FE (RSA (netC s) (fiC s) σ) pi → faC s v - pi v ≤ faC s g - pi g) ∧ (∀ x, x < n → r x ≤ r v → faC s x < 9000000000000000 → viC s x ≠ -1 → fiC t (viC s x / 2).toNat = fiC s (viC s x / 2).toNat) ∧
  (∀ w, w < 32 → exC t w - dvN (netC s).2.1 (netC s).2.2.1 (fiC t) (netC s).1 w = exC s w - dvN (netC s).2.1 (netC s).2.2.1 (fiC s) (netC s).1 w + m * dl v w - m * dl o w)
def CTE (σ : Int) (n : Nat) (r : Nat → Nat) (s : GS) (g o k : Nat) (m : Int) : Prop := CTA σ n r s g o k m ∧ viC s o = -1 ∧ σ ≤ exC s o ∧ faC s o = 0 ∧ m ≤ exC s o
theorem cte_i {σ : Int} {n : Nat} {r : Nat → Nat} {s : GS} {g v i : Nat} {m m2 : Int} (h : CTP σ n r s g) (ha : CTA σ n r s g v i m) (hq : viC s v = -1 ∨ 32 ≤ i) (hm : m2 ≤ m ∧ m2 ≤ exC s v ∧ (m2 = m ∨ m2 = exC s v)) : CTE σ n r s g v i m2 := by
  have b := cta_e h ha hq
  obtain ⟨a1, a2, a3, a4, a5, a6, a7⟩ := ha
  exact ⟨⟨a1, a2, a3, a4, by rcases hm.2.2 with q | q <;> omega, by omega, fun j hj => ⟨(a7 j hj).1, by have := (a7 j hj).2; omega⟩⟩, b.1, b.2.1, b.2.2, hm.2.1⟩
theorem ctb_0 {σ : Int} {n : Nat} {r : Nat → Nat} {s t : GS} {g o k : Nat} {m : Int} (h : CTP σ n r s g) (he : CTE σ n r s g o k m) (hf : fiC t = fiC s) (hx : ∀ w, w < 32 → exC t w = exC s w + m * dl g w - m * dl o w) : CTB σ n r s t g o k g 0 m := by
  refine ⟨?_, by rw [hf]; exact h.2.2.1, fun e _ => Or.inl (by rw [hf]), fun pi _ => Int.le_refl _, fun x _ _ _ _ => by rw [hf], fun w hw => ?_⟩
  · obtain ⟨h1, h2, h3, h4, h5, h6, h7, h8⟩ := h
    exact ⟨rfl, h5, h7, by omega, Int.le_refl _, by omega, fun j hj => absurd hj (Nat.not_lt_zero j)⟩
  · rw [hf, hx w hw]
    omega
/-- both ways end at the same node -/
theorem pth_e {N : NT} {fi vi : Nat → Int} {g i k : Nat} {m m2 : Int} (h1 : CWB N fi vi g i m) (h2 : CWB N fi vi g k m2) (e1 : vi (pth N vi g i) = -1) (e2 : vi (pth N vi g k) = -1) : i = k := by
  rcases Nat.lt_trichotomy i k with c | c | c
  · exact absurd e1 (h2 i c).1
  · exact c
  · exact absurd e2 (h1 k c).1
theorem dv_up {tl hd : Nat → Nat} {x y : Nat → Int} {e : Nat} {d : Int} {P : Nat} (he : e < P) (h1 : y e = x e + d) (h2 : ∀ k, k ≠ e → y k = x k) (w : Nat) : dvN tl hd y P w = dvN tl hd x P w + d * (dl (hd e) w - dl (tl e) w) := by
  refine sm_one (u := e) P he (fun k _ hk => ?_) ?_
  · show y k * (dl (hd k) w - dl (tl k) w) = x k * (dl (hd k) w - dl (tl k) w)
    rw [h2 k hk]
  · show y e * (dl (hd e) w - dl (tl e) w) = x e * (dl (hd e) w - dl (tl e) w) + d * (dl (hd e) w - dl (tl e) w)
    rw [h1, Int.add_mul]
theorem nt_r3 (m a b : Int) : m * (a - b) = m * a - m * b := Int.mul_sub m a b
theorem nt_r4 (m a b : Int) : (-m) * (a - b) = m * b - m * a := by rw [Int.neg_mul, Int.mul_sub]; omega
theorem ctb_s {σ : Int} {n : Nat} {r : Nat → Nat} {s t u : GS} {g o k v i v2 e : Nat} {m : Int} (h : CTP σ n r s g) (hE : CTE σ n r s g o k m) (hb : CTB σ n r s t g o k v i m) (hq : viC s v ≠ -1) (hv2 : v2 = pdN (netC s) (viC s) v) (he : e = (viC s v / 2).toNat) (hu : ∀ d, d ≠ e → fiC u d = fiC t d) (hue : fiC u e = fiC t e + (if viC s v % 2 = 0 then m else -m)) (hx : exC u = exC t) : CTB σ n r s u g o k v2 (i + 1) m := by
  obtain ⟨b1, b2, b3, b4, b5, b6⟩ := hb
  have ca := b1
  obtain ⟨a1, a2, a3, a4, a5, a6, a7⟩ := ca
  obtain ⟨c1, c2, c3, c4, c5⟩ := ctp_v h a2 a3 hq
  obtain ⟨d1, d2, d3, d4⟩ := vio_r c1
  rw [← he] at d3 d4
  have fo := h.2.2.1 e d3
  have old := b5 v a2 (Nat.le_refl _) a3 hq
  rw [← he] at old
  -- how much can be carried here
  have ik : i < k := by
    obtain ⟨e1, e2, e3, e4, e5⟩ := hE
    rcases Nat.lt_or_ge i k with c | c
    · exact c
    · exfalso
      by_cases q : i = k
      · rw [q] at a1
        rw [a1, ← e1.1] at hq
        exact hq e2
      · have z := (a7 k (by omega)).1
        rw [← e1.1] at z
        exact z e2
  have mr := (hE.1.2.2.2.2.2.2 i ik).2
  rw [← a1] at mr
  have m0 : σ ≤ m := hE.1.2.2.2.2.1
  have s0 := h.1
  have fu : 0 ≤ fiC u e ∧ fiC u e ≤ (netC s).2.2.2.2 e := by
    rw [hue, old]
    rcases d4 with ⟨p1, p2, p3, p4, p5⟩ | ⟨p1, p2, p3, p4, p5⟩
    · rw [if_pos p1]; omega
    · rw [if_neg p1]; omega
  have pot : ∀ pi : Nat → Int, FE (RSA (netC s) (fiC s) σ) pi → faC s v2 - pi v2 ≤ faC s g - pi g := by
    intro pi hf
    have z := b4 pi hf
    have ra : RSA (netC s) (fiC s) σ v2 v (wtN (netC s) (viC s) v) := by
      refine ⟨e, d3, ?_⟩
      rw [hv2]
      rcases d4 with ⟨p1, p2, p3, p4, p5⟩ | ⟨p1, p2, p3, p4, p5⟩
      · exact Or.inl ⟨p3, p2.symm, p4, by omega⟩
      · exact Or.inr ⟨p3, p2.symm, p4, by omega⟩
    have y := hf _ _ _ ra
    rw [← hv2] at c5
    omega
  rw [← hv2] at c2 c3 c4 c5
  have tig : faC s ((netC s).2.2.1 e) = faC s ((netC s).2.1 e) + (netC s).2.2.2.1 e ∧ faC s ((netC s).2.2.1 e) < 9000000000000000 ∧ faC s ((netC s).2.1 e) < 9000000000000000 ∧ ∀ pi : Nat → Int, FE (RSA (netC s) (fiC s) σ) pi → faC s ((netC s).2.2.1 e) - pi ((netC s).2.2.1 e) ≤ faC s g - pi g ∧ faC s ((netC s).2.1 e) - pi ((netC s).2.1 e) ≤ faC s g - pi g := by
    rcases d4 with ⟨p1, p2, p3, p4, p5⟩ | ⟨p1, p2, p3, p4, p5⟩
    · rw [← hv2] at p3
      rw [p2, ← p3]
      exact ⟨by omega, a3, c3, fun pi hf => ⟨b4 pi hf, pot pi hf⟩⟩
    · rw [← hv2] at p3
      rw [p2, ← p3]
      exact ⟨by omega, c3, a3, fun pi hf => ⟨pot pi hf, b4 pi hf⟩⟩
  refine ⟨⟨by rw [hv2, a1]; rfl, c2, c3, by omega, Int.le_refl _, a6, fun j hj => ?_⟩, fun d hd => ?_, fun d hd => ?_, pot, fun x hx2 hr hf hvx => ?_, fun w hw => ?_⟩
  · by_cases c : j = i
    · rw [c, ← a1]; exact ⟨hq, d1⟩
    · exact a7 j (by omega)
  · by_cases c : d = e
    · rw [c]; exact ⟨fu.1, fu.2, fo.2.2⟩
    · rw [hu d c]; exact b2 d hd
  · by_cases c : d = e
    · rw [c]; exact Or.inr tig
    · rw [hu d c]; exact b3 d hd
  · have ne : (viC s x / 2).toNat ≠ e := by
      intro c
      obtain ⟨y1, y2, y3, y4, y5⟩ := ctp_v h hx2 hf hvx
      obtain ⟨-, z2, z3, z4⟩ := vio_r y1
      rw [c] at z3 z4
      rcases z4 with ⟨p1, p2, p3, p4, p5⟩ | ⟨p1, p2, p3, p4, p5⟩
      · rcases d4 with ⟨q1, q2, q3, q4, q5⟩ | ⟨q1, q2, q3, q4, q5⟩
        · rw [p2] at q2
          rw [q2] at hr
          omega
        · rw [p3, q2] at y4
          omega
      · rcases d4 with ⟨q1, q2, q3, q4, q5⟩ | ⟨q1, q2, q3, q4, q5⟩
        · rw [p3, q2] at y4
          omega
        · rw [p2] at q2
          rw [q2] at hr
          omega
    rw [hu _ ne]
    exact b5 x hx2 (by omega) hf hvx
  · have z := b6 w hw
    have dv := dv_up (tl := (netC s).2.1) (hd := (netC s).2.2.1) (x := fiC t) (y := fiC u) (P := (netC s).1) d3 hue (fun k hk => hu k hk) w
    rw [hx, dv]
    rcases d4 with ⟨p1, p2, p3, p4, p5⟩ | ⟨p1, p2, p3, p4, p5⟩
    · rw [if_pos p1, p2, ← p3, ← hv2, nt_r3]
      omega
    · rw [if_neg p1, p2, ← p3, ← hv2, nt_r4]
      omega
/-- what is carried -/
def CTO (σ : Int) (n : Nat) (s t : GS) (g : Nat) (z : Int) : Prop := ∃ (o : Nat) (m : Int), σ ≤ m ∧ o < n ∧ σ ≤ exC s o ∧ faC s o = 0 ∧ m ≤ exC s o ∧ m ≤ -exC s g ∧ z = faC s g * m ∧ (∀ pi : Nat → Int, FE (RSA (netC s) (fiC s) σ) pi → faC s o - pi o ≤ faC s g - pi g) ∧ FOK (netC s) (fiC t) ∧ (∀ w, w < 32 → exC t w = exC s w + m * dl g w - m * dl o w) ∧ (∀ w, w < 32 → exC t w - dvN (netC s).2.1 (netC s).2.2.1 (fiC t) (netC s).1 w = exC s w - dvN (netC s).2.1 (netC s).2.2.1 (fiC s) (netC s).1 w) ∧
  ∀ e, e < (netC s).1 → fiC t e = fiC s e ∨ (faC s ((netC s).2.2.1 e) = faC s ((netC s).2.1 e) + (netC s).2.2.2.1 e ∧ faC s ((netC s).2.2.1 e) < 9000000000000000 ∧ faC s ((netC s).2.1 e) < 9000000000000000 ∧ ∀ pi : Nat → Int, FE (RSA (netC s) (fiC s) σ) pi → faC s ((netC s).2.2.1 e) - pi ((netC s).2.2.1 e) ≤ faC s g - pi g ∧ faC s ((netC s).2.1 e) - pi ((netC s).2.1 e) ≤ faC s g - pi g)
theorem cto_i {σ : Int} {n : Nat} {r : Nat → Nat} {s t : GS} {g o k v i : Nat} {m z : Int} (h : CTP σ n r s g) (hE : CTE σ n r s g o k m) (hx : ∀ w, w < 32 → exC t w = exC s w + m * dl g w - m * dl o w) (hb : CTB σ n r s t g o k v i m) (hq : viC s v = -1 ∨ 32 ≤ i) (hz : z = faC s g * m) : CTO σ n s t g z := by
  obtain ⟨b1, b2, b3, b4, b5, b6⟩ := hb
  have q := (cta_e h b1 hq).1
  obtain ⟨e1, e2, e3, e4, e5⟩ := hE
  have a1 := b1.1
  have o1 := e1.1
  have ik := pth_e b1.2.2.2.2.2.2 e1.2.2.2.2.2.2 (by rw [← a1]; exact q) (by rw [← o1]; exact e2)
  have vo : v = o := by rw [a1, o1, ik]
  refine ⟨o, m, e1.2.2.2.2.1, e1.2.1, e3, e4, e5, e1.2.2.2.2.2.1, hz, fun pi hp => (by have q9 := b4 pi hp; rw [vo] at q9; exact q9), b2, hx, fun w hw => ?_, b3⟩
  have y := b6 w hw
  rw [vo] at y
  omega
/-- the potentials behind it -/
theorem cto_fe {σ C z : Int} {n : Nat} {r : Nat → Nat} {s t : GS} {g : Nat} {pi : Nat → Int} (h : CTP σ n r s g) (ho : CTO σ n s t g z) (hf : FE (RSA (netC s) (fiC s) σ) pi) (hC : faC s g - pi g ≤ C) : FE (RSA (netC s) (fiC t) σ) (fun v => if pqn n (faC s) v < 9000000000000000 ∧ pqn n (faC s) v - pi v ≤ C then pqn n (faC s) v else pi v + C) := by
  obtain ⟨h1, h2, h3, h4, h5, h6, h7, h8⟩ := h
  have cl : ∀ u v w, RSA (netC s) (fiC s) σ u v w → pqn n (faC s) u < 9000000000000000 → pqn n (faC s) v ≤ pqn n (faC s) u + w ∧ pqn n (faC s) v < 9000000000000000 := by
    intro u v w hr hu
    obtain ⟨un, vn⟩ := rsa_n h2 hr
    have wb := rsa_b h2 u v w hr
    rw [pqn_i un] at hu ⊢
    rw [pqn_i vn]
    have a := h4.1 u v w hr hu
    rcases h4.2.2.2 u un with b | b
    · unfold FRq at b; omega
    · exact ⟨a, by omega⟩
  have base := fe_min (C := C) hf cl
  obtain ⟨o, m, -, -, -, -, -, -, -, -, -, -, -, hd⟩ := ho
  intro u v w hr
  obtain ⟨e, he, hr⟩ := hr
  obtain ⟨t1, t2, -⟩ := h2.2 e he
  rcases hd e he with q | ⟨k1, k2, k3, k4⟩
  · rw [q] at hr
    exact base u v w ⟨e, he, hr⟩
  · have z := k4 pi hf
    have eh := pqn_i (f := faC s) t2
    have et := pqn_i (f := faC s) t1
    dsimp only
    rcases hr with ⟨e1, e2, e3, e4⟩ | ⟨e1, e2, e3, e4⟩
    · rw [e1, e2, e3, eh, et, if_pos ⟨k2, by omega⟩, if_pos ⟨k3, by omega⟩]
      omega
    · rw [e1, e2, e3, eh, et, if_pos ⟨k3, by omega⟩, if_pos ⟨k2, by omega⟩]
      omega
end
section
/-! STEPS OF nearestLack, carryTo -/
def NLP (s : GS) (σ : Int) (n : Nat) : Prop := NOK (netC s) n ∧ FOK (netC s) (fiC s) ∧ ∃ pi : Nat → Int, FE (RSA (netC s) (fiC s) σ) pi
theorem nlp_x {s sc : GS} {σ : Int} {n : Nat} (h : NLP s σ n) (h1 : netC sc = netC s) (h2 : fiC sc = fiC s) (h3 : IN0 n (faC sc)) : RXP sc σ n := by
  unfold RXP
  rw [h1, h2]
  exact ⟨h.1, h.2.1, h3, h.2.2⟩
theorem ineg_v {x z : Int32} (e : z = -x) (h : -2147483647 ≤ x.toInt) : z.toInt = -x.toInt := by
  have b := Int32.toInt_lt x
  have z0 : (Int32.ofInt 0).toInt = 0 := rfl
  have e2 : z = Int32.ofInt 0 - x := by rw [e]; exact (Int32.zero_sub x).symm
  have v := isb_v e2 (by rw [z0]; omega) (by rw [z0]; omega)
  rw [v, z0]
  omega
section NLS
variable {s sc : GS} {y z b : Int32} {σ : Int} {f g : Int64}
theorem nl_a (h : NLI (exC s) σ (faC sc) (viC sc) y.toNatClampNeg) (e : z = sc.1 74 y.toNatClampNeg) (hx : sc.1 74 = s.1 74) (c : z.toInt < σ) : NLI (exC s) σ (faC (sI (sL sc 75 y.toNatClampNeg (Int64.ofInt 9223372036854775807)) 68 y.toNatClampNeg (Int32.ofInt (-1)))) (viC (sI (sL sc 75 y.toNatClampNeg (Int64.ofInt 9223372036854775807)) 68 y.toNatClampNeg (Int32.ofInt (-1)))) (y.toNatClampNeg + 1) := by
  have u := nli_u (s := sc) (T := sI (sL sc 75 y.toNatClampNeg (Int64.ofInt 9223372036854775807)) 68 y.toNatClampNeg (Int32.ofInt (-1))) (x := Int64.ofInt 9223372036854775807) (k := y.toNatClampNeg) sL_qn (by rw [sI_q]; rfl)
  have ev : exC s y.toNatClampNeg = z.toInt := by rw [e, hx]; rfl
  exact nli_s h ⟨fun q => by omega, fun _ => u.1.1.trans lFA⟩ u.1.2 u.2
theorem nl_b (h : NLI (exC s) σ (faC sc) (viC sc) y.toNatClampNeg) (e : z = sc.1 74 y.toNatClampNeg) (hx : sc.1 74 = s.1 74) (c : σ ≤ z.toInt) : NLI (exC s) σ (faC (sI (sL sc 75 y.toNatClampNeg (Int64.ofInt 0)) 68 y.toNatClampNeg (Int32.ofInt (-1)))) (viC (sI (sL sc 75 y.toNatClampNeg (Int64.ofInt 0)) 68 y.toNatClampNeg (Int32.ofInt (-1)))) (y.toNatClampNeg + 1) := by
  have u := nli_u (s := sc) (T := sI (sL sc 75 y.toNatClampNeg (Int64.ofInt 0)) 68 y.toNatClampNeg (Int32.ofInt (-1))) (x := Int64.ofInt 0) (k := y.toNatClampNeg) sL_qn (by rw [sI_q]; rfl)
  have ev : exC s y.toNatClampNeg = z.toInt := by rw [e, hx]; rfl
  exact nli_s h ⟨fun _ => u.1.1.trans (show (Int64.ofInt 0).toInt = 0 from rfl), fun q => absurd (by omega) q⟩ u.1.2 u.2
theorem nb_1 (h : NBT (exC s) (faC sc) σ y.toNatClampNeg b.toInt) (e : z = sc.1 74 y.toNatClampNeg) (hx : sc.1 74 = s.1 74) (c : -σ < z.toInt) : NBT (exC s) (faC sc) σ (y.toNatClampNeg + 1) b.toInt := by
  have ev : exC s y.toNatClampNeg = z.toInt := by rw [e, hx]; rfl
  exact nbt_n h (fun q _ => by omega)
theorem nb_2 (h : NBT (exC s) (faC sc) σ y.toNatClampNeg b.toInt) (e : f = sc.2.1 75 y.toNatClampNeg) (c : f.toInt = (Int64.ofInt 9223372036854775807).toInt) : NBT (exC s) (faC sc) σ (y.toNatClampNeg + 1) b.toInt := by
  have ev : faC sc y.toNatClampNeg = FRq := by
    show (sc.2.1 75 y.toNatClampNeg).toInt = FRq
    rw [← e, c]
    rfl
  exact nbt_n h (fun _ q => absurd ev q)
theorem nb_3 (h : NBT (exC s) (faC sc) σ y.toNatClampNeg b.toInt) (hy : 0 ≤ y.toInt) (e : z = sc.1 74 y.toNatClampNeg) (hx : sc.1 74 = s.1 74) (c : z.toInt ≤ -σ) (ef : f = sc.2.1 75 y.toNatClampNeg) (cf : f.toInt ≠ (Int64.ofInt 9223372036854775807).toInt) (hb : b.toInt = -1) : NBT (exC s) (faC sc) σ (y.toNatClampNeg + 1) y.toInt := by
  have ev : exC s y.toNatClampNeg = z.toInt := by rw [e, hx]; rfl
  exact nbt_y h (clx hy).symm (by omega) (fa_ne ef cf) (Or.inl hb)
theorem nb_4 (h : NBT (exC s) (faC sc) σ y.toNatClampNeg b.toInt) (hy : 0 ≤ y.toInt) (e : z = sc.1 74 y.toNatClampNeg) (hx : sc.1 74 = s.1 74) (c : z.toInt ≤ -σ) (ef : f = sc.2.1 75 y.toNatClampNeg) (cf : f.toInt ≠ (Int64.ofInt 9223372036854775807).toInt) {f2 : Int64} (ef2 : f2 = sc.2.1 75 y.toNatClampNeg) (eg : g = sc.2.1 75 b.toNatClampNeg) (cl : f2.toInt < g.toInt) : NBT (exC s) (faC sc) σ (y.toNatClampNeg + 1) y.toInt := by
  have ev : exC s y.toNatClampNeg = z.toInt := by rw [e, hx]; rfl
  have e1 : faC sc y.toNatClampNeg = f2.toInt := by rw [ef2]; rfl
  have e2 : faC sc b.toInt.toNat = g.toInt := by rw [eg]; rfl
  exact nbt_y h (clx hy).symm (by omega) (fa_ne ef cf) (Or.inr (by rw [e1, e2]; exact cl))
theorem nb_5 (h : NBT (exC s) (faC sc) σ y.toNatClampNeg b.toInt) (hb : 0 ≤ b.toInt) {f2 : Int64} (ef2 : f2 = sc.2.1 75 y.toNatClampNeg) (eg : g = sc.2.1 75 b.toNatClampNeg) (cl : g.toInt ≤ f2.toInt) : NBT (exC s) (faC sc) σ (y.toNatClampNeg + 1) b.toInt := by
  have e1 : faC sc y.toNatClampNeg = f2.toInt := by rw [ef2]; rfl
  have e2 : faC sc b.toInt.toNat = g.toInt := by rw [eg]; rfl
  exact nbt_n h (fun _ _ => ⟨hb, by rw [e1, e2]; exact cl⟩)
end NLS
section CTS
variable {σ : Int} {n : Nat} {r : Nat → Nat} {s sc : GS} {g i : Nat} {v m m2 z k b l f d t : Int32}
theorem ct_vi (h68 : sc.1 68 = s.1 68) (ez : z = sc.1 68 v.toNatClampNeg) : viC s v.toNatClampNeg = z.toInt := by rw [ez, h68]; rfl
theorem ct_k (iz : In z 0 319) (ek : k = z >>> (Int32.ofInt 1 &&& 31)) : k.toNatClampNeg = (z.toInt / 2).toNat := by
  have a := (shan (b := z &&& Int32.ofInt 1) iz ek rfl).1
  show k.toInt.toNat = _
  rw [a]
theorem ct_b (iz : In z 0 319) (eb : b = z &&& Int32.ofInt 1) : b.toInt = z.toInt % 2 := (shan (a := z >>> (Int32.ofInt 1 &&& 31)) iz rfl eb).2
/-- one step back, along a pipe or against it -/
theorem ct_f (hC : CTP σ n r s g) (ha : CTA σ n r s g v.toNatClampNeg i m.toInt) (h68 : sc.1 68 = s.1 68) (h69 : sc.1 69 = s.1 69) (h72 : sc.1 72 = s.1 72) (h73 : sc.1 73 = s.1 73) (ez : z = sc.1 68 v.toNatClampNeg) (iz : In z 0 319) (ek : k = z >>> (Int32.ofInt 1 &&& 31)) (eb : b = z &&& Int32.ofInt 1) (cb : b.toInt = 0) (el : l = sc.1 72 k.toNatClampNeg) (ef : f = sc.1 73 k.toNatClampNeg) (ed : d = l - f) (et : t = sc.1 69 k.toNatClampNeg) (hm : m2.toInt ≤ m.toInt ∧ m2.toInt ≤ d.toInt ∧ (m2.toInt = m.toInt ∨ m2.toInt = d.toInt)) : CTA σ n r s g t.toNatClampNeg (i + 1) m2.toInt := by
  have vv := ct_vi (v := v) h68 ez
  have kk := ct_k iz ek
  have bb := ct_b iz eb
  have hq : viC s v.toNatClampNeg ≠ -1 := by rw [vv]; have := iz.1; omega
  obtain ⟨b1, b2, b3, b4, b5⟩ := ctp_v hC ha.2.1 ha.2.2.1 hq
  obtain ⟨d1, d2, d3, d4⟩ := vio_r b1
  rw [vv, ← kk] at d3 d4
  have fo := hC.2.2.1 _ d3
  have e1 : (netC s).2.2.2.2 k.toNatClampNeg = l.toInt := by rw [el, h72]; rfl
  have e2 : fiC s k.toNatClampNeg = f.toInt := by rw [ef, h73]; rfl
  rw [e1, e2] at fo
  have dv := isb_v ed (by omega) (by omega)
  rcases d4 with ⟨p1, p2, p3, p4, p5⟩ | ⟨p1, p2, p3, p4, p5⟩
  · rw [e1, e2] at p5
    refine cta_s hC ha hq ?_ ?_
    · rw [p3, et, h69]; rfl
    · rw [p5, ← dv]; exact hm
  · exact absurd (by omega) p1
theorem ct_f2 (hC : CTP σ n r s g) (ha : CTA σ n r s g v.toNatClampNeg i m.toInt) (h68 : sc.1 68 = s.1 68) (h70 : sc.1 70 = s.1 70) (h73 : sc.1 73 = s.1 73) (ez : z = sc.1 68 v.toNatClampNeg) (iz : In z 0 319) (ek : k = z >>> (Int32.ofInt 1 &&& 31)) (eb : b = z &&& Int32.ofInt 1) (cb : b.toInt ≠ 0) (ef : f = sc.1 73 k.toNatClampNeg) (et : t = sc.1 70 k.toNatClampNeg) (hm : m2.toInt ≤ m.toInt ∧ m2.toInt ≤ f.toInt ∧ (m2.toInt = m.toInt ∨ m2.toInt = f.toInt)) : CTA σ n r s g t.toNatClampNeg (i + 1) m2.toInt := by
  have vv := ct_vi (v := v) h68 ez
  have kk := ct_k iz ek
  have bb := ct_b iz eb
  have hq : viC s v.toNatClampNeg ≠ -1 := by rw [vv]; have := iz.1; omega
  obtain ⟨b1, b2, b3, b4, b5⟩ := ctp_v hC ha.2.1 ha.2.2.1 hq
  obtain ⟨d1, d2, d3, d4⟩ := vio_r b1
  rw [vv, ← kk] at d3 d4
  have e2 : fiC s k.toNatClampNeg = f.toInt := by rw [ef, h73]; rfl
  rcases d4 with ⟨p1, p2, p3, p4, p5⟩ | ⟨p1, p2, p3, p4, p5⟩
  · exact absurd p1 (by omega)
  · rw [e2] at p5
    refine cta_s hC ha hq ?_ ?_
    · rw [p3, et, h70]; rfl
    · rw [p5]; exact hm
def CTX (σ : Int) (n : Nat) (r : Nat → Nat) (s t : GS) (g v i : Nat) (m : Int) : Prop := ∃ o k : Nat, CTE σ n r s g o k m ∧ (∀ w, w < 32 → exC t w = exC s w + m * dl g w - m * dl o w) ∧ CTB σ n r s t g o k v i m
/-- the way is known: the ends are settled -/
theorem ct_e {x a c : Int32} (hC : CTP σ n r s x.toNatClampNeg) (ha : CTA σ n r s x.toNatClampNeg v.toNatClampNeg i m.toInt) (hq : viC s v.toNatClampNeg = -1 ∨ 32 ≤ i) (h73 : sc.1 73 = s.1 73) (h74 : sc.1 74 = s.1 74) (e1 : a = sc.1 74 v.toNatClampNeg) (hm : m2.toInt ≤ m.toInt ∧ m2.toInt ≤ a.toInt ∧ (m2.toInt = m.toInt ∨ m2.toInt = a.toInt)) (e2 : b = a - m2) (e3 : c = (sI sc 74 v.toNatClampNeg b).1 74 x.toNatClampNeg) (e4 : d = c + m2) :
    CTX σ n r s (sI (sI sc 74 v.toNatClampNeg b) 74 x.toNatClampNeg d) x.toNatClampNeg x.toNatClampNeg 0 m2.toInt := by
  have ea : exC s v.toNatClampNeg = a.toInt := by rw [e1, h74]; rfl
  have hE := cte_i (m2 := m2.toInt) hC ha hq (by rw [ea]; exact hm)
  have hv := ha.2.1
  obtain ⟨s0, hN, hF, hL, gn, gx, gf, hB⟩ := id hC
  have bv := hB _ hv
  have bg := hB _ gn
  have hs := hE.2.2.1
  have hms := hE.1.2.2.2.2.1
  have hmg := hE.1.2.2.2.2.2.1
  have ne : x.toNatClampNeg ≠ v.toNatClampNeg := by
    intro q
    rw [q] at gx
    omega
  have cb : c.toInt = exC s x.toNatClampNeg := by rw [e3, sI_q, up_n ne, h74]; rfl
  have bv2 := isb_v e2 (by rw [← ea]; omega) (by rw [← ea]; omega)
  have dv := iad_v e4 (by rw [cb]; omega) (by rw [cb]; omega)
  have xs : ∀ w, w < 32 → exC (sI (sI sc 74 v.toNatClampNeg b) 74 x.toNatClampNeg d) w = exC s w + m2.toInt * dl x.toNatClampNeg w - m2.toInt * dl v.toNatClampNeg w := by
    intro w _
    show ((sI (sI sc 74 v.toNatClampNeg b) 74 x.toNatClampNeg d).1 74 w).toInt = (s.1 74 w).toInt + _ - _
    rw [sI_q, sI_q]
    by_cases c1 : w = x.toNatClampNeg
    · rw [c1, up_e, dl_e, dl_n (fun q => ne q.symm), dv, cb]
      show exC s x.toNatClampNeg + m2.toInt = exC s x.toNatClampNeg + _ - _
      omega
    · rw [up_n c1, dl_n (fun q => c1 q.symm)]
      by_cases c2 : w = v.toNatClampNeg
      · rw [c2, up_e, dl_e, bv2]
        show _ = exC s v.toNatClampNeg + _ - _
        omega
      · rw [up_n c2, dl_n (fun q => c2 q.symm), h74]
        omega
  exact ⟨_, _, hE, xs, ctb_0 hC hE (by funext e; show ((sI (sI sc 74 v.toNatClampNeg b) 74 x.toNatClampNeg d).1 73 e).toInt = _; rw [sI_p rfl, sI_p rfl, h73]; rfl) xs⟩
/-- one step of carrying -/
theorem ct_g (hC : CTP σ n r s g) (ha : CTX σ n r s sc g v.toNatClampNeg i m.toInt) (h68 : sc.1 68 = s.1 68) (h69 : sc.1 69 = s.1 69) (ez : z = sc.1 68 v.toNatClampNeg) (iz : In z 0 319) (ek : k = z >>> (Int32.ofInt 1 &&& 31)) (eb : b = z &&& Int32.ofInt 1) (cb : b.toInt = 0) (ef : f = sc.1 73 k.toNatClampNeg) (ed : d = f + m) (et : t = (sI sc 73 k.toNatClampNeg d).1 69 k.toNatClampNeg) : CTX σ n r s (sI sc 73 k.toNatClampNeg d) g t.toNatClampNeg (i + 1) m.toInt := by
  obtain ⟨o, k0, hE, hx, hb⟩ := ha
  have vv := ct_vi (v := v) h68 ez
  have kk := ct_k iz ek
  have bb := ct_b iz eb
  have hq : viC s v.toNatClampNeg ≠ -1 := by rw [vv]; have := iz.1; omega
  have ca := hb.1
  obtain ⟨b1, b2, b3, b4, b5⟩ := ctp_v hC ca.2.1 ca.2.2.1 hq
  obtain ⟨d1, d2, d3, d4⟩ := vio_r b1
  rw [vv, ← kk] at d3 d4
  have e2 : fiC sc k.toNatClampNeg = f.toInt := by rw [ef]; rfl
  have fo := hb.2.1 _ d3
  rw [e2] at fo
  have mg := hE.1.2.2.2.2.2.1
  have m0 := hE.1.2.2.2.2.1
  have s0 := hC.1
  have gb := hC.2.2.2.2.2.2.2 g hC.2.2.2.2.1
  have dv := iad_v ed (by omega) (by omega)
  have xx : exC (sI sc 73 k.toNatClampNeg d) = exC sc := by funext w; show ((sI sc 73 k.toNatClampNeg d).1 74 w).toInt = _; rw [sI_p rfl]; rfl
  refine ⟨o, k0, hE, fun w hw => by rw [xx]; exact hx w hw, ctb_s (e := k.toNatClampNeg) hC hE hb hq ?_ (by rw [vv]; exact kk) (fun q hq2 => ?_) ?_ xx⟩
  · rcases d4 with ⟨p1, p2, p3, p4, p5⟩ | ⟨p1, p2, p3, p4, p5⟩
    · rw [p3, et, sI_p rfl, h69]; rfl
    · exact absurd (by omega) p1
  · show ((sI sc 73 k.toNatClampNeg d).1 73 q).toInt = (sc.1 73 q).toInt
    rw [sI_q, up_n hq2]
  · rw [vv, if_pos (by omega), e2]
    show ((sI sc 73 k.toNatClampNeg d).1 73 k.toNatClampNeg).toInt = _
    rw [sI_q, up_e, dv]
theorem ct_g2 {w0 : Int32} (hC : CTP σ n r s g) (ha : CTX σ n r s sc g v.toNatClampNeg i m.toInt) (h68 : sc.1 68 = s.1 68) (h70 : sc.1 70 = s.1 70) (ez : z = sc.1 68 v.toNatClampNeg) (iz : In z 0 319) (ek : k = z >>> (Int32.ofInt 1 &&& 31)) (eb : b = z &&& Int32.ofInt 1) (cb : b.toInt ≠ 0) (ef : f = sc.1 73 k.toNatClampNeg) (en : w0 = -m) (ed : d = f + w0) (et : t = (sI sc 73 k.toNatClampNeg d).1 70 k.toNatClampNeg) : CTX σ n r s (sI sc 73 k.toNatClampNeg d) g t.toNatClampNeg (i + 1) m.toInt := by
  obtain ⟨o, k0, hE, hx, hb⟩ := ha
  have vv := ct_vi (v := v) h68 ez
  have kk := ct_k iz ek
  have bb := ct_b iz eb
  have hq : viC s v.toNatClampNeg ≠ -1 := by rw [vv]; have := iz.1; omega
  have ca := hb.1
  obtain ⟨b1, b2, b3, b4, b5⟩ := ctp_v hC ca.2.1 ca.2.2.1 hq
  obtain ⟨d1, d2, d3, d4⟩ := vio_r b1
  rw [vv, ← kk] at d3 d4
  have e2 : fiC sc k.toNatClampNeg = f.toInt := by rw [ef]; rfl
  have fo := hb.2.1 _ d3
  rw [e2] at fo
  have mg := hE.1.2.2.2.2.2.1
  have m0 := hE.1.2.2.2.2.1
  have s0 := hC.1
  have gb := hC.2.2.2.2.2.2.2 g hC.2.2.2.2.1
  have nv := ineg_v en (by omega)
  have dv := iad_v ed (by omega) (by omega)
  have xx : exC (sI sc 73 k.toNatClampNeg d) = exC sc := by funext w; show ((sI sc 73 k.toNatClampNeg d).1 74 w).toInt = _; rw [sI_p rfl]; rfl
  refine ⟨o, k0, hE, fun w hw => by rw [xx]; exact hx w hw, ctb_s (e := k.toNatClampNeg) hC hE hb hq ?_ (by rw [vv]; exact kk) (fun q hq2 => ?_) ?_ xx⟩
  · rcases d4 with ⟨p1, p2, p3, p4, p5⟩ | ⟨p1, p2, p3, p4, p5⟩
    · exact absurd p1 (by omega)
    · rw [p3, et, sI_p rfl, h70]; rfl
  · show ((sI sc 73 k.toNatClampNeg d).1 73 q).toInt = (sc.1 73 q).toInt
    rw [sI_q, up_n hq2]
  · rw [vv, if_neg (by omega), e2]
    show ((sI sc 73 k.toNatClampNeg d).1 73 k.toNatClampNeg).toInt = _
    rw [sI_q, up_e, dv, nv]
theorem nt_pb {a m : Int} (h1 : -32000000 ≤ a) (h2 : a ≤ 32000000) (h3 : 0 ≤ m) (h4 : m ≤ 1000000000) : -32000000000000000 ≤ a * m ∧ a * m ≤ 32000000000000000 := by
  have p := Int.mul_le_mul_of_nonneg_right h1 h3
  have q := Int.mul_le_mul_of_nonneg_right h2 h3
  exact ⟨by omega, by omega⟩
theorem ct_h {x : Int32} {p q w : Int64} (hC : CTP σ n r s x.toNatClampNeg) (ha : CTX σ n r s sc x.toNatClampNeg v.toNatClampNeg i m.toInt) (h75 : sc.2.1 75 = s.2.1 75) (hq : viC s v.toNatClampNeg = -1 ∨ 32 ≤ i) (e1 : p = sc.2.1 75 x.toNatClampNeg) (e2 : q = m.toInt64) (e3 : w = p * q) : CTO σ n s sc x.toNatClampNeg w.toInt := by
  obtain ⟨o, k0, hE, hx, hb⟩ := ha
  have l := u_i2l e2
  have e4 : p.toInt = faC s x.toNatClampNeg := by rw [e1, h75]; rfl
  have fb : -32000000 ≤ faC s x.toNatClampNeg ∧ faC s x.toNatClampNeg ≤ 32000000 := by
    have gf := hC.2.2.2.2.2.2.1
    rcases hC.2.2.2.1.2.2.2 _ hC.2.2.2.2.1 with a | a
    · unfold FRq at a; omega
    · exact ⟨by omega, by omega⟩
  have mg := hE.1.2.2.2.2.2.1
  have m0 := hE.1.2.2.2.2.1
  have s0 := hC.1
  have gb := hC.2.2.2.2.2.2.2 _ hC.2.2.2.2.1
  have pb := nt_pb fb.1 fb.2 (show 0 ≤ m.toInt by omega) (by omega)
  have v := lmul_t e3 (by rw [l, e4]; omega) (by rw [l, e4]; omega)
  rw [l, e4] at v
  exact cto_i hC hE hx hb hq v
end CTS
end
section
/-! PAIRINGS -/
def pwt (g : GVW) (p : Nat) : Int := (g.2.2.2.1 p).toInt
theorem gew_s {g h : GVW} (q : GEW g h) : GEW h g := by
  obtain ⟨q1, q2, q3, q4⟩ := q
  refine ⟨fun i hi => (q1 i (by omega)).symm, fun i hi => (q2 i hi).symm, fun i hi hn => ?_, q4.symm⟩
  obtain ⟨a, b, c, d⟩ := q3 i hi (by rw [q2 i hi]; exact hn)
  exact ⟨a.symm, b.symm, c.symm, d.symm⟩
/-! what another pairing weighs, at least -/
theorem nn_np {a b : Int} (h1 : a ≤ 0) (h2 : b ≤ 0) : 0 ≤ a * b := by
  have := Int.mul_nonneg (show 0 ≤ -a by omega) (show 0 ≤ -b by omega)
  rw [Int.neg_mul_neg] at this
  exact this
theorem sn_nn {f : Nat → Int} : ∀ n : Nat, (∀ k, k < n → 0 ≤ f k) → 0 ≤ sm f n := by
  intro n h
  have a := sn_mono (f := fun _ => 0) n h
  rw [sm_0 (f := fun _ => 0) n (fun _ _ => rfl)] at a
  exact a
theorem dv_out {N : NT} {n : Nat} {x : Nat → Int} {v : Nat} (hN : NOK N n) (hv : n ≤ v) : dvN N.2.1 N.2.2.1 x N.1 v = 0 := by
  refine sm_0 _ (fun e he => ?_)
  show x e * (dl (N.2.2.1 e) v - dl (N.2.1 e) v) = 0
  have a := hN.2 e he
  rw [dl_n (by omega), dl_n (by omega), Int.sub_self, Int.mul_zero]
/-! how the pipes lie: pl e is the place of pipe e -/
/-! the class's pairing, pair by pair -/
def GOK (g : GVW) (n : Nat) : Prop := NDQ g ∧ g.2.2.2.2.2.2.1 = (n : Int) ∧ n ≤ 32 ∧ ∀ p, p < 160 → -1000000 ≤ pwt g p ∧ pwt g p ≤ 1000000
theorem sn_ab {f : Nat → Int} {B : Int} : ∀ n : Nat, (∀ k, k < n → -B ≤ f k ∧ f k ≤ B) → -(B * (n : Int)) ≤ sm f n ∧ sm f n ≤ B * (n : Int) := by
  intro n
  induction n with
  | zero => intro _; rw [show ((0 : Nat) : Int) = 0 from rfl, Int.mul_zero]; exact ⟨(by show -0 ≤ (0 : Int); decide), (by show (0 : Int) ≤ 0; decide)⟩
  | succ n ih =>
    intro h
    have a := ih (fun k hk => h k (by omega))
    have b := h n (by omega)
    rw [sm_s, show ((n + 1 : Nat) : Int) = (n : Int) + 1 by omega, Int.mul_add, Int.mul_one]
    omega
end
section
/-! THE CLASS'S PAIRS, step by step -/
def LYD (s t : GS) (a b c d : Int32) : Prop := t.1 69 = upd (s.1 69) (s.2.2.1 65 8).toNatClampNeg a ∧ t.1 70 = upd (s.1 70) (s.2.2.1 65 8).toNatClampNeg b ∧ t.1 71 = upd (s.1 71) (s.2.2.1 65 8).toNatClampNeg c ∧ t.1 72 = upd (s.1 72) (s.2.2.1 65 8).toNatClampNeg d ∧ t.1 73 = upd (s.1 73) (s.2.2.1 65 8).toNatClampNeg (Int32.ofInt 0) ∧ (t.2.2.1 65 8).toInt = (s.2.2.1 65 8).toInt + 1
theorem lyd_i {s : GS} {a b c d z w : Int32} (e : z = s.2.2.1 65 8) (hw : w.toInt = z.toInt + 1) : LYD s (sF (sI (sI (sI (sI (sI s 69 z.toNatClampNeg a) 70 z.toNatClampNeg b) 71 z.toNatClampNeg c) 72 z.toNatClampNeg d) 73 z.toNatClampNeg (Int32.ofInt 0)) 65 8 w) a b c d := by
  unfold LYD
  rw [← e]
  have f2 : (sF (sI (sI (sI (sI (sI s 69 z.toNatClampNeg a) 70 z.toNatClampNeg b) 71 z.toNatClampNeg c) 72 z.toNatClampNeg d) 73 z.toNatClampNeg (Int32.ofInt 0)) 65 8 w).2.2.1 65 8 = w := by simp [sF]
  have f1 : (sF (sI (sI (sI (sI (sI s 69 z.toNatClampNeg a) 70 z.toNatClampNeg b) 71 z.toNatClampNeg c) 72 z.toNatClampNeg d) 73 z.toNatClampNeg (Int32.ofInt 0)) 65 8 w).1 = (sI (sI (sI (sI (sI s 69 z.toNatClampNeg a) 70 z.toNatClampNeg b) 71 z.toNatClampNeg c) 72 z.toNatClampNeg d) 73 z.toNatClampNeg (Int32.ofInt 0)).1 := rfl
  rw [f2, f1]
  refine ⟨?_, ?_, ?_, ?_, ?_, hw⟩
  · rw [sI_p rfl, sI_p rfl, sI_p rfl, sI_p rfl, sI_q]
  · rw [sI_p rfl, sI_p rfl, sI_p rfl, sI_q, sI_p rfl]
  · rw [sI_p rfl, sI_p rfl, sI_q, sI_p rfl, sI_p rfl]
  · rw [sI_p rfl, sI_q, sI_p rfl, sI_p rfl, sI_p rfl]
  · rw [sI_q, sI_p rfl, sI_p rfl, sI_p rfl, sI_p rfl]
theorem gok_C {s : GS} (hI : Inv s) (hn : NDQ (gvC s)) : GOK (gvC s) (s.2.2.1 2 1).toNatClampNeg := by
  have i := inv_F hI (z := s.2.2.1 2 1) 0 32 rfl rfl
  unfold In at i
  have e : (s.2.2.1 2 1).toNatClampNeg = (s.2.2.1 2 1).toInt.toNat := rfl
  refine ⟨hn, (show (s.2.2.1 2 1).toInt = _ by omega), by omega, fun p hp => ?_⟩
  have w := hI.1.1 6 p (Nat.lt_of_lt_of_le hp (Nat.le_of_ble_eq_true rfl))
  have e : rI 6 = (-1000000, 1000000) := rfl
  rw [e] at w
  exact w
theorem gok_D {s : GS} (hI : Inv s) (hn : NDQ (gvD s)) : GOK (gvD s) (s.2.2.1 32 1).toNatClampNeg := by
  have i := inv_F hI (z := s.2.2.1 32 1) 0 32 rfl rfl
  unfold In at i
  have e : (s.2.2.1 32 1).toNatClampNeg = (s.2.2.1 32 1).toInt.toNat := rfl
  refine ⟨hn, (show (s.2.2.1 32 1).toInt = _ by omega), by omega, fun p hp => ?_⟩
  have w := hI.1.1 36 p (Nat.lt_of_lt_of_le hp (Nat.le_of_ble_eq_true rfl))
  have e : rI 36 = (-1000000, 1000000) := rfl
  rw [e] at w
  exact w
end
section
/-! THE REFERENCE'S PAIRS -/
/-! the weights of pairs are the least ones -/
/-! what a pairing by mates weighs -/
end
section
/-! THE REFERENCE'S ANSWER -/
/-! mates -/
/-! the graph that is shown, place by place -/
theorem gz_b {s : GS} (hI : Inv s) : bs s = 160 * (s.2.2.1 109 18).toNatClampNeg := by
  have k2 : (s.2.2.1 109 19).toInt = 160 * (s.2.2.1 109 18).toInt := hI.2.2.2.2.2.2.2.2.2.1
  have i18 := inv_F hI (z := s.2.2.1 109 18) 0 1 rfl rfl
  show (s.2.2.1 109 19).toInt.toNat = 160 * (s.2.2.1 109 18).toInt.toNat
  have := i18.1
  omega
theorem gz_e {s : GS} {p : Nat} {x f t : Int32} (hI : Inv s) (e : x = s.1 112 (bs s + p)) (h : x.toInt ≠ 0) (hf : f = s.1 113 (bs s + p)) (ht : t = s.1 114 (bs s + p)) : f = (gvZ s).2.1 p ∧ t = (gvZ s).2.2.1 p := by
  rw [gz_b hI] at e hf ht
  exact ⟨tg_is e h hf, ht⟩
theorem gz_w {s : GS} {p : Nat} {w : Int32} (hI : Inv s) (hw : w = s.1 115 (bs s + p)) : w = (gvZ s).2.2.2.1 p := by
  rw [gz_b hI] at hw
  exact hw
theorem gok_Z {s : GS} (hI : Inv s) : GOK (gvZ s) (s.2.2.1 109 20).toNatClampNeg := by
  have i := inv_F hI (z := s.2.2.1 109 20) 0 32 rfl rfl
  unfold In at i
  have e : (s.2.2.1 109 20).toNatClampNeg = (s.2.2.1 109 20).toInt.toNat := rfl
  refine ⟨ndq_z hI, by rw [gvz_n hI]; omega, by omega, fun p hp => ?_⟩
  have g1 := inv_F hI (z := s.2.2.1 109 18) 0 1 rfl rfl
  have ge : (s.2.2.1 109 18).toNatClampNeg = (s.2.2.1 109 18).toInt.toNat := rfl
  unfold In at g1
  have w := hI.1.1 115 (160 * (s.2.2.1 109 18).toNatClampNeg + p) (Nat.lt_of_lt_of_le (show _ < 480 by omega) (Nat.le_of_ble_eq_true rfl))
  have e2 : rI 115 = (-1000000, 1000000) := rfl
  rw [e2] at w
  exact w
end
section
/-! COSTS -/
def cfr (g : GVW) (p : Nat) : Nat := (g.2.1 p).toNatClampNeg
def cto (g : GVW) (p : Nat) : Nat := (g.2.2.1 p).toNatClampNeg
def rmg (g : GVW) (p : Nat) : Int := (g.2.2.2.2.1 p).toInt
def EXG (g : GVW) (p : Nat) : Prop := (g.2.1 p).toInt ≠ -1
def JNG (g : GVW) (p : Nat) : Prop := (g.2.1 p).toInt ≠ -1 ∧ (g.2.1 p).toInt ≠ (g.2.2.1 p).toInt
def CFE (g : GVW) (a b : Nat) (W : Int) (y : Nat → Int) : Prop := (∀ p, p < 160 → y p = 0 ∨ (EXG g p ∧ 0 ≤ y p ∧ y p ≤ rmg g p)) ∧ ∀ v, v < 32 → dvN (cfr g) (cto g) y 160 v = W * dl b v - W * dl a v
def CSX (g : GVW) (a b : Nat) (W z : Int) : Prop := ((∀ y : Nat → Int, ¬ CFE g a b W y) ∧ z = 9000000000000000) ∨ ((∃ y : Nat → Int, CFE g a b W y ∧ sm (fun p => pwt g p * y p) 160 = z) ∧ ∀ y : Nat → Int, CFE g a b W y → z ≤ sm (fun p => pwt g p * y p) 160)
theorem cfe_e {g h : GVW} (q : GEW g h) {a b : Nat} {W : Int} {y : Nat → Int} (hy : CFE g a b W y) : CFE h a b W y ∧ sm (fun p => pwt h p * y p) 160 = sm (fun p => pwt g p * y p) 160 := by
  obtain ⟨q1, q2, q3, q4⟩ := q
  have key : ∀ p, p < 160 → y p = 0 ∨ (EXG h p ∧ cfr h p = cfr g p ∧ cto h p = cto g p ∧ pwt h p = pwt g p ∧ rmg h p = rmg g p) := by
    intro p hp
    rcases hy.1 p hp with z | z
    · exact Or.inl z
    · right
      obtain ⟨e1, e2, e3, -⟩ := q3 p hp z.1
      have e0 := q2 p hp
      have z1 := z.1
      unfold EXG cfr cto pwt rmg at *
      rw [← e0, ← e1, ← e2, ← e3]
      exact ⟨z1, rfl, rfl, rfl, rfl⟩
  refine ⟨⟨fun p hp => ?_, fun v hv => ?_⟩, sm_eq 160 (fun p hp => ?_)⟩
  · rcases key p hp with z | z
    · exact Or.inl z
    · rcases hy.1 p hp with k | k
      · exact Or.inl k
      · exact Or.inr ⟨z.1, k.2.1, by rw [z.2.2.2.2]; exact k.2.2⟩
  · rw [← hy.2 v hv]
    refine sm_eq 160 (fun p hp => ?_)
    show y p * (dl (cto h p) v - dl (cfr h p) v) = y p * (dl (cto g p) v - dl (cfr g p) v)
    rcases key p hp with z | z
    · rw [z, Int.zero_mul, Int.zero_mul]
    · rw [z.2.1, z.2.2.1]
  · show pwt h p * y p = pwt g p * y p
    rcases key p hp with z | z
    · rw [z, Int.mul_zero, Int.mul_zero]
    · rw [z.2.2.2.1]
theorem cst_u {g h : GVW} (q : GEW g h) {a b : Nat} {W z z2 : Int} (h1 : CSX g a b W z) (h2 : CSX h a b W z2) : z = z2 := by
  have q2 := gew_s q
  rcases h1 with ⟨a1, a2⟩ | ⟨⟨y, y1, y2⟩, y3⟩
  · rcases h2 with ⟨b1, b2⟩ | ⟨⟨x, x1, x2⟩, x3⟩
    · rw [a2, b2]
    · exact absurd (cfe_e q2 x1).1 (a1 x)
  · rcases h2 with ⟨b1, b2⟩ | ⟨⟨x, x1, x2⟩, x3⟩
    · exact absurd (cfe_e q y1).1 (b1 y)
    · have c := x3 y (cfe_e q y1).1
      have d := y3 x (cfe_e q2 x1).1
      rw [(cfe_e q y1).2] at c
      rw [(cfe_e q2 x1).2] at d
      omega
/-! cuts -/
def rin (Y : Nat → Bool) (v : Nat) : Int := if Y v = true then 1 else 0
theorem sz_sm {f : Nat → Int} : ∀ n : Nat, sz f n = sm f n := by
  intro n
  induction n with
  | zero => rfl
  | succ n ih => rw [sz_s, sm_s, ih]
theorem rin_b (Y : Nat → Bool) (v : Nat) : (Y v = true ∧ rin Y v = 1) ∨ (Y v = false ∧ rin Y v = 0) := by
  unfold rin
  cases h : Y v with
  | true => exact Or.inl ⟨rfl, if_pos rfl⟩
  | false => exact Or.inr ⟨rfl, if_neg (by decide)⟩
def GVR (g : GVW) : Prop := ∀ p, p < 160 → cfr g p < 32 ∧ cto g p < 32 ∧ 0 ≤ rmg g p ∧ rmg g p ≤ 1000000 ∧ -1000000 ≤ pwt g p ∧ pwt g p ≤ 1000000
theorem dv_pt {g : Nat → Int} {a b : Nat} {W : Int} {D : Nat → Int} (ha : a < 32) (hb : b < 32) (h : ∀ v, v < 32 → D v = W * dl b v - W * dl a v) : sm (fun v => g v * D v) 32 = W * g b - W * g a := by
  rw [sm_eq (h := fun v => W * (g v * dl b v) - W * (g v * dl a v)) 32 (fun v hv => by
    show g v * D v = W * (g v * dl b v) - W * (g v * dl a v)
    rw [h v hv, Int.mul_sub, Int.mul_left_comm (g v) W, Int.mul_left_comm (g v) W]), sn_sub, sn_mul, sn_mul, sn_dl ha, sn_dl hb]
theorem cut_le {g : GVW} {a b : Nat} {W : Int} {y : Nat → Int} (hg : GVR g) (ha : a < 32) (hb : b < 32) (hy : CFE g a b W y) {Y : Nat → Bool} (h1 : Y a = true) (h2 : Y b = false) : W ≤ CUTV g Y := by
  have e := dv_al (tl := cfr g) (hd := cto g) (x := y) (g := rin Y) 160 (fun p hp => ⟨(hg p hp).1, (hg p hp).2.1⟩)
  rw [dv_pt (g := rin Y) ha hb hy.2] at e
  have ra : rin Y a = 1 := by unfold rin; rw [if_pos h1]
  have rb : rin Y b = 0 := by unfold rin; rw [if_neg (by rw [h2]; decide)]
  rw [ra, rb, Int.mul_zero, Int.mul_one] at e
  have m := sn_mono (f := fun p => 0 - cuA g Y p) (h := fun p => y p * (rin Y (cto g p) - rin Y (cfr g p))) 160 (fun p hp => by
    show 0 - cuA g Y p ≤ y p * (rin Y (cto g p) - rin Y (cfr g p))
    have hr := (hg p hp).2.2.1
    unfold cuA
    have ef : (g.2.1 p).toInt.toNat = cfr g p := rfl
    have et : (g.2.2.1 p).toInt.toNat = cto g p := rfl
    rw [ef, et]
    rcases rin_b Y (cfr g p) with ⟨f1, f2⟩ | ⟨f1, f2⟩ <;> rcases rin_b Y (cto g p) with ⟨t1, t2⟩ | ⟨t1, t2⟩ <;> rw [f2, t2]
    · rw [if_neg (fun z => by rw [t1] at z; exact absurd z.2.2 (by decide))]; omega
    · rcases hy.1 p hp with z | z
      · rw [z]
        split
        · unfold rmg at hr; omega
        · omega
      · rw [if_pos ⟨z.1, f1, t1⟩]
        have := z.2.2
        unfold rmg at this
        omega
    · rw [if_neg (fun z => by rw [f1] at z; exact absurd z.2.1 (by decide))]
      rcases hy.1 p hp with z | z
      · rw [z]; omega
      · have := z.2.1; omega
    · rw [if_neg (fun z => by rw [f1] at z; exact absurd z.2.1 (by decide))]; omega)
  rw [sn_sub, sm_0 (f := fun _ => 0) 160 (fun _ _ => rfl)] at m
  unfold CUTV
  rw [sz_sm]
  omega
theorem cst_no {g : GVW} {a b : Nat} {W V z : Int} {X : Nat → Bool} (hg : GVR g) (ha : a < 32) (hb : b < 32) (hF : FLX g a b V X) (hW : V < W) (hz : z = 9000000000000000) : CSX g a b W z := by
  refine Or.inl ⟨fun y hy => ?_, hz⟩
  have c := cut_le hg ha hb hy hF.1.1 hF.1.2
  have d := hF.2.1
  omega
/-! what is too much -/
def psx (x : Int) : Int := if 0 < x then x else 0
theorem psx_b (x : Int) : 0 ≤ psx x ∧ x ≤ psx x ∧ (x ≤ 0 → psx x = 0) ∧ (0 ≤ x → psx x = x) := by
  unfold psx
  by_cases c : 0 < x
  · rw [if_pos c]; exact ⟨by omega, by omega, fun q => by omega, fun _ => rfl⟩
  · rw [if_neg c]; exact ⟨by omega, by omega, fun _ => rfl, fun q => by omega⟩
def psS (ex : Nat → Int) : Int := sm (fun v => psx (ex v)) 32
theorem psS_nn (ex : Nat → Int) : 0 ≤ psS ex := sn_nn 32 (fun v _ => (psx_b (ex v)).1)
theorem sn_two {f h : Nat → Int} {a b n : Nat} (hab : a ≠ b) (ha : a < n) (hb : b < n) (ho : ∀ v, v < n → v ≠ a → v ≠ b → h v = f v) : sm h n = sm f n + (h a - f a) + (h b - f b) := by
  have k1 := sm_one (f := f) (h := fun v => if v = a then h a else f v) (u := a) (d := h a - f a) n ha (fun k _ hk => if_neg hk) (by show (if a = a then h a else f a) = f a + (h a - f a); rw [if_pos rfl]; omega)
  have k2 := sm_one (f := fun v => if v = a then h a else f v) (h := h) (u := b) (d := h b - f b) n hb (fun k hk hn => by
    show h k = if k = a then h a else f k
    by_cases c : k = a
    · rw [if_pos c, c]
    · rw [if_neg c]; exact ho k hk c hn) (by show h b = (if b = a then h a else f b) + (h b - f b); rw [if_neg (fun z => hab z.symm)]; omega)
  omega
/-- a carrying takes away what it carries -/
theorem ps_carry {ex ey : Nat → Int} {g o : Nat} {m : Int} (hg : g < 32) (ho : o < 32) (hne : g ≠ o) (h : ∀ w, w < 32 → ey w = ex w + m * dl g w - m * dl o w) (h0 : 0 ≤ m) (h1 : m ≤ ex o) (h2 : m ≤ -ex g) : psS ey = psS ex - m := by
  have eg : ey g = ex g + m := by rw [h g hg, dl_e, dl_n (fun z => hne z.symm)]; omega
  have eo : ey o = ex o - m := by rw [h o ho, dl_e, dl_n hne]; omega
  have t := sn_two (f := fun v => psx (ex v)) (h := fun v => psx (ey v)) (a := g) (b := o) (n := 32) hne hg ho (fun v hv v1 v2 => by
    show psx (ey v) = psx (ex v)
    rw [h v hv, dl_n (fun z => v1 z.symm), dl_n (fun z => v2 z.symm)]
    congr 1
    omega)
  try dsimp only at t
  have a1 := (psx_b (ex g)).2.2.1 (by omega)
  have a2 := (psx_b (ey g)).2.2.1 (by omega)
  have a3 := (psx_b (ex o)).2.2.2 (by omega)
  have a4 := (psx_b (ey o)).2.2.2 (by omega)
  unfold psS
  omega
/-! turning what earns -/
def TOK (N : NT) (fi : Nat → Int) (σ : Int) (f : Nat → Int) (d : Nat) : Prop := (σ ≤ N.2.2.2.2 d - fi d → f (N.2.2.1 d) ≤ f (N.2.1 d) + N.2.2.2.1 d) ∧ (σ ≤ fi d → f (N.2.1 d) ≤ f (N.2.2.1 d) - N.2.2.2.1 d)
def TNJ (N : NT) (σ B : Int) (f fi ex fi2 ex2 : Nat → Int) (e : Nat) : Prop := FOK N fi2 ∧ (∀ d, d < e → d < N.1 → TOK N fi2 σ f d) ∧ (∀ d, e ≤ d → fi2 d = fi d) ∧ (∀ w, w < 32 → ex2 w - dvN N.2.1 N.2.2.1 fi2 N.1 w = ex w - dvN N.2.1 N.2.2.1 fi N.1 w) ∧ psS ex2 ≤ psS ex + B * (e : Int) ∧ ∀ w, w < 32 → -500000000 - 1000000 * (e : Int) ≤ ex2 w ∧ ex2 w ≤ 500000000 + 1000000 * (e : Int)
theorem tri_0 {N : NT} {σ B : Int} {f fi ex : Nat → Int} (hF : FOK N fi) (hx : ∀ w, w < 32 → -500000000 ≤ ex w ∧ ex w ≤ 500000000) : TNJ N σ B f fi ex fi ex 0 := ⟨hF, fun d hd => absurd hd (Nat.not_lt_zero d), fun _ _ => rfl, fun _ _ => rfl, by rw [show ((0 : Nat) : Int) = 0 from rfl, Int.mul_zero]; omega, fun w hw => by have := hx w hw; exact ⟨by omega, by omega⟩⟩
theorem tri_n {N : NT} {σ B : Int} {f fi ex fi2 ex2 : Nat → Int} {e : Nat} (h : TNJ N σ B f fi ex fi2 ex2 e) (hB : 0 ≤ B) (ht : TOK N fi2 σ f e) : TNJ N σ B f fi ex fi2 ex2 (e + 1) := by
  obtain ⟨h1, h2, h3, h4, h5, h6⟩ := h
  refine ⟨h1, fun d hd hP => ?_, fun d hd => h3 d (by omega), h4, ?_, fun w hw => by have := h6 w hw; exact ⟨by omega, by omega⟩⟩
  · by_cases c : d = e
    · rw [c]; exact ht
    · exact h2 d (by omega) hP
  · rw [show ((e + 1 : Nat) : Int) = (e : Int) + 1 by omega, Int.mul_add, Int.mul_one]
    omega
theorem tri_y {N : NT} {n : Nat} {σ B m : Int} {f fi ex fi2 ex2 fi3 ex3 : Nat → Int} {e : Nat} (hN : NOK N n) (h : TNJ N σ B f fi ex fi2 ex2 e) (he : e < N.1) (ht : TOK N fi3 σ f e) (hm6 : -1000000 ≤ m ∧ m ≤ 1000000) (hm : -B ≤ m ∧ m ≤ B) (f1 : fi3 e = fi2 e + m) (f2 : ∀ d, d ≠ e → fi3 d = fi2 d) (hk : 0 ≤ fi2 e + m ∧ fi2 e + m ≤ N.2.2.2.2 e) (x1 : ex3 (N.2.2.1 e) = ex2 (N.2.2.1 e) + m) (x2 : ex3 (N.2.1 e) = ex2 (N.2.1 e) - m) (x3 : ∀ w, w ≠ N.2.2.1 e → w ≠ N.2.1 e → ex3 w = ex2 w) : TNJ N σ B f fi ex fi3 ex3 (e + 1) := by
  obtain ⟨h1, h2, h3, h4, h5, h6⟩ := h
  obtain ⟨t1, t2, t3, -⟩ := hN.2 e he
  have n32 := hN.1
  have fo := h1 e he
  refine ⟨fun d hd => ?_, fun d hd hP => ?_, fun d hd => by rw [f2 d (by omega)]; exact h3 d (by omega), fun w hw => ?_, ?_, fun w hw => ?_⟩
  · by_cases c : d = e
    · rw [c, f1]; exact ⟨hk.1, hk.2, fo.2.2⟩
    · rw [f2 d c]; exact h1 d hd
  · by_cases c : d = e
    · rw [c]; exact ht
    · have a := h2 d (by omega) hP
      unfold TOK at a ⊢
      rw [f2 d c]
      exact a
  · rw [dv_up (tl := N.2.1) (hd := N.2.2.1) (x := fi2) (y := fi3) he f1 f2 w, ← h4 w hw]
    by_cases c1 : N.2.2.1 e = w
    · rw [← c1, dl_e, dl_n t3, x1]
      omega
    · by_cases c2 : N.2.1 e = w
      · rw [← c2, dl_e, dl_n (fun z => t3 z.symm), x2]
        omega
      · rw [dl_n c1, dl_n c2, x3 w (fun z => c1 z.symm) (fun z => c2 z.symm)]
        omega
  · have t := sn_two (f := fun v => psx (ex2 v)) (h := fun v => psx (ex3 v)) (a := N.2.2.1 e) (b := N.2.1 e) (n := 32) (fun z => t3 z.symm) (by omega) (by omega) (fun v hv v1 v2 => by show psx (ex3 v) = psx (ex2 v); rw [x3 v v1 v2])
    try dsimp only at t
    rw [x1, x2] at t
    have a1 := psx_b (ex2 (N.2.2.1 e))
    have a2 := psx_b (ex2 (N.2.1 e))
    have a3 := psx_b (ex2 (N.2.2.1 e) + m)
    have a4 := psx_b (ex2 (N.2.1 e) - m)
    rw [show ((e + 1 : Nat) : Int) = (e : Int) + 1 by omega, Int.mul_add, Int.mul_one]
    unfold psS at h5 ⊢
    have key : psx (ex2 (N.2.2.1 e) + m) - psx (ex2 (N.2.2.1 e)) + (psx (ex2 (N.2.1 e) - m) - psx (ex2 (N.2.1 e))) ≤ B := by
      unfold psx
      split <;> split <;> split <;> split <;> omega
    omega
  · by_cases c1 : w = N.2.2.1 e
    · rw [c1, x1]
      have := h6 (N.2.2.1 e) (by omega)
      exact ⟨by omega, by omega⟩
    · by_cases c2 : w = N.2.1 e
      · rw [c2, x2]
        have := h6 (N.2.1 e) (by omega)
        exact ⟨by omega, by omega⟩
      · rw [x3 w c1 c2]
        have := h6 w hw
        exact ⟨by omega, by omega⟩
theorem tri_fe {N : NT} {σ B : Int} {f fi ex fi2 ex2 : Nat → Int} {e : Nat} (h : TNJ N σ B f fi ex fi2 ex2 e) (he : N.1 ≤ e) : FE (RSA N fi2 σ) f := by
  intro u v w hr
  obtain ⟨d, hd, hr⟩ := hr
  have t := h.2.1 d (by omega) hd
  rcases hr with ⟨e1, e2, e3, e4⟩ | ⟨e1, e2, e3, e4⟩
  · rw [e1, e2, e3]; exact t.1 e4
  · rw [e1, e2, e3]
    have := t.2 e4
    omega
def LYX (g : GVW) (N : NT) (q : Nat) : Prop := ∃ pl : Nat → Nat, (∀ e, e < N.1 → pl e < q ∧ JNG g (pl e) ∧ N.2.1 e = cfr g (pl e) ∧ N.2.2.1 e = cto g (pl e) ∧ N.2.2.2.1 e = pwt g (pl e) ∧ N.2.2.2.2 e = rmg g (pl e)) ∧ (∀ d e, d < e → e < N.1 → pl d < pl e) ∧ ∀ F : Nat → Int, (∀ p, p < q → ¬ JNG g p → F p = 0) → sm (fun e => F (pl e)) N.1 = sm F q
theorem lyx_0 {g : GVW} {N : NT} (h : N.1 = 0) : LYX g N 0 := by
  refine ⟨fun _ => 0, fun e he => by omega, fun d e _ he => by omega, fun F _ => by rw [h]; rfl⟩
theorem lyx_n {g : GVW} {N : NT} {q : Nat} (h : LYX g N q) (hn : ¬ JNG g q) : LYX g N (q + 1) := by
  obtain ⟨pl, h1, h2, h3⟩ := h
  refine ⟨pl, fun e he => ⟨by have := (h1 e he).1; omega, (h1 e he).2⟩, h2, fun F hF => ?_⟩
  rw [sm_s, h3 F (fun p hp => hF p (by omega)), hF q (by omega) hn]
  omega
theorem lyx_y {g : GVW} {N M : NT} {q : Nat} (h : LYX g N q) (hy : JNG g q) (e0 : M.1 = N.1 + 1) (e1 : M.2.1 N.1 = cfr g q) (e2 : M.2.2.1 N.1 = cto g q) (e3 : M.2.2.2.1 N.1 = pwt g q) (e4 : M.2.2.2.2 N.1 = rmg g q) (eo : ∀ e, e ≠ N.1 → M.2.1 e = N.2.1 e ∧ M.2.2.1 e = N.2.2.1 e ∧ M.2.2.2.1 e = N.2.2.2.1 e ∧ M.2.2.2.2 e = N.2.2.2.2 e) : LYX g M (q + 1) := by
  obtain ⟨pl, h1, h2, h3⟩ := h
  have pe : ∀ e, e ≠ N.1 → (if e = N.1 then q else pl e) = pl e := fun e he => if_neg he
  refine ⟨fun e => if e = N.1 then q else pl e, fun e he => ?_, fun d e hd he => ?_, fun F hF => ?_⟩
  · dsimp only
    by_cases c : e = N.1
    · rw [if_pos c, c]
      exact ⟨by omega, hy, e1, e2, e3, e4⟩
    · rw [if_neg c]
      obtain ⟨a1, a2, a3, a4⟩ := eo e c
      have b := h1 e (by omega)
      rw [a1, a2, a3, a4]
      exact ⟨by have := b.1; omega, b.2⟩
  · dsimp only
    rw [if_neg (show d ≠ N.1 by omega)]
    by_cases c : e = N.1
    · rw [if_pos c]
      exact (h1 d (by omega)).1
    · rw [if_neg c]
      exact h2 d e hd (by omega)
  · rw [e0, sm_s, sm_s, ← h3 F (fun p hp => hF p (by omega))]
    dsimp only
    rw [if_pos rfl, sm_eq (h := fun e => F (pl e)) N.1 (fun e he => by show F (if e = N.1 then q else pl e) = F (pl e); rw [if_neg (by omega)])]
theorem lyx_w {g : GVW} {N : NT} : ∀ k q : Nat, LYX g N q → (∀ p, q ≤ p → p < q + k → ¬ JNG g p) → LYX g N (q + k) := by
  intro k
  induction k with
  | zero => intro q h _; exact h
  | succ k ih =>
    intro q h hn
    exact lyx_n (ih q h (fun p h1 h2 => hn p h1 (by omega))) (hn (q + k) (by omega) (by omega))
theorem lyx_c {g : GVW} {N : NT} {q : Nat} (h : LYX g N q) : N.1 ≤ q := by
  obtain ⟨pl, h1, h2, -⟩ := h
  have key : ∀ e, e < N.1 → e ≤ pl e := by
    intro e
    induction e with
    | zero => intro _; omega
    | succ e ih =>
      intro he
      have a := ih (by omega)
      have b := h2 e (e + 1) (by omega) he
      omega
  rcases Nat.lt_or_ge q N.1 with c | c
  · exfalso
    have a := key (N.1 - 1) (by omega)
    have b := (h1 (N.1 - 1) (by omega)).1
    omega
  · exact c
theorem lyx_k {g : GVW} {N : NT} {n : Nat} (hn : NDQ g) (en : g.2.2.2.2.2.2.1 = (n : Int)) (n32 : n ≤ 32) (hg : GVR g) (h : LYX g N 160) : NOK N n ∧ ∀ e, e < N.1 → 0 ≤ N.2.2.2.2 e ∧ N.2.2.2.2 e ≤ 1000000 := by
  obtain ⟨pl, h1, h2, h3⟩ := h
  refine ⟨⟨n32, fun e he => ?_⟩, fun e he => ?_⟩
  · obtain ⟨a1, a2, a3, a4, a5, a6⟩ := h1 e he
    have b := hn _ a1 a2.1
    have c := hg _ a1
    have b1 := clx b.1.1
    have b2 := clx b.2.1
    rw [a3, a4, a5]
    unfold cfr cto
    refine ⟨by omega, by omega, fun z => a2.2 ?_, c.2.2.2.2.1, c.2.2.2.2.2⟩
    omega
  · obtain ⟨a1, a2, a3, a4, a5, a6⟩ := h1 e he
    have c := hg _ a1
    rw [a6]
    exact ⟨c.2.2.1, c.2.2.2.1⟩
/-- the pipes' cut is the graph's -/
theorem lyx_cut {g : GVW} {N : NT} (h : LYX g N 160) (Y : Nat → Bool) : sm (fun e => if Y (N.2.1 e) = true ∧ Y (N.2.2.1 e) = false then N.2.2.2.2 e else 0) N.1 = CUTV g Y := by
  obtain ⟨pl, h1, h2, h3⟩ := h
  have a := h3 (cuA g Y) (fun p hp hn => by
    unfold cuA
    rw [if_neg]
    intro z
    apply hn
    refine ⟨z.1, fun c => ?_⟩
    rw [c] at z
    rw [z.2.1] at z
    exact absurd z.2.2 (by decide))
  unfold CUTV
  rw [sz_sm, ← a]
  refine sm_eq _ (fun e he => ?_)
  obtain ⟨a1, a2, a3, a4, a5, a6⟩ := h1 e he
  show (if Y (N.2.1 e) = true ∧ Y (N.2.2.1 e) = false then N.2.2.2.2 e else 0) = cuA g Y (pl e)
  unfold cuA
  rw [a3, a4, a6]
  by_cases c : Y (cfr g (pl e)) = true ∧ Y (cto g (pl e)) = false
  · rw [if_pos c, if_pos ⟨a2.1, c⟩]; rfl
  · rw [if_neg c, if_neg (fun z => c z.2)]
/-- what a step leaves -/
theorem ps_left {g : GVW} {N : NT} {fi ex f vi : Nat → Int} {σ W V : Int} {n a b : Nat} {r : Nat → Nat} {X : Nat → Bool} (hN : NOK N n) (hF : FOK N fi) (hL : LYX g N 160) (ha : a < n) (hb : b < n) (hW0 : 0 ≤ W) (hX : FLX g a b V X) (hWV : W ≤ V) (hs : 1 ≤ σ) (hcut : ∀ Y : Nat → Bool, 0 ≤ CUTV g Y) (hx : ∀ v, v < 32 → ex v = W * dl a v - W * dl b v + dvN N.2.1 N.2.2.1 fi N.1 v) (hl : NLF N fi σ n ex f vi r) (hk : ∀ v, v < n → ex v ≤ -σ → f v = FRq) : psS ex ≤ 192 * (σ - 1) := by
  have n32 := hN.1
  have hP := lyx_c hL
  obtain ⟨Y, hY⟩ : ∃ Y : Nat → Bool, ∀ v, Y v = true ↔ (v < n ∧ f v < 9000000000000000) := ⟨fun v => decide (v < n ∧ f v < 9000000000000000), fun v => by simp⟩
  have yf : ∀ v, v < n → Y v = false → f v = FRq := by
    intro v hv h
    rcases hl.2.2.2 v hv with c | c
    · exact c
    · have := (hY v).mpr ⟨hv, c.1⟩
      rw [h] at this
      cases this
  -- the sum over what is reached
  have e1 := dv_al (tl := N.2.1) (hd := N.2.2.1) (x := fi) (g := rin Y) N.1 (fun e he => by have := hN.2 e he; exact ⟨by omega, by omega⟩)
  have m1 := sn_mono (f := fun e => fi e * (rin Y (N.2.2.1 e) - rin Y (N.2.1 e))) (h := fun e => (σ - 1) - (if Y (N.2.1 e) = true ∧ Y (N.2.2.1 e) = false then N.2.2.2.2 e else 0)) N.1 (fun e he => by
    show fi e * (rin Y (N.2.2.1 e) - rin Y (N.2.1 e)) ≤ (σ - 1) - (if Y (N.2.1 e) = true ∧ Y (N.2.2.1 e) = false then N.2.2.2.2 e else 0)
    have fo := hF e he
    obtain ⟨t1, t2, -⟩ := hN.2 e he
    rcases rin_b Y (N.2.1 e) with ⟨f1, f2⟩ | ⟨f1, f2⟩ <;> rcases rin_b Y (N.2.2.1 e) with ⟨g1, g2⟩ | ⟨g1, g2⟩ <;> rw [f2, g2]
    · rw [if_neg (fun z => by rw [g1] at z; exact absurd z.2 (by decide))]; omega
    · rw [if_pos ⟨f1, g1⟩]
      have nc : ¬ σ ≤ N.2.2.2.2 e - fi e := by
        intro z
        have c := hl.1 (N.2.1 e) (N.2.2.1 e) (N.2.2.2.1 e) ⟨e, he, Or.inl ⟨rfl, rfl, rfl, z⟩⟩ ((hY _).mp f1).2
        have d := yf _ t2 g1
        have w := (hN.2 e he).2.2.2
        rcases hl.2.2.2 _ t1 with q | q
        · have := ((hY _).mp f1).2; unfold FRq at q; omega
        · unfold FRq at d; omega
      omega
    · rw [if_neg (fun z => by rw [f1] at z; exact absurd z.1 (by decide))]
      have nc : ¬ σ ≤ fi e := by
        intro z
        have c := hl.1 (N.2.2.1 e) (N.2.1 e) (-(N.2.2.2.1 e)) ⟨e, he, Or.inr ⟨rfl, rfl, rfl, z⟩⟩ ((hY _).mp g1).2
        have d := yf _ t1 f1
        have w := (hN.2 e he).2.2.2
        rcases hl.2.2.2 _ t2 with q | q
        · have := ((hY _).mp g1).2; unfold FRq at q; omega
        · unfold FRq at d; omega
      omega
    · rw [if_neg (fun z => by rw [f1] at z; exact absurd z.1 (by decide))]; omega)
  rw [sn_sub, lyx_cut hL Y] at m1
  have cs : sm (fun _ => σ - 1) N.1 ≤ 160 * (σ - 1) := by
    have t := sn_ab (f := fun _ => σ - 1) (B := σ - 1) N.1 (fun _ _ => ⟨by omega, by omega⟩)
    have u := Int.mul_le_mul_of_nonneg_left (show (N.1 : Int) ≤ 160 by omega) (show 0 ≤ σ - 1 by omega)
    omega
  have e2 : sm (fun v => rin Y v * ex v) 32 = (W * rin Y a - W * rin Y b) + sm (fun v => rin Y v * dvN N.2.1 N.2.2.1 fi N.1 v) 32 := by
    rw [sm_eq (h := fun v => (W * (rin Y v * dl a v) - W * (rin Y v * dl b v)) + rin Y v * dvN N.2.1 N.2.2.1 fi N.1 v) 32 (fun v hv => by
      show rin Y v * ex v = (W * (rin Y v * dl a v) - W * (rin Y v * dl b v)) + rin Y v * dvN N.2.1 N.2.2.1 fi N.1 v
      rw [hx v hv, Int.mul_add, Int.mul_sub, Int.mul_left_comm (rin Y v) W, Int.mul_left_comm (rin Y v) W]), sm_add, sn_sub, sn_mul, sn_mul, sn_dl (show a < 32 by omega), sn_dl (show b < 32 by omega)]
  have e3 : W * rin Y a - W * rin Y b ≤ CUTV g Y := by
    have c0 := hcut Y
    rcases rin_b Y a with ⟨f1, f2⟩ | ⟨f1, f2⟩ <;> rcases rin_b Y b with ⟨g1, g2⟩ | ⟨g1, g2⟩ <;> rw [f2, g2]
    · omega
    · have := hX.2.2.1 Y f1 g1; omega
    · omega
    · omega
  have m2 := sn_mono (f := fun v => psx (ex v)) (h := fun v => rin Y v * ex v + (σ - 1)) 32 (fun v hv => by
    show psx (ex v) ≤ rin Y v * ex v + (σ - 1)
    have p := psx_b (ex v)
    rcases rin_b Y v with ⟨f1, f2⟩ | ⟨f1, f2⟩ <;> rw [f2]
    · obtain ⟨v1, v2⟩ := (hY v).mp f1
      have lo : -σ < ex v := by
        rcases Int.lt_or_le (-σ) (ex v) with c | c
        · exact c
        · have := hk v v1 c
          unfold FRq at this
          omega
      unfold psx
      split <;> omega
    · have hi : ex v ≤ σ - 1 := by
        by_cases c : v < n
        · rcases Int.lt_or_le (ex v) σ with d | d
          · omega
          · have z := hl.2.2.1 v c d
            have := yf v c f1
            unfold FRq at this
            omega
        · by_cases d : σ ≤ ex v
          · exfalso
            have dz := dv_out (x := fi) hN (show n ≤ v by omega)
            have xv := hx v hv
            rw [dz] at xv
            rw [dl_n (show a ≠ v by omega), dl_n (show b ≠ v by omega), Int.mul_zero] at xv
            omega
          · omega
      unfold psx
      split <;> omega)
  rw [sm_add] at m2
  have cs2 : sm (fun _ => σ - 1) 32 = 32 * (σ - 1) := by
    have t := sn_mul (f := fun _ => 1) (k := σ - 1) 32
    rw [sm_eq (h := fun _ => (σ - 1) * 1) 32 (fun _ _ => (Int.mul_one _).symm), t, show sm (fun _ => (1 : Int)) 32 = 32 by decide]
    omega
  unfold psS
  omega
end
section
/-! turnEarners -/
def BND (B : Int) (ex : Nat → Int) : Prop := ∀ w, w < 32 → -B ≤ ex w ∧ ex w ≤ B
def TEP (s : GS) (σ : Int) (n : Nat) : Prop := NOK (netC s) n ∧ FOK (netC s) (fiC s) ∧ (∃ pi : Nat → Int, FE (RSA (netC s) (fiC s) σ) pi) ∧ BND 500000000 (exC s)
theorem tep_x {s sc : GS} {σ : Int} {n : Nat} (h : TEP s σ n) (h1 : netC sc = netC s) (h2 : fiC sc = fiC s) (hn : n ≤ 32) (h3 : ∀ v, v < 32 → sc.2.1 75 v = Int64.ofInt 0) : RXP sc σ n := by
  unfold RXP
  rw [h1, h2]
  exact ⟨h.1, h.2.1, fun v hv => Or.inl (by show (sc.2.1 75 v).toInt = 0; rw [h3 v (by omega)]; rfl), h.2.2.1⟩
def TFA (N : NT) (fi : Nat → Int) (σ : Int) (n : Nat) (f : Nat → Int) : Prop := CLO (RSA N fi σ) f ∧ ∀ v, v < n → f v < 9000000000000000 ∧ -32000000 ≤ f v ∧ f v ≤ 31000000
theorem tfa_i {N : NT} {fi : Nat → Int} {σ : Int} {n : Nat} {f0 vi0 f vi : Nat → Int} (h : RXE N fi σ n f0 vi0 f vi) (h0 : ∀ v, v < n → f0 v = 0) : TFA N fi σ n f := by
  refine ⟨h.1, fun v hv => ?_⟩
  obtain ⟨a1, a2, -⟩ := h.2.1 v hv
  rw [h0 v hv] at a1
  rcases a2 with a2 | a2
  · unfold FRq at a2; omega
  · exact a2
section TES
variable {s sc : GS} {e : Nat} {σ β : Int} {n : Nat} {t h w l a z : Int32} {ft fh k p m : Int64}
/-- how much it costs more -/
theorem te_m (hN : NOK (netC s) n) (he : e < (netC s).1) (hf : TFA (netC s) (fiC s) β n (faC sc)) (et : t = s.1 69 e) (eh : h = s.1 70 e) (ew : w = s.1 71 e) (e1 : ft = sc.2.1 75 t.toNatClampNeg) (e2 : k = w.toInt64) (e3 : p = ft + k) (e4 : fh = sc.2.1 75 h.toNatClampNeg) (e5 : m = p - fh) : m.toInt = faC sc ((netC s).2.1 e) + (netC s).2.2.2.1 e - faC sc ((netC s).2.2.1 e) := by
  obtain ⟨t1, t2, -, w1, w2⟩ := hN.2 e he
  have q1 := hf.2 _ t1
  have q2 := hf.2 _ t2
  have a1 : faC sc ((netC s).2.1 e) = ft.toInt := by rw [e1, et]; rfl
  have a2 : faC sc ((netC s).2.2.1 e) = fh.toInt := by rw [e4, eh]; rfl
  have a3 : (netC s).2.2.2.1 e = w.toInt := by rw [ew]; rfl
  have l1 := u_i2l e2
  rw [a1] at q1
  rw [a2] at q2
  rw [a3] at w1 w2
  have v1 := ladd_t e3 (by rw [l1]; omega) (by rw [l1]; omega)
  have v2 := lsub_t e5 (by rw [v1, l1]; omega) (by rw [v1, l1]; omega)
  rw [v2, v1, l1, a1, a2, a3]
theorem te_r (hF : FOK (netC s) (fiC sc)) (he : e < (netC s).1) (el : l = s.1 72 e) (ea : a = sc.1 73 e) (ez : z = l - a) : z.toInt = (netC s).2.2.2.2 e - fiC sc e ∧ fiC sc e = a.toInt := by
  have f := hF e he
  have a1 : (netC s).2.2.2.2 e = l.toInt := by rw [el]; rfl
  have a2 : fiC sc e = a.toInt := by rw [ea]; rfl
  rw [a1, a2] at f
  rw [a1, a2]
  exact ⟨isb_v ez (by omega) (by omega), rfl⟩
theorem te_n (hN : NOK (netC s) n) (he : e < (netC s).1) (hβ : 1 ≤ β) (hf : TFA (netC s) (fiC s) β n (faC sc)) (hT : TNJ (netC s) σ (β - 1) (faC sc) (fiC s) (exC s) (fiC sc) (exC sc) e) (hm : m.toInt = faC sc ((netC s).2.1 e) + (netC s).2.2.2.1 e - faC sc ((netC s).2.2.1 e)) (hr : z.toInt = (netC s).2.2.2.2 e - fiC sc e ∧ fiC sc e = a.toInt) (c1 : σ ≤ z.toInt → 0 ≤ m.toInt) (c2 : σ ≤ a.toInt → m.toInt ≤ 0) : TNJ (netC s) σ (β - 1) (faC sc) (fiC s) (exC s) (fiC sc) (exC sc) (e + 1) :=
  tri_n hT (by omega) ⟨fun q => by have := c1 (by omega); omega, fun q => by have := c2 (by omega); omega⟩
/-- a pipe is turned by d -/
theorem te_y {d b c g k2 j : Int32} (hN : NOK (netC s) n) (he : e < (netC s).1) (hσ : 1 ≤ σ) (hβ : 1 ≤ β ∧ β ≤ 1048576) (hf : TFA (netC s) (fiC s) β n (faC sc)) (hT : TNJ (netC s) σ (β - 1) (faC sc) (fiC s) (exC s) (fiC sc) (exC sc) e) (hP : (netC s).1 ≤ 160) (hm : m.toInt = faC sc ((netC s).2.1 e) + (netC s).2.2.2.1 e - faC sc ((netC s).2.2.1 e)) (et : t = s.1 69 e) (eh : h = s.1 70 e) (ea : a = sc.1 73 e)
    (hd : (m.toInt < 0 ∧ d.toInt = (netC s).2.2.2.2 e - fiC sc e) ∨ (0 < m.toInt ∧ d.toInt = -fiC sc e)) (e1 : b = a + d) (e2 : c = (sI sc 73 e b).1 74 h.toNatClampNeg) (e3 : g = c + d) (e4 : k2 = (sI (sI sc 73 e b) 74 h.toNatClampNeg g).1 74 t.toNatClampNeg) (e5 : j = k2 - d) : TNJ (netC s) σ (β - 1) (faC sc) (fiC s) (exC s) (fiC (sI (sI (sI sc 73 e b) 74 h.toNatClampNeg g) 74 t.toNatClampNeg j)) (exC (sI (sI (sI sc 73 e b) 74 h.toNatClampNeg g) 74 t.toNatClampNeg j)) (e + 1) := by
  obtain ⟨t1, t2, t3, -⟩ := hN.2 e he
  have n32 := hN.1
  have fo := hT.1 e he
  have old := hT.2.2.1 e (Nat.le_refl _)
  have q1 : (netC s).2.1 e = t.toNatClampNeg := by rw [et]; rfl
  have q2 : (netC s).2.2.1 e = h.toNatClampNeg := by rw [eh]; rfl
  have q3 : fiC sc e = a.toInt := by rw [ea]; rfl
  -- not more than was let through before
  have hb : -(β - 1) ≤ d.toInt ∧ d.toInt ≤ β - 1 ∧ 0 ≤ fiC sc e + d.toInt ∧ fiC sc e + d.toInt ≤ (netC s).2.2.2.2 e := by
    rcases hd with ⟨d1, d2⟩ | ⟨d1, d2⟩
    · have nc : ¬ β ≤ (netC s).2.2.2.2 e - fiC s e := by
        intro z
        have c := hf.1 _ _ _ ⟨e, he, Or.inl ⟨rfl, rfl, rfl, z⟩⟩ (hf.2 _ t1).1
        omega
      rw [← old] at nc
      exact ⟨by omega, by omega, by omega, by omega⟩
    · have nc : ¬ β ≤ fiC s e := by
        intro z
        have c := hf.1 _ _ _ ⟨e, he, Or.inr ⟨rfl, rfl, rfl, z⟩⟩ (hf.2 _ t2).1
        omega
      rw [← old] at nc
      exact ⟨by omega, by omega, by omega, by omega⟩
  have b6 : d.toInt ≤ 1000000 ∧ -1000000 ≤ d.toInt := by omega
  have xh := hT.2.2.2.2.2 h.toNatClampNeg (by omega)
  have xt := hT.2.2.2.2.2 t.toNatClampNeg (by omega)
  have ht : h.toNatClampNeg ≠ t.toNatClampNeg := by rw [← q1, ← q2]; exact fun z => t3 z.symm
  have bv : b.toInt = fiC sc e + d.toInt := by rw [q3]; exact iad_v e1 (by omega) (by omega)
  have cv : c.toInt = exC sc h.toNatClampNeg := by rw [e2, sI_p rfl]; rfl
  have gv : g.toInt = exC sc h.toNatClampNeg + d.toInt := by rw [← cv]; exact iad_v e3 (by omega) (by omega)
  have kv : k2.toInt = exC sc t.toNatClampNeg := by rw [e4, sI_q, up_n (fun z => ht z.symm), sI_p rfl]; rfl
  have jv : j.toInt = exC sc t.toNatClampNeg - d.toInt := by rw [← kv]; exact isb_v e5 (by omega) (by omega)
  have F : ∀ y, fiC (sI (sI (sI sc 73 e b) 74 h.toNatClampNeg g) 74 t.toNatClampNeg j) y = (upd (sc.1 73) e b y).toInt := by
    intro y
    show ((sI (sI (sI sc 73 e b) 74 h.toNatClampNeg g) 74 t.toNatClampNeg j).1 73 y).toInt = _
    rw [sI_p rfl, sI_p rfl, sI_q]
  have E : ∀ y, exC (sI (sI (sI sc 73 e b) 74 h.toNatClampNeg g) 74 t.toNatClampNeg j) y = (upd (upd (sc.1 74) h.toNatClampNeg g) t.toNatClampNeg j y).toInt := by
    intro y
    show ((sI (sI (sI sc 73 e b) 74 h.toNatClampNeg g) 74 t.toNatClampNeg j).1 74 y).toInt = _
    rw [sI_q, sI_q, sI_p rfl]
  have fe : fiC (sI (sI (sI sc 73 e b) 74 h.toNatClampNeg g) 74 t.toNatClampNeg j) e = fiC sc e + d.toInt := by rw [F e, up_e]; exact bv
  refine tri_y (m := d.toInt) hN hT he ?_ ⟨b6.2, b6.1⟩ ⟨hb.1, hb.2.1⟩ fe (fun y hy => by rw [F y, up_n hy]; rfl) hb.2.2 ?_ ?_ (fun y y1 y2 => ?_)
  · unfold TOK
    rw [fe]
    rcases hd with ⟨d1, d2⟩ | ⟨d1, d2⟩
    · exact ⟨fun z => by omega, fun _ => by omega⟩
    · exact ⟨fun _ => by omega, fun z => by omega⟩
  · rw [E, q2, up_n ht, up_e]; exact gv
  · rw [E, q1, up_e]; exact jv
  · rw [q2] at y1
    rw [q1] at y2
    rw [E, up_n y2, up_n y1]; rfl
end TES
def TEO (s t : GS) (β σ : Int) : Prop := FOK (netC s) (fiC t) ∧ FE (RSA (netC s) (fiC t) σ) (faC t) ∧ (∀ w, w < 32 → exC t w - dvN (netC s).2.1 (netC s).2.2.1 (fiC t) (netC s).1 w = exC s w - dvN (netC s).2.1 (netC s).2.2.1 (fiC s) (netC s).1 w) ∧ psS (exC t) ≤ psS (exC s) + 160 * (β - 1) ∧ BND 1000000000 (exC t)
theorem teo_i {s t : GS} {σ β : Int} {e : Nat} (h : TNJ (netC s) σ (β - 1) (faC t) (fiC s) (exC s) (fiC t) (exC t) e) (he : (netC s).1 ≤ e) (h160 : e ≤ 160) (hβ : 1 ≤ β) : TEO s t β σ := by
  refine ⟨h.1, tri_fe h he, h.2.2.2.1, ?_, fun w hw => ?_⟩
  · have a := h.2.2.2.2.1
    have b := Int.mul_le_mul_of_nonneg_left (show (e : Int) ≤ 160 by omega) (show 0 ≤ β - 1 by omega)
    omega
  · have := h.2.2.2.2.2 w hw
    exact ⟨by omega, by omega⟩
/-! carryAll -/
def CAP (s : GS) (σ : Int) (n : Nat) : Prop := NOK (netC s) n ∧ FOK (netC s) (fiC s) ∧ (∃ pi : Nat → Int, FE (RSA (netC s) (fiC s) σ) pi) ∧ BND 1000000000 (exC s) ∧ psS (exC s) ≤ 900000 * σ
def CAI (s t : GS) (σ : Int) (i : Int) : Prop := FOK (netC s) (fiC t) ∧ (∃ pi : Nat → Int, FE (RSA (netC s) (fiC t) σ) pi) ∧ BND 1000000000 (exC t) ∧ (∀ w, w < 32 → exC t w - dvN (netC s).2.1 (netC s).2.2.1 (fiC t) (netC s).1 w = exC s w - dvN (netC s).2.1 (netC s).2.2.1 (fiC s) (netC s).1 w) ∧ psS (exC t) + σ * i ≤ psS (exC s)
theorem cai_0 {s : GS} {σ : Int} {n : Nat} (h : CAP s σ n) : CAI s s σ 0 := ⟨h.2.1, h.2.2.1, h.2.2.2.1, fun _ _ => rfl, by rw [Int.mul_zero]; omega⟩
theorem cai_n {s t : GS} {σ i : Int} {n : Nat} (hc : CAP s σ n) (hN : netC t = netC s) (h : CAI s t σ i) : NLP t σ n := by
  unfold NLP
  rw [hN]
  exact ⟨hc.1, h.1, h.2.1⟩
theorem cai_s {s sc s1 s2 : GS} {σ i j : Int} {n : Nat} {z : Int32} {w : Int} (hσ : 1 ≤ σ) (hc : CAP s σ n) (h : CAI s sc σ i) (F0 : netC sc = netC s) (F1 : netC s1 = netC sc) (F2 : fiC s1 = fiC sc) (F3 : exC s1 = exC sc) (hL : ∃ r : Nat → Nat, NLF (netC sc) (fiC sc) σ n (exC sc) (faC s1) (viC s1) r) (hB : NBT (exC sc) (faC s1) σ n z.toInt) (hz : z.toInt ≠ -1) (hT : ∀ (σ : Int) (n : Nat) (r : Nat → Nat), CTP σ n r s1 z.toNatClampNeg → CTO σ n s1 s2 z.toNatClampNeg w) (hj : j = i + 1) : CAI s s2 σ j := by
  obtain ⟨h1, ⟨pi, h2⟩, h3, h4, h5⟩ := h
  obtain ⟨r, hr⟩ := hL
  have n32 := hc.1.1
  rw [F0] at hr F1
  rcases hB with ⟨c, -⟩ | ⟨b1, b2, b3, b4, b5⟩
  · exact absurd c hz
  · have bz : z.toInt.toNat = z.toNatClampNeg := rfl
    rw [bz] at b2 b3 b4 b5
    have bf : faC s1 z.toNatClampNeg < 9000000000000000 := by
      rcases hr.2.2.2 _ b2 with q | q
      · exact absurd q b4
      · exact q.1
    have hC : CTP σ n r s1 z.toNatClampNeg := by
      refine ⟨by omega, by rw [F1]; exact hc.1, by rw [F1, F2]; exact h1, by rw [F1, F2, F3]; exact hr, b2, by rw [F3]; exact b3, bf, fun v hv => ?_⟩
      rw [F3]
      exact h3 v (by omega)
    have ho := hT σ n r hC
    have fe := cto_fe hC ho (by rw [F1, F2]; exact h2) (Int.le_refl _)
    obtain ⟨o, m, o1, o2, o3, o4, o5, o6, o7, o8, o9, o10, o11, o12⟩ := ho
    rw [F1] at fe o9
    rw [F3] at o3 o5 o6
    have ne : z.toNatClampNeg ≠ o := by
      intro q
      rw [← q] at o3
      omega
    have ex : ∀ w, w < 32 → exC s2 w = exC sc w + m * dl z.toNatClampNeg w - m * dl o w := fun w hw => by have := o10 w hw; rw [F3] at this; exact this
    have ps := ps_carry (by omega) (by omega) ne ex (by omega) o5 o6
    refine ⟨o9, ⟨_, fe⟩, fun v hv => ?_, fun v hv => ?_, ?_⟩
    · have b := h3 v hv
      rw [ex v hv]
      by_cases c1 : z.toNatClampNeg = v
      · rw [← c1] at b ⊢
        rw [dl_e, dl_n (fun q => ne q.symm)]
        exact ⟨by omega, by omega⟩
      · rw [dl_n c1]
        by_cases c2 : o = v
        · rw [← c2] at b ⊢
          rw [dl_e]
          exact ⟨by omega, by omega⟩
        · rw [dl_n c2]
          exact ⟨by omega, by omega⟩
    · have a := o11 v hv
      rw [F1, F2, F3] at a
      rw [← h4 v hv]
      exact a
    · rw [hj, Int.mul_add, Int.mul_one, ps]
      omega
def CAO (s t : GS) (σ : Int) (n : Nat) : Prop := FOK (netC s) (fiC t) ∧ (∃ pi : Nat → Int, FE (RSA (netC s) (fiC t) σ) pi) ∧ (∀ w, w < 32 → exC t w - dvN (netC s).2.1 (netC s).2.2.1 (fiC t) (netC s).1 w = exC s w - dvN (netC s).2.1 (netC s).2.2.1 (fiC s) (netC s).1 w) ∧ (∃ r : Nat → Nat, NLF (netC s) (fiC t) σ n (exC t) (faC t) (viC t) r) ∧ ∀ v, v < n → exC t v ≤ -σ → faC t v = FRq
theorem cao_i {s sc s1 : GS} {σ i : Int} {n : Nat} {z : Int32} (h : CAI s sc σ i) (F0 : netC sc = netC s) (F2 : fiC s1 = fiC sc) (F3 : exC s1 = exC sc) (hL : ∃ r : Nat → Nat, NLF (netC sc) (fiC sc) σ n (exC sc) (faC s1) (viC s1) r) (hB : NBT (exC sc) (faC s1) σ n z.toInt) (hz : z.toInt = -1) : CAO s s1 σ n := by
  unfold CAO
  rw [F2, F3, ← F0]
  have h1 := h.1
  have h2 := h.2.1
  have h4 := h.2.2.2.1
  rw [← F0] at h1 h2 h4
  refine ⟨h1, h2, h4, hL, ?_⟩
  rcases hB with ⟨-, c⟩ | ⟨b1, -⟩
  · exact c
  · omega
theorem cai_x {s t : GS} {σ i : Int} {n : Nat} (hσ : 1 ≤ σ) (hc : CAP s σ n) (h : CAI s t σ i) (hi : 1000000 ≤ i) : False := by
  have a := h.2.2.2.2
  have b := psS_nn (exC t)
  have c := hc.2.2.2.2
  have d := Int.mul_le_mul_of_nonneg_left hi (show 0 ≤ σ by omega)
  omega
/-! layArcs -/
def lpv (g : GVW) (p : Nat) : Int := if (g.2.1 p).toInt ≠ -1 ∧ (g.2.1 p).toInt = (g.2.2.1 p).toInt ∧ pwt g p < 0 then rmg g p else 0
def LXF (g : GVW) (t : GS) (q : Nat) : Prop := LYX g (netC t) q ∧ (∀ e, e < (netC t).1 → fiC t e = 0) ∧ ∀ v, v < 32 → exC t v = 0
theorem lxf_0 {g : GVW} {t : GS} (h : t.2.2.1 65 8 = Int32.ofInt 0) (hx : ∀ v, v < 32 → t.1 74 v = Int32.ofInt 0) : LXF g t 0 := by
  have e : (netC t).1 = 0 := by
    show (t.2.2.1 65 8).toNatClampNeg = 0
    rw [h]
    rfl
  exact ⟨lyx_0 e, fun d hd => by omega, fun v hv => by show (t.1 74 v).toInt = 0; rw [hx v hv]; rfl⟩
theorem lxf_n {g : GVW} {t : GS} {q : Nat} (h : LXF g t q) (hn : ¬ JNG g q) : LXF g t (q + 1) := ⟨lyx_n h.1 hn, h.2⟩
theorem lxf_y {g : GVW} {s t : GS} {q : Nat} {a b c d : Int32} (h : LXF g s q) (hq : q < 160) (ea : a = g.2.1 q) (eb : b = g.2.2.1 q) (ec : c = g.2.2.2.1 q) (ed : d = g.2.2.2.2.1 q) (h1 : a.toInt ≠ -1) (h2 : a.toInt ≠ b.toInt) (h0 : 0 ≤ (s.2.2.1 65 8).toInt) (hl : (s.2.2.1 65 8).toInt < 160 → LYD s t a b c d) (hx : exC t = exC s) : LXF g t (q + 1) := by
  have k := lyx_c h.1
  have kk : (netC s).1 = (s.2.2.1 65 8).toInt.toNat := rfl
  obtain ⟨l1, l2, l3, l4, l5, l6⟩ := hl (by omega)
  have kn : (s.2.2.1 65 8).toNatClampNeg = (netC s).1 := rfl
  rw [kn] at l1 l2 l3 l4 l5
  have e0 : (netC t).1 = (netC s).1 + 1 := by
    show (t.2.2.1 65 8).toInt.toNat = _
    rw [l6, kk]
    omega
  have r1 : ∀ e, (netC t).2.1 e = (upd (s.1 69) (netC s).1 a e).toNatClampNeg := fun e => by show (t.1 69 e).toNatClampNeg = _; rw [l1]
  have r2 : ∀ e, (netC t).2.2.1 e = (upd (s.1 70) (netC s).1 b e).toNatClampNeg := fun e => by show (t.1 70 e).toNatClampNeg = _; rw [l2]
  have r3 : ∀ e, (netC t).2.2.2.1 e = (upd (s.1 71) (netC s).1 c e).toInt := fun e => by show (t.1 71 e).toInt = _; rw [l3]
  have r4 : ∀ e, (netC t).2.2.2.2 e = (upd (s.1 72) (netC s).1 d e).toInt := fun e => by show (t.1 72 e).toInt = _; rw [l4]
  have r5 : ∀ e, fiC t e = (upd (s.1 73) (netC s).1 (Int32.ofInt 0) e).toInt := fun e => by show (t.1 73 e).toInt = _; rw [l5]
  refine ⟨lyx_y h.1 ⟨by rw [← ea]; exact h1, by rw [← ea, ← eb]; exact h2⟩ e0 ?_ ?_ ?_ ?_ (fun e he => ⟨?_, ?_, ?_, ?_⟩), fun e he => ?_, by rw [hx]; exact h.2.2⟩
  · rw [r1, up_e, ea]; rfl
  · rw [r2, up_e, eb]; rfl
  · rw [r3, up_e, ec]; rfl
  · rw [r4, up_e, ed]; rfl
  · rw [r1, up_n he]; rfl
  · rw [r2, up_n he]; rfl
  · rw [r3, up_n he]; rfl
  · rw [r4, up_n he]; rfl
  · rw [r5]
    by_cases c : e = (netC s).1
    · rw [c, up_e]; rfl
    · rw [up_n c]
      exact h.2.1 e (by omega)
theorem lxf_w {g : GVW} {t : GS} {q : Nat} {T0 : Int} (h : LXF g t q) (hT : ∀ p : Nat, p < 160 → (g.2.1 p).toInt ≠ -1 → (p : Int) < T0) (hq : T0 ≤ (q : Int)) (h160 : q ≤ 160) : LXF g t 160 := by
  have a := lyx_w (160 - q) q h.1 (fun p h1 h2 hp => by
    have := hT p (by omega) hp.1
    omega)
  rw [show q + (160 - q) = 160 by omega] at a
  exact ⟨a, h.2⟩
/-- what loops cost -/
def LPS (g : GVW) (z : Int) (q : Nat) : Prop := z = sm (fun p => pwt g p * lpv g p) q
theorem lps_n {g : GVW} {z : Int} {q : Nat} (h : LPS g z q) (hn : lpv g q = 0) : LPS g z (q + 1) := by
  unfold LPS at h ⊢
  rw [sm_s, ← h, hn, Int.mul_zero]
  omega
theorem lpv_j {g : GVW} {q : Nat} {a b : Int32} (ea : a = g.2.1 q) (eb : b = g.2.2.1 q) (h : a.toInt ≠ b.toInt) : lpv g q = 0 := by
  unfold lpv
  rw [← ea, ← eb, if_neg (fun z => h z.2.1)]
theorem lpv_0 {g : GVW} {q : Nat} {a : Int32} (ea : a = g.2.1 q) (h : a.toInt = -1) : lpv g q = 0 := by
  unfold lpv
  rw [← ea, if_neg (fun z => z.1 h)]
theorem lpv_p {g : GVW} {q : Nat} {w : Int32} (ew : w = g.2.2.2.1 q) (h : 0 ≤ w.toInt) : lpv g q = 0 := by
  unfold lpv
  rw [if_neg (fun z => by have := z.2.2; unfold pwt at this; rw [← ew] at this; omega)]
theorem lps_b {g : GVW} {z : Int} {q : Nat} (hg : GVR g) (h : LPS g z q) (hq : q ≤ 160) : -160000000000000 ≤ z ∧ z ≤ 160000000000000 := by
  have a := sn_ab (f := fun p => pwt g p * lpv g p) (B := 1000000000000) q (fun p hp => by
    show -1000000000000 ≤ pwt g p * lpv g p ∧ pwt g p * lpv g p ≤ 1000000000000
    obtain ⟨-, -, r1, r2, w1, w2⟩ := hg p (by omega)
    unfold lpv
    split
    · have p1 := Int.mul_le_mul_of_nonneg_right w1 r1
      have p2 := Int.mul_le_mul_of_nonneg_right w2 r1
      exact ⟨by omega, by omega⟩
    · rw [Int.mul_zero]; exact ⟨by decide, by decide⟩)
  unfold LPS at h
  rw [h]
  exact ⟨by omega, by omega⟩
theorem lps_y {g : GVW} {q : Nat} {a b w w2 r : Int32} {x k l m y : Int64} (hg : GVR g) (h : LPS g x.toInt q) (hq : q < 160) (ea : a = g.2.1 q) (eb : b = g.2.2.1 q) (ew : w = g.2.2.2.1 q) (ew2 : w2 = g.2.2.2.1 q) (er : r = g.2.2.2.2.1 q) (h1 : a.toInt ≠ -1) (h2 : a.toInt = b.toInt) (h3 : w.toInt < 0) (e1 : k = w2.toInt64) (e2 : l = r.toInt64) (e3 : m = k * l) (e4 : y = x + m) : LPS g y.toInt (q + 1) := by
  have bd := lps_b hg h (by omega)
  obtain ⟨-, -, r1, r2, w1, w3⟩ := hg q hq
  have l1 := u_i2l e1
  have l2 := u_i2l e2
  have a1 : pwt g q = w2.toInt := by rw [ew2]; rfl
  have a2 : rmg g q = r.toInt := by rw [er]; rfl
  have a3 : pwt g q = w.toInt := by rw [ew]; rfl
  rw [a1] at w1 w3
  rw [a2] at r1 r2
  have p1 := Int.mul_le_mul_of_nonneg_right w1 r1
  have p2 := Int.mul_le_mul_of_nonneg_right w3 r1
  have v1 := lmul_t e3 (by rw [l1, l2]; omega) (by rw [l1, l2]; omega)
  rw [l1, l2] at v1
  have v2 := ladd_t e4 (by rw [v1]; omega) (by rw [v1]; omega)
  unfold LPS at h ⊢
  have lv : lpv g q = rmg g q := by
    unfold lpv
    rw [← ea, ← eb, if_pos ⟨h1, h2, by rw [a3]; exact h3⟩]
  rw [sm_s, ← h, lv, a1, a2, v2, v1]
theorem lps_w {g : GVW} {z : Int} {T0 : Int} : ∀ k q : Nat, LPS g z q → (∀ p : Nat, p < 160 → (g.2.1 p).toInt ≠ -1 → (p : Int) < T0) → T0 ≤ (q : Int) → q + k ≤ 160 → LPS g z (q + k) := by
  intro k
  induction k with
  | zero => intro q h _ _ _; exact h
  | succ k ih =>
    intro q h hT hq h160
    refine lps_n (ih q h hT hq (by omega)) (lpv_0 rfl ?_)
    rcases Int.lt_or_le (g.2.1 (q + k)).toInt (-1) with c | c
    · have := hT (q + k) (by omega) (by omega)
      omega
    · by_cases d : (g.2.1 (q + k)).toInt = -1
      · exact d
      · have := hT (q + k) (by omega) d
        omega
/-! cheapest -/
def STP (b s : Int) : Prop := (b = 1048576 ∧ s = 65536) ∨ (b = 65536 ∧ s = 4096) ∨ (b = 4096 ∧ s = 256) ∨ (b = 256 ∧ s = 16) ∨ (b = 16 ∧ s = 1) ∨ (b = 1 ∧ s = 0)
theorem stp_s {b s t : Int} (h : STP b s) (h0 : 0 < s) (ht : t = s / 16) : STP s t := by
  unfold STP at h ⊢
  rcases h with ⟨a, b⟩ | ⟨a, b⟩ | ⟨a, b⟩ | ⟨a, b⟩ | ⟨a, b⟩ | ⟨a, b⟩ <;> omega
def PHC (g : GVW) (n a b : Nat) (W β : Int) (t : GS) : Prop := LYX g (netC t) 160 ∧ FOK (netC t) (fiC t) ∧ (∃ pi : Nat → Int, FE (RSA (netC t) (fiC t) β) pi) ∧ (∀ v, v < 32 → exC t v = W * dl a v - W * dl b v + dvN (netC t).2.1 (netC t).2.2.1 (fiC t) (netC t).1 v) ∧ psS (exC t) ≤ 192 * (β - 1)
def GCK (g : GVW) (n : Nat) : Prop := NDQ g ∧ g.2.2.2.2.2.2.1 = (n : Int) ∧ n ≤ 32 ∧ GVR g
theorem cut_nn {g : GVW} (hg : GVR g) (Y : Nat → Bool) : 0 ≤ CUTV g Y := by
  unfold CUTV
  rw [sz_sm]
  refine sn_nn 160 (fun p hp => ?_)
  have := (hg p hp).2.2.1
  unfold cuA
  split
  · exact this
  · exact Int.le_refl _
theorem fok_dv {N : NT} {n : Nat} {fi : Nat → Int} (hN : NOK N n) (hF : FOK N fi) (hP : N.1 ≤ 160) (v : Nat) : -160000000 ≤ dvN N.2.1 N.2.2.1 fi N.1 v ∧ dvN N.2.1 N.2.2.1 fi N.1 v ≤ 160000000 := by
  have a := sn_ab (f := fun e => fi e * (dl (N.2.2.1 e) v - dl (N.2.1 e) v)) (B := 1000000) N.1 (fun e he => by
    show -1000000 ≤ fi e * (dl (N.2.2.1 e) v - dl (N.2.1 e) v) ∧ fi e * (dl (N.2.2.1 e) v - dl (N.2.1 e) v) ≤ 1000000
    have f := hF e he
    unfold dl
    split <;> split <;> exact ⟨by omega, by omega⟩)
  unfold dvN
  exact ⟨by omega, by omega⟩
theorem phc_b {g : GVW} {n a b : Nat} {W β : Int} {t : GS} (hg : GCK g n) (hW : 0 ≤ W ∧ W ≤ 200000000) (h : PHC g n a b W β t) : BND 500000000 (exC t) := by
  obtain ⟨kN, -⟩ := lyx_k hg.1 hg.2.1 hg.2.2.1 hg.2.2.2 h.1
  intro v hv
  have d := fok_dv kN h.2.1 (lyx_c h.1) v
  rw [h.2.2.2.1 v hv]
  unfold dl
  split <;> split <;> exact ⟨by omega, by omega⟩
theorem phc_0 {g : GVW} {n : Nat} {a b : Int32} {W z : Int32} {s : GS} (hg : GCK g n) (hW : In W 0 200000000) (hL : LXF g s 160) (ha : In a 0 31) (hb : In b 0 31) (hab : a.toInt ≠ b.toInt) (ez : z = -W) : PHC g n a.toNatClampNeg b.toNatClampNeg W.toInt 1048576 (sI (sI s 74 a.toNatClampNeg W) 74 b.toNatClampNeg z) := by
  obtain ⟨l1, l2, l3⟩ := hL
  have N : netC (sI (sI s 74 a.toNatClampNeg W) 74 b.toNatClampNeg z) = netC s := by
    unfold netC
    rw [sI_p rfl, sI_p rfl, sI_p rfl, sI_p rfl, sI_p rfl, sI_p rfl, sI_p rfl, sI_p rfl]
    rfl
  have F : fiC (sI (sI s 74 a.toNatClampNeg W) 74 b.toNatClampNeg z) = fiC s := by
    funext e
    show ((sI (sI s 74 a.toNatClampNeg W) 74 b.toNatClampNeg z).1 73 e).toInt = _
    rw [sI_p rfl, sI_p rfl]
    rfl
  have hv := ineg_v ez (by have := hW.1; omega)
  have ne : a.toNatClampNeg ≠ b.toNatClampNeg := by
    show a.toInt.toNat ≠ b.toInt.toNat
    have := ha.1
    have := hb.1
    omega
  have E : ∀ v, v < 32 → exC (sI (sI s 74 a.toNatClampNeg W) 74 b.toNatClampNeg z) v = W.toInt * dl a.toNatClampNeg v - W.toInt * dl b.toNatClampNeg v := by
    intro v h32
    show ((sI (sI s 74 a.toNatClampNeg W) 74 b.toNatClampNeg z).1 74 v).toInt = _
    rw [sI_q, sI_q]
    by_cases c1 : v = b.toNatClampNeg
    · rw [c1, up_e, dl_e, dl_n ne, hv]; omega
    · rw [up_n c1, dl_n (fun q => c1 q.symm)]
      by_cases c2 : v = a.toNatClampNeg
      · rw [c2, up_e, dl_e]; omega
      · rw [up_n c2, dl_n (fun q => c2 q.symm)]
        have := l3 v h32
        unfold exC at this
        omega
  obtain ⟨kN, kl⟩ := lyx_k hg.1 hg.2.1 hg.2.2.1 hg.2.2.2 l1
  have d0 : ∀ v, dvN (netC s).2.1 (netC s).2.2.1 (fiC s) (netC s).1 v = 0 := fun v => sm_0 _ (fun e h => by show fiC s e * _ = 0; rw [l2 e h, Int.zero_mul])
  unfold PHC
  rw [N, F]
  refine ⟨l1, fun e he => ⟨by rw [l2 e he]; decide, by rw [l2 e he]; exact (kl e he).1, (kl e he).2⟩, ⟨fun _ => 0, fun u v w hr => ?_⟩, fun v h32 => by rw [E v h32, d0 v]; omega, ?_⟩
  · exfalso
    obtain ⟨e, he, hr⟩ := hr
    have k := kl e he
    have f := l2 e he
    rcases hr with ⟨-, -, -, q⟩ | ⟨-, -, -, q⟩ <;> omega
  · have m := sn_mono (f := fun v => psx (exC (sI (sI s 74 a.toNatClampNeg W) 74 b.toNatClampNeg z) v)) (h := fun v => W.toInt * dl a.toNatClampNeg v) 32 (fun v h32 => by
      show psx (exC (sI (sI s 74 a.toNatClampNeg W) 74 b.toNatClampNeg z) v) ≤ W.toInt * dl a.toNatClampNeg v
      rw [E v h32]
      have w0 := hW.1
      unfold psx dl
      split <;> split <;> split <;> omega)
    rw [sn_mul] at m
    have o := sn_dl (g := fun _ => 1) (a := a.toNatClampNeg) (n := 32) (show a.toInt.toNat < 32 by have := ha.1; have := ha.2; omega)
    rw [sm_eq (h := fun v => (fun _ => (1 : Int)) v * dl a.toNatClampNeg v) 32 (fun v _ => (Int.one_mul _).symm), o] at m
    have w2 := hW.2
    unfold psS
    omega
/-- one step: turned, then carried -/
theorem phc_t {g : GVW} {n a b : Nat} {W β : Int} {t : GS} (hg : GCK g n) (hW : 0 ≤ W ∧ W ≤ 200000000) (h : PHC g n a b W β t) : TEP t β n := by
  obtain ⟨kN, -⟩ := lyx_k hg.1 hg.2.1 hg.2.2.1 hg.2.2.2 h.1
  exact ⟨kN, h.2.1, h.2.2.1, phc_b hg hW h⟩
theorem phc_c {g : GVW} {n a b : Nat} {W β σ : Int} {t u : GS} (hg : GCK g n) (hs : STP β σ) (h0 : 0 < σ) (h : PHC g n a b W β t) (ho : TEO t u β σ) (hN : netC u = netC t) : CAP u σ n := by
  obtain ⟨kN, -⟩ := lyx_k hg.1 hg.2.1 hg.2.2.1 hg.2.2.2 h.1
  obtain ⟨o1, o2, o3, o4, o5⟩ := ho
  unfold CAP
  rw [hN]
  refine ⟨kN, o1, ⟨_, o2⟩, o5, ?_⟩
  have := h.2.2.2.2
  unfold STP at hs
  omega
theorem phc_s {g : GVW} {n a b : Nat} {W β σ V : Int} {t u w : GS} {X : Nat → Bool} (hg : GCK g n) (hW0 : 0 ≤ W) (hX : FLX g a b V X) (hWV : W ≤ V) (ha : a < n) (hb : b < n) (h0 : 0 < σ) (h : PHC g n a b W β t) (ho : TEO t u β σ) (hN : netC u = netC t) (hc : CAO u w σ n) (hM : netC w = netC u) : PHC g n a b W σ w := by
  obtain ⟨kN, -⟩ := lyx_k hg.1 hg.2.1 hg.2.2.1 hg.2.2.2 h.1
  obtain ⟨o1, o2, o3, o4, o5⟩ := ho
  obtain ⟨c1, c2, c3, ⟨r, c4⟩, c5⟩ := hc
  have bal : ∀ v, v < 32 → exC w v = W * dl a v - W * dl b v + dvN (netC t).2.1 (netC t).2.2.1 (fiC w) (netC t).1 v := by
    intro v hv
    have x := c3 v hv
    have y := o3 v hv
    have z := h.2.2.2.1 v hv
    rw [hN] at x
    omega
  rw [hN] at c1 c2 c4 hM
  unfold PHC
  rw [hM]
  exact ⟨h.1, c1, c2, bal, ps_left kN c1 h.1 ha hb hW0 hX hWV (by omega) (cut_nn hg.2.2.2) bal c4 c5⟩
/-! the end: the pipes are places -/
theorem lyx_b {g : GVW} {N : NT} {fi q : Nat → Int} (h : LYX g N 160) (hF : FOK N fi) (hq : FE (RSA N fi 1) q) : ∃ y : Nat → Int, (∀ p, p < 160 → (¬ JNG g p ∧ y p = 0) ∨ (JNG g p ∧ 0 ≤ y p ∧ y p ≤ rmg g p ∧ (y p < rmg g p → q (cto g p) ≤ q (cfr g p) + pwt g p) ∧ (0 < y p → q (cfr g p) ≤ q (cto g p) - pwt g p))) ∧ (∀ v, dvN (cfr g) (cto g) y 160 v = dvN N.2.1 N.2.2.1 fi N.1 v) ∧ sm (fun p => pwt g p * y p) 160 = sm (fun e => N.2.2.2.1 e * fi e) N.1 := by
  obtain ⟨pl, h1, h2, h3⟩ := h
  have inj : ∀ d e, d < N.1 → e < N.1 → d ≠ e → pl d ≠ pl e := by
    intro d e hd he hn
    rcases Nat.lt_or_ge d e with c | c
    · have := h2 d e c he; omega
    · have := h2 e d (by omega) hd; omega
  have xp : ∀ e, e < N.1 → sm (fun d => fi d * dl (pl d) (pl e)) N.1 = fi e := by
    intro e he
    have t := sm_one (f := fun _ => 0) (h := fun d => fi d * dl (pl d) (pl e)) (u := e) (d := fi e) N.1 he (fun k hk hn => (by show fi k * dl (pl k) (pl e) = 0; rw [dl_n (inj k e hk he hn), Int.mul_zero])) (by show fi e * dl (pl e) (pl e) = 0 + fi e; rw [dl_e, Int.mul_one, Int.zero_add])
    rw [sm_0 (f := fun _ => 0) N.1 (fun _ _ => rfl)] at t
    omega
  have xo : ∀ p, (∀ e, e < N.1 → pl e ≠ p) → sm (fun d => fi d * dl (pl d) p) N.1 = 0 := fun p hp => sm_0 _ (fun e he => by show fi e * dl (pl e) p = 0; rw [dl_n (hp e he), Int.mul_zero])
  have zn : ∀ p, ¬ JNG g p → sm (fun d => fi d * dl (pl d) p) N.1 = 0 := fun p hn => xo p (fun e he c => hn (by rw [← c]; exact (h1 e he).2.1))
  have sur : ∀ p, p < 160 → JNG g p → ∃ e, e < N.1 ∧ pl e = p := by
    intro p hp hj
    apply Classical.byContradiction
    intro hn
    have a := h3 (fun k => dl p k) (fun k _ hk => dl_n (fun c => hk (by rw [← c]; exact hj)))
    have b : sm (fun e => dl p (pl e)) N.1 = 0 := sm_0 _ (fun e he => dl_n (fun c => hn ⟨e, he, c.symm⟩))
    have c := sn_dl (g := fun _ => 1) (a := p) (n := 160) hp
    rw [sm_eq (h := fun k => dl p k) 160 (fun k _ => Int.one_mul _)] at c
    rw [b, c] at a
    omega
  refine ⟨fun p => sm (fun d => fi d * dl (pl d) p) N.1, fun p hp => ?_, fun v => ?_, ?_⟩
  · try dsimp only
    by_cases c : JNG g p
    · right
      obtain ⟨e, he, ep⟩ := sur p hp c
      obtain ⟨a1, a2, a3, a4, a5, a6⟩ := h1 e he
      have f := hF e he
      rw [← ep, xp e he]
      rw [a6] at f
      refine ⟨a2, f.1, f.2.1, fun z => ?_, fun z => ?_⟩
      · have := hq _ _ _ ⟨e, he, Or.inl ⟨rfl, rfl, rfl, by rw [a6]; omega⟩⟩
        rw [a3, a4, a5] at this
        exact this
      · have := hq _ _ _ ⟨e, he, Or.inr ⟨rfl, rfl, rfl, by omega⟩⟩
        rw [a3, a4, a5] at this
        omega
    · exact Or.inl ⟨c, zn p c⟩
  · have a := h3 (fun p => sm (fun d => fi d * dl (pl d) p) N.1 * (dl (cto g p) v - dl (cfr g p) v)) (fun p hp hn => by show sm _ _ * _ = 0; rw [zn p hn, Int.zero_mul])
    unfold dvN
    rw [← a]
    refine sm_eq _ (fun e he => ?_)
    show sm (fun d => fi d * dl (pl d) (pl e)) N.1 * (dl (cto g (pl e)) v - dl (cfr g (pl e)) v) = fi e * (dl (N.2.2.1 e) v - dl (N.2.1 e) v)
    rw [xp e he, (h1 e he).2.2.1, (h1 e he).2.2.2.1]
  · have a := h3 (fun p => pwt g p * sm (fun d => fi d * dl (pl d) p) N.1) (fun p hp hn => by show _ * sm _ _ = 0; rw [zn p hn, Int.mul_zero])
    rw [← a]
    exact sm_eq _ (fun e he => by show pwt g (pl e) * sm (fun d => fi d * dl (pl d) (pl e)) N.1 = N.2.2.2.1 e * fi e; rw [xp e he, (h1 e he).2.2.2.2.1])
/-- least, by prices of nodes -/
theorem cst_opt {g : GVW} {a b : Nat} {W : Int} {x q : Nat → Int} (hg : GVR g) (hx : CFE g a b W x) (h1 : ∀ p, p < 160 → EXG g p → (x p < rmg g p → q (cto g p) ≤ q (cfr g p) + pwt g p) ∧ (0 < x p → q (cfr g p) ≤ q (cto g p) - pwt g p)) (h0 : ∀ p, p < 160 → ¬ EXG g p → x p = 0) : CSX g a b W (sm (fun p => pwt g p * x p) 160) := by
  refine Or.inr ⟨⟨x, hx, rfl⟩, fun y hy => ?_⟩
  have lp := lp_le (P := 160) (tl := cfr g) (hd := cto g) (pr := pwt g) (q := q) (x := x) (y := y) (fun p hp => ⟨(hg p hp).1, (hg p hp).2.1⟩) (fun p hp => by
    by_cases c : EXG g p
    · obtain ⟨k1, k2⟩ := h1 p hp c
      have r0 := (hg p hp).2.2.1
      have yb : 0 ≤ y p ∧ y p ≤ rmg g p := by
        rcases hy.1 p hp with z | z
        · omega
        · exact z.2
      rcases Int.lt_trichotomy (x p) (y p) with d | d | d
      · have := k1 (by omega)
        exact Int.mul_nonneg (by omega) (by omega)
      · rw [d, Int.sub_self, Int.zero_mul]; exact Int.le_refl _
      · have := k2 (by omega)
        exact nn_np (by omega) (by omega)
    · have z1 := h0 p hp c
      have z2 : y p = 0 := by
        rcases hy.1 p hp with z | z
        · exact z
        · exact absurd z.1 c
      rw [z1, z2, Int.sub_self, Int.zero_mul]; exact Int.le_refl _)
  rw [sm_0 32 (fun v hv => by show q v * (dvN (cfr g) (cto g) y 160 v - dvN (cfr g) (cto g) x 160 v) = 0; rw [hx.2 v hv, hy.2 v hv, Int.sub_self, Int.mul_zero])] at lp
  omega
theorem cst_C {g : GVW} {n a b : Nat} {W z : Int} {t : GS} (hg : GCK g n) (h : PHC g n a b W 1 t) (hz : z = sm (fun p => pwt g p * lpv g p) 160 + sm (fun e => (netC t).2.2.2.1 e * fiC t e) (netC t).1) (ha : a < n) (hb : b < n) : CSX g a b W z := by
  obtain ⟨l1, l2, ⟨q, hq⟩, l4, l5⟩ := h
  obtain ⟨kN, -⟩ := lyx_k hg.1 hg.2.1 hg.2.2.1 hg.2.2.2 l1
  have n32 := hg.2.2.1
  -- nothing is left over
  have ps0 : psS (exC t) = 0 := by have := psS_nn (exC t); omega
  have exn : ∀ v, v < 32 → exC t v ≤ 0 := by
    intro v hv
    rcases Int.lt_or_le 0 (exC t v) with c | c
    · exfalso
      have m := sn_mono (f := fun w => exC t v * dl v w) (h := fun w => psx (exC t w)) 32 (fun w _ => by
        show exC t v * dl v w ≤ psx (exC t w)
        by_cases d : v = w
        · rw [← d, dl_e, Int.mul_one]; exact (psx_b _).2.1
        · rw [dl_n d, Int.mul_zero]; exact (psx_b _).1)
      rw [sn_mul] at m
      have o := sn_dl (g := fun _ => 1) (a := v) (n := 32) hv
      rw [sm_eq (h := fun w => (fun _ => (1 : Int)) w * dl v w) 32 (fun w _ => (Int.one_mul _).symm), o] at m
      unfold psS at ps0
      omega
    · exact c
  have tot : sm (exC t) 32 = 0 := by
    have d := dv_al (tl := (netC t).2.1) (hd := (netC t).2.2.1) (x := fiC t) (g := fun _ => 1) (netC t).1 (fun e he => by have := kN.2 e he; exact ⟨by omega, by omega⟩)
    rw [sm_0 (netC t).1 (fun e _ => by show fiC t e * (1 - 1) = 0; rw [Int.sub_self, Int.mul_zero])] at d
    have w1 := sn_dl (g := fun _ => W) (a := a) (n := 32) (by omega)
    have w2 := sn_dl (g := fun _ => W) (a := b) (n := 32) (by omega)
    try dsimp only at w1 w2
    rw [sm_eq (h := fun v => (W * dl a v - W * dl b v) + 1 * dvN (netC t).2.1 (netC t).2.2.1 (fiC t) (netC t).1 v) 32 (fun v hv => by rw [l4 v hv, Int.one_mul]), sm_add, sn_sub, w1, w2, d]
    omega
  have ex0 : ∀ v, v < 32 → exC t v = 0 := by
    intro v hv
    rcases Int.lt_or_le (exC t v) 0 with c | c
    · exfalso
      have m := sn_mono (f := exC t) (h := fun w => exC t v * dl v w) 32 (fun w hw => by
        show exC t w ≤ exC t v * dl v w
        by_cases d : v = w
        · rw [← d, dl_e, Int.mul_one]; exact Int.le_refl _
        · rw [dl_n d, Int.mul_zero]; exact exn w hw)
      rw [sn_mul] at m
      have o := sn_dl (g := fun _ => 1) (a := v) (n := 32) hv
      rw [sm_eq (h := fun w => (fun _ => (1 : Int)) w * dl v w) 32 (fun w _ => (Int.one_mul _).symm), o] at m
      omega
    · have := exn v hv
      omega
  obtain ⟨y, y1, y2, y3⟩ := lyx_b l1 l2 hq
  have lv : ∀ p, lpv g p = 0 ∨ ((g.2.1 p).toInt ≠ -1 ∧ (g.2.1 p).toInt = (g.2.2.1 p).toInt ∧ pwt g p < 0 ∧ lpv g p = rmg g p) := by
    intro p
    unfold lpv
    by_cases c : (g.2.1 p).toInt ≠ -1 ∧ (g.2.1 p).toInt = (g.2.2.1 p).toInt ∧ pwt g p < 0
    · rw [if_pos c]; exact Or.inr ⟨c.1, c.2.1, c.2.2, rfl⟩
    · rw [if_neg c]; exact Or.inl rfl
  have ce : ∀ p, (g.2.1 p).toInt = (g.2.2.1 p).toInt → cfr g p = cto g p := fun p h => by show (g.2.1 p).toInt.toNat = (g.2.2.1 p).toInt.toNat; rw [h]
  have hx : CFE g a b W (fun p => y p + lpv g p) := by
    refine ⟨fun p hp => ?_, fun v hv => ?_⟩
    · try dsimp only
      have r := hg.2.2.2 p hp
      rcases y1 p hp with ⟨c1, c2⟩ | ⟨c1, c2, c3, -⟩
      · rcases lv p with z | z
        · exact Or.inl (by omega)
        · exact Or.inr ⟨z.1, by omega, by omega⟩
      · rcases lv p with z | z
        · exact Or.inr ⟨c1.1, by omega, by omega⟩
        · exact absurd z.2.1 c1.2
    · have e : dvN (cfr g) (cto g) (fun p => y p + lpv g p) 160 v = dvN (cfr g) (cto g) y 160 v := sm_eq 160 (fun p hp => by
        show (y p + lpv g p) * (dl (cto g p) v - dl (cfr g p) v) = y p * (dl (cto g p) v - dl (cfr g p) v)
        rcases lv p with z | z
        · rw [z, Int.add_zero]
        · rw [ce p z.2.1, Int.sub_self, Int.mul_zero, Int.mul_zero])
      rw [e, y2 v]
      have := l4 v hv
      have := ex0 v hv
      omega
  have s : sm (fun p => pwt g p * (y p + lpv g p)) 160 = z := by
    rw [sm_eq (h := fun p => pwt g p * y p + pwt g p * lpv g p) 160 (fun p _ => Int.mul_add _ _ _), sm_add, y3, hz]
    omega
  have o := cst_opt (q := q) hg.2.2.2 hx (fun p hp he => ?_) (fun p hp he => ?_)
  · try dsimp only at o
    rw [s] at o
    exact o
  · try dsimp only
    rcases y1 p hp with ⟨c1, c2⟩ | ⟨c1, c2, c3, c4, c5⟩
    · have eq : (g.2.1 p).toInt = (g.2.2.1 p).toInt := by
        by_cases d : (g.2.1 p).toInt = (g.2.2.1 p).toInt
        · exact d
        · exact absurd ⟨he, d⟩ c1
      rw [c2, ce p eq]
      rcases lv p with z | z
      · rw [z]
        have : ¬ pwt g p < 0 ∨ rmg g p = 0 := by
          by_cases d : pwt g p < 0
          · right
            unfold lpv at z
            rw [if_pos ⟨he, eq, d⟩] at z
            exact z
          · exact Or.inl d
        exact ⟨fun k => by omega, fun k => by omega⟩
      · rw [z.2.2.2]
        exact ⟨fun k => by omega, fun _ => by omega⟩
    · rcases lv p with z | z
      · rw [z, Int.add_zero]; exact ⟨c4, c5⟩
      · exact absurd z.2.1 c1.2
  · try dsimp only
    rcases y1 p hp with ⟨c1, c2⟩ | ⟨c1, c2⟩
    · rcases lv p with z | z
      · omega
      · exact absurd z.1 he
    · exact absurd c1.1 he
/-- the sum so far -/
def SMF (t : GS) (z0 z : Int) (k : Nat) : Prop := z = z0 + sm (fun e => (netC t).2.2.2.1 e * fiC t e) k
theorem smf_b {t : GS} {n : Nat} {z0 z : Int} {k : Nat} (hN : NOK (netC t) n) (hF : FOK (netC t) (fiC t)) (h : SMF t z0 z k) (hk : k ≤ (netC t).1) (h160 : (netC t).1 ≤ 160) (hz : -160000000000000 ≤ z0 ∧ z0 ≤ 160000000000000) : -320000000000000 ≤ z ∧ z ≤ 320000000000000 := by
  have a := sn_ab (f := fun e => (netC t).2.2.2.1 e * fiC t e) (B := 1000000000000) k (fun e he => by
    show -1000000000000 ≤ (netC t).2.2.2.1 e * fiC t e ∧ (netC t).2.2.2.1 e * fiC t e ≤ 1000000000000
    have f := hF e (by omega)
    have w := (hN.2 e (by omega)).2.2.2
    have p1 := Int.mul_le_mul_of_nonneg_right w.1 f.1
    have p2 := Int.mul_le_mul_of_nonneg_right w.2 f.1
    exact ⟨by omega, by omega⟩)
  unfold SMF at h
  rw [h]
  exact ⟨by omega, by omega⟩
theorem smf_s {t : GS} {n : Nat} {z0 : Int} {k : Nat} {w f : Int32} {x a b m y : Int64} (hN : NOK (netC t) n) (hF : FOK (netC t) (fiC t)) (h : SMF t z0 x.toInt k) (hk : k < (netC t).1) (h160 : (netC t).1 ≤ 160) (hz : -160000000000000 ≤ z0 ∧ z0 ≤ 160000000000000) (ew : w = t.1 71 k) (ef : f = t.1 73 k) (e1 : a = w.toInt64) (e2 : b = f.toInt64) (e3 : m = a * b) (e4 : y = x + m) : SMF t z0 y.toInt (k + 1) := by
  have bd := smf_b hN hF h (by omega) h160 hz
  have l1 := u_i2l e1
  have l2 := u_i2l e2
  have a1 : (netC t).2.2.2.1 k = w.toInt := by rw [ew]; rfl
  have a2 : fiC t k = f.toInt := by rw [ef]; rfl
  have fo := hF k hk
  have wb := (hN.2 k hk).2.2.2
  rw [a2] at fo
  rw [a1] at wb
  have p1 := Int.mul_le_mul_of_nonneg_right wb.1 fo.1
  have p2 := Int.mul_le_mul_of_nonneg_right wb.2 fo.1
  have v1 := lmul_t e3 (by rw [l1, l2]; omega) (by rw [l1, l2]; omega)
  rw [l1, l2] at v1
  have v2 := ladd_t e4 (by rw [v1]; omega) (by rw [v1]; omega)
  unfold SMF at h ⊢
  rw [sm_s, a1, a2, v2, v1, h]
  omega
theorem gvr_C {s : GS} (hI : Inv s) (hn : NDQ (gvC s)) : GCK (gvC s) (s.2.2.1 2 1).toNatClampNeg := by
  have g := gok_C hI hn
  refine ⟨g.1, g.2.1, g.2.2.1, fun p hp => ?_⟩
  have w := g.2.2.2 p hp
  have f := hI.1.1 4 p (Nat.lt_of_lt_of_le hp (Nat.le_of_ble_eq_true rfl))
  have t := hI.1.1 5 p (Nat.lt_of_lt_of_le hp (Nat.le_of_ble_eq_true rfl))
  have r := rm_C hI p hp
  have e1 : rI 4 = (-1, 31) := rfl
  have e2 : rI 5 = (0, 31) := rfl
  rw [e1] at f
  rw [e2] at t
  exact ⟨(show ((s.1 4 p).toInt.toNat) < 32 by have := f.2; omega), (show ((s.1 5 p).toInt.toNat) < 32 by have := t.2; omega), r.1, r.2, w.1, w.2⟩
theorem gvr_D {s : GS} (hI : Inv s) (hn : NDQ (gvD s)) : GCK (gvD s) (s.2.2.1 32 1).toNatClampNeg := by
  have g := gok_D hI hn
  refine ⟨g.1, g.2.1, g.2.2.1, fun p hp => ?_⟩
  have w := g.2.2.2 p hp
  have f := hI.1.1 34 p (Nat.lt_of_lt_of_le hp (Nat.le_of_ble_eq_true rfl))
  have t := hI.1.1 35 p (Nat.lt_of_lt_of_le hp (Nat.le_of_ble_eq_true rfl))
  have r := rm_D hI p hp
  have e1 : rI 34 = (-1, 31) := rfl
  have e2 : rI 35 = (0, 31) := rfl
  rw [e1] at f
  rw [e2] at t
  exact ⟨(show ((s.1 34 p).toInt.toNat) < 32 by have := f.2; omega), (show ((s.1 35 p).toInt.toNat) < 32 by have := t.2; omega), r.1, r.2, w.1, w.2⟩
end
section
/-! THE REFERENCE'S COSTS -/
def ztl (s : GS) (a : Nat) : Nat := (s.1 113 (bs s + a)).toNatClampNeg
def zhd (s : GS) (a : Nat) : Nat := (s.1 114 (bs s + a)).toNatClampNeg
def zf (s : GS) (f : Nat → Int64) (a : Nat) : Int := if (s.1 112 (bs s + a)).toInt ≠ 0 then (f a).toInt else 0
def ZD (s : GS) (f : Nat → Int64) (v : Nat) : Int := dvN (ztl s) (zhd s) (zf s f) 160 v
/-- rows of the graph stay -/
def ZSM (s t : GS) : Prop := t.1 112 = s.1 112 ∧ t.1 113 = s.1 113 ∧ t.1 114 = s.1 114 ∧ t.1 115 = s.1 115 ∧ t.1 116 = s.1 116 ∧ t.2.2.1 109 19 = s.2.2.1 109 19 ∧ t.2.2.1 109 20 = s.2.2.1 109 20
theorem zsm_z {s t : GS} (h : ZSM s t) : ztl t = ztl s ∧ zhd t = zhd s ∧ ∀ f, zf t f = zf s f := by
  obtain ⟨h1, h2, h3, h4, h5, h6, h7⟩ := h
  have b : bs t = bs s := by unfold bs; rw [h6]
  refine ⟨?_, ?_, fun f => ?_⟩
  · funext a; unfold ztl; rw [h2, b]
  · funext a; unfold zhd; rw [h3, b]
  · funext a; unfold zf; rw [h1, b]
theorem zsm_d {s t : GS} (h : ZSM s t) (f : Nat → Int64) : ZD t f = ZD s f := by
  obtain ⟨a, b, c⟩ := zsm_z h
  funext v
  unfold ZD
  rw [a, b, c]
theorem zsm_r {s t : GS} (h : ZSM s t) (f : Nat → Int64) : RQf t f = RQf s f := by
  obtain ⟨h1, h2, h3, h4, h5, h6, h7⟩ := h
  have b : bs t = bs s := by unfold bs; rw [h6]
  funext u v w
  unfold RQf
  rw [h1, h2, h3, h4, h5, b]
/-- one push -/
theorem zd_pl {S W : GS} {x m : Int} {g v : Nat} (h : PL S x m g v) (hx : (v : Int) ≠ x) (hm1 : 1 ≤ m) (hm2 : m ≤ 1000000000) (hp : PU S W v m) (w : Nat) : ZD S (W.2.1 147) w = ZD S (S.2.1 147) w + m * dl v w - m * dl (bf S v) w := by
  obtain ⟨s0, hI, h1, h2, hr, hb, ht⟩ := h
  obtain ⟨y, p1, p2⟩ := hp
  have hnd := pbw_nd hb hx
  obtain ⟨r, hr2⟩ := id hr
  obtain ⟨q1, q2, q3, q4, q5, q6, q7⟩ := ev_bf hI hr2 hnd hx
  have hfb := pbw_fb hb (ar s0 v) q5 q6
  have hn := (arc_n hI q5 q6).2.2.2
  have p3 := p2 (by unfold FO; rw [ar_cg h1]; exact ⟨by omega, by omega⟩) (by omega) hm2
  rw [ar_cg h1] at p1 p3
  have bb : bs S = bs s0 := by unfold bs; rw [h2]
  have th : (S.1 112 (bs S + ar s0 v)).toInt ≠ 0 := by rw [h1, bb]; exact q6
  have z1 : zf S (W.2.1 147) (ar s0 v) = zf S (S.2.1 147) (ar s0 v) + (if 200 ≤ (S.1 148 v).toInt then -m else m) := by
    unfold zf
    rw [if_pos th, if_pos th, p1, ul_eq, p3]
  have z2 : ∀ a, a ≠ ar s0 v → zf S (W.2.1 147) a = zf S (S.2.1 147) a := by
    intro a ha
    unfold zf
    rw [p1, ul_ne ha]
  have d := dv_up (tl := ztl S) (hd := zhd S) (x := zf S (S.2.1 147)) (y := zf S (W.2.1 147)) (P := 160) q5 z1 z2 w
  have e1 : ztl S (ar s0 v) = (s0.1 113 (bs s0 + ar s0 v)).toNatClampNeg := by unfold ztl; rw [h1, bb]
  have e2 : zhd S (ar s0 v) = (s0.1 114 (bs s0 + ar s0 v)).toNatClampNeg := by unfold zhd; rw [h1, bb]
  rw [e1, e2, h1] at d
  rw [bf_cg h1 h2]
  unfold ZD
  rw [d]
  rcases q7 with ⟨c1, c2, c3⟩ | ⟨c1, c2, c3⟩
  · rw [if_pos c1, c2, c3, nt_r4]
    omega
  · rw [if_neg (by omega), c2, c3, nt_r3]
    omega
def ZBL (s S : GS) (a b : Nat) (W : Int) : Prop := ∀ v : Nat, v < 32 → (v : Int) < (s.2.2.1 109 20).toInt → (S.2.1 150 v).toInt = W * dl a v - W * dl b v + ZD s (S.2.1 147) v
/-- what sends does -/
def SNE (s t : GS) (x : Nat) : Prop := ∃ (g : Nat) (m : Int), 1 ≤ m ∧ m ≤ (s.2.1 150 x).toInt ∧ m ≤ -(s.2.1 150 g).toInt ∧ g ≠ x ∧ g < 32 ∧ (g : Int) < (s.2.2.1 109 20).toInt ∧ (∀ w : Nat, w < 32 → (w : Int) < (s.2.2.1 109 20).toInt → (t.2.1 150 w).toInt = (s.2.1 150 w).toInt + m * dl g w - m * dl x w) ∧ ∀ w : Nat, ZD s (t.2.1 147) w = ZD s (s.2.1 147) w + m * dl g w - m * dl x w
theorem sne_i {s sc T : GS} {x g : Int32} {m a1 a2 z1 z2 : Int64} (hs : SU s) (hx : In x 0 31) (hxn : x.toInt < (s.2.2.1 109 20).toInt) (hg : In g 0 31) (hgn : g.toInt < (s.2.2.1 109 20).toInt) (hne : ((g.toNatClampNeg : Nat) : Int) ≠ x.toInt) (hm : MO s x.toNatClampNeg g.toNatClampNeg m.toInt) (e0 : sc.2.1 150 = s.2.1 150) (e1 : a1 = sc.2.1 150 x.toNatClampNeg) (e2 : z1 = a1 - m) (e3 : a2 = (sL sc 150 x.toNatClampNeg z1).2.1 150 g.toNatClampNeg) (e4 : z2 = a2 + m) (hT : T = sL (sL sc 150 x.toNatClampNeg z1) 150 g.toNatClampNeg z2) (hd : ∀ w, ZD s (sc.2.1 147) w = ZD s (s.2.1 147) w + m.toInt * dl g.toNatClampNeg w - m.toInt * dl x.toNatClampNeg w) : SNE s T x.toNatClampNeg := by
  have x32 := nat_in hx hxn
  have g32 := nat_in hg hgn
  have ne : g.toNatClampNeg ≠ x.toNatClampNeg := by
    intro c
    apply hne
    rw [c]
    exact clx hx.1
  have sx := hs _ x32.1 x32.2
  have sg := hs _ g32.1 g32.2
  obtain ⟨m1, m2, m3, m4⟩ := hm
  have v1 : z1.toInt = (s.2.1 150 x.toNatClampNeg).toInt - m.toInt := by
    have q : a1.toInt = (s.2.1 150 x.toNatClampNeg).toInt := by rw [e1, e0]
    rw [lsub_t e2 (by rw [q]; omega) (by rw [q]; omega), q]
  have qa : a2.toInt = (s.2.1 150 g.toNatClampNeg).toInt := by rw [e3, sL_qn, ul_ne ne, e0]
  have v2 : z2.toInt = (s.2.1 150 g.toNatClampNeg).toInt + m.toInt := by rw [ladd_t e4 (by rw [qa]; omega) (by rw [qa]; omega), qa]
  have t1 : T.2.1 150 = vp_updL (vp_updL (s.2.1 150) x.toNatClampNeg z1) g.toNatClampNeg z2 := by rw [hT, sL_qn, sL_qn, e0]
  have t2 : T.2.1 147 = sc.2.1 147 := by rw [hT]; rfl
  refine ⟨g.toNatClampNeg, m.toInt, m1, m2, m3, ne, g32.1, g32.2, fun w _ _ => ?_, fun w => by rw [t2]; exact hd w⟩
  rw [t1]
  by_cases c1 : w = g.toNatClampNeg
  · rw [c1, ul_eq, dl_e, dl_n (fun z => ne z.symm), v2]; omega
  · rw [ul_ne c1, dl_n (fun z => c1 z.symm)]
    by_cases c2 : w = x.toNatClampNeg
    · rw [c2, ul_eq, dl_e, v1]; omega
    · rw [ul_ne c2, dl_n (fun z => c2 z.symm)]; omega
theorem zbl_s {s S T : GS} {a b x : Nat} {W : Int} (hZ : ZSM s S) (h : ZBL s S a b W) (hs : SNE S T x) : ZBL s T a b W := by
  obtain ⟨g, m, m1, m2, m3, m4, m5, m6, m7, m8⟩ := hs
  intro v hv hn
  have e := m7 v hv (by rw [hZ.2.2.2.2.2.2]; exact hn)
  have d := m8 v
  rw [zsm_d hZ, zsm_d hZ] at d
  rw [e, d, h v hv hn]
  omega
theorem sne_le {S T : GS} {x : Nat} (hs : SNE S T x) {v : Nat} (hv : v < 32) (hn : (v : Int) < (S.2.2.1 109 20).toInt) (hx : v ≠ x) (h : (S.2.1 150 v).toInt ≤ 0) : (T.2.1 150 v).toInt ≤ 0 := by
  obtain ⟨g, m, m1, m2, m3, m4, m5, m6, m7, m8⟩ := hs
  rw [m7 v hv hn, dl_n (fun z => hx z.symm)]
  by_cases c : g = v
  · rw [← c, dl_e]; omega
  · rw [dl_n c]; omega
/-! no way to go on -/
def RCL (s t : GS) (x : Nat) : Prop := (t.2.1 149 x).toInt < 9000000000000000 ∧ ∀ u v w, RQf s (s.2.1 147) u v w → (t.2.1 149 u).toInt < 9000000000000000 → (t.2.1 149 v).toInt < 9000000000000000
theorem rcl_i {s t : GS} {x : Int} (hI : Inv s) (hp : CP s) (hx0 : 0 ≤ x) (hx : x < 32) (hxn : x < (s.2.2.1 109 20).toInt) (st : SQ s t) (h : CI s x t) (hc : CLQ s t 160) : RCL s t x.toNat := by
  refine ⟨?_, fun u v w hr hu => ?_⟩
  · have a := h.2.1
    rw [pf_n st.2.2.2.2.2.2.2 (show ((x.toNat : Nat) : Int) < _ by omega)] at a
    omega
  · have n := rq_n hI hr
    have b := ci_b hI hp hx st h n.1.1 n.1.2 hu
    obtain ⟨e, he, ht, hr⟩ := hr
    obtain ⟨c1, c2⟩ := hc e he ht
    rcases hr with ⟨r1, r2, r3, r4⟩ | ⟨r1, r2, r3, r4⟩
    · have d := c1 r1
      rw [r2, r3] at d
      have := d hu
      omega
    · have d := c2 r1
      rw [r2, r3] at d
      have := d hu
      omega
def GSC (s t : GS) (k : Nat) (g : Int) : Prop := g < 0 → ∀ v : Nat, v < k → (v : Int) < (s.2.2.1 109 20).toInt → (s.2.1 150 v).toInt < 0 → ¬ (t.2.1 149 v).toInt < 9000000000000000
theorem gsc_n {s t : GS} {k : Nat} {g : Int} (h : GSC s t k g) (hk : g < 0 → (s.2.1 150 k).toInt < 0 → ¬ (t.2.1 149 k).toInt < 9000000000000000) : GSC s t (k + 1) g := by
  intro hg v hv hn hs
  by_cases c : v = k
  · rw [c] at hs ⊢; exact hk hg hs
  · exact h hg v (by omega) hn hs
def INF (s : GS) (x : Nat) : Prop := ∃ Y : Nat → Bool, Y x = true ∧ (∀ v, Y v = true → v < 32 ∧ (v : Int) < (s.2.2.1 109 20).toInt ∧ 0 ≤ (s.2.1 150 v).toInt) ∧ ∀ u v w, RQf s (s.2.1 147) u v w → Y u = true → Y v = true
theorem inf_i {s t : GS} {x k : Nat} {g : Int} (hI : Inv s) (hx : x < 32) (hxn : (x : Int) < (s.2.2.1 109 20).toInt) (hr : RCL s t x) (hs : GSC s t k g) (hg : g < 0) (hk : (s.2.2.1 109 20).toInt ≤ (k : Int)) : INF s x := by
  refine ⟨fun v => decide (v < 32 ∧ (v : Int) < (s.2.2.1 109 20).toInt ∧ (t.2.1 149 v).toInt < 9000000000000000), decide_eq_true ⟨hx, hxn, hr.1⟩, fun v hv => ?_, fun u v w hq hu => ?_⟩
  · obtain ⟨a, b, c⟩ := of_decide_eq_true hv
    refine ⟨a, b, ?_⟩
    rcases Int.lt_or_le (s.2.1 150 v).toInt 0 with d | d
    · exact absurd c (hs hg v (by omega) b d)
    · exact d
  · have n := rq_n hI hq
    obtain ⟨a, b, c⟩ := of_decide_eq_true hu
    exact decide_eq_true ⟨n.2.1.1, n.2.1.2, hr.2 u v w hq c⟩
/-! places -/
theorem gz_r {s : GS} (hI : Inv s) (p : Nat) : rmg (gvZ s) p = (s.1 116 (bs s + p)).toInt := by rw [gz_b hI]; rfl
theorem gz_x {s : GS} {p : Nat} (hI : Inv s) (hp : p < 160) : (EXG (gvZ s) p ↔ (s.1 112 (bs s + p)).toInt ≠ 0) ∧ ((s.1 112 (bs s + p)).toInt ≠ 0 → cfr (gvZ s) p = ztl s p ∧ cto (gvZ s) p = zhd s p ∧ pwt (gvZ s) p = (s.1 115 (bs s + p)).toInt) := by
  have k : (s.1 112 (bs s + p)).toInt ≠ 0 → EXG (gvZ s) p ∧ cfr (gvZ s) p = ztl s p ∧ cto (gvZ s) p = zhd s p ∧ pwt (gvZ s) p = (s.1 115 (bs s + p)).toInt := by
    intro h
    obtain ⟨a, b⟩ := gz_e (p := p) hI rfl h rfl rfl
    have c := gz_w (p := p) hI rfl
    have n := arc_n hI hp h
    refine ⟨?_, ?_, ?_, ?_⟩
    · show ((gvZ s).2.1 p).toInt ≠ -1
      rw [← a]
      have := n.1.1.1
      omega
    · show ((gvZ s).2.1 p).toNatClampNeg = _
      rw [← a]; rfl
    · show ((gvZ s).2.2.1 p).toNatClampNeg = _
      rw [← b]; rfl
    · show ((gvZ s).2.2.2.1 p).toInt = _
      rw [← c]
  refine ⟨⟨fun h c => ?_, fun h => (k h).1⟩, fun h => (k h).2⟩
  rw [gz_b hI] at c
  exact h (tg_no (x := s.1 112 (160 * (s.2.2.1 109 18).toNatClampNeg + p)) rfl c)
theorem gvr_Z {s : GS} (hI : Inv s) : GCK (gvZ s) (s.2.2.1 109 20).toNatClampNeg := by
  have g := gok_Z hI
  refine ⟨g.1, g.2.1, g.2.2.1, fun p hp => ?_⟩
  have w := g.2.2.2 p hp
  have r := rm_Z hI p hp
  have g1 := inv_F hI (z := s.2.2.1 109 18) 0 1 rfl rfl
  have ge : (s.2.2.1 109 18).toNatClampNeg = (s.2.2.1 109 18).toInt.toNat := rfl
  unfold In at g1
  have t := hI.1.1 114 (160 * (s.2.2.1 109 18).toNatClampNeg + p) (Nat.lt_of_lt_of_le (show _ < 480 by omega) (Nat.le_of_ble_eq_true rfl))
  have e2 : rI 114 = (0, 31) := rfl
  rw [e2] at t
  have f : cfr (gvZ s) p < 32 := by
    by_cases c : (s.1 112 (bs s + p)).toInt ≠ 0
    · rw [((gz_x hI hp).2 c).1]
      have n := (arc_n hI hp c).1
      exact (nat_in n.1 n.2).1
    · have e : ¬ EXG (gvZ s) p := fun z => c ((gz_x hI hp).1.mp z)
      have m : ((gvZ s).2.1 p).toInt = -1 := by
        by_cases d : ((gvZ s).2.1 p).toInt = -1
        · exact d
        · exact absurd d e
      show ((gvZ s).2.1 p).toInt.toNat < 32
      rw [m]
      decide
  exact ⟨f, (show ((s.1 114 (160 * (s.2.2.1 109 18).toNatClampNeg + p)).toInt.toNat) < 32 by have := t.2; omega), r.1, r.2, w.1, w.2⟩
theorem zd_c {s : GS} (hI : Inv s) (f : Nat → Int64) (v : Nat) : dvN (cfr (gvZ s)) (cto (gvZ s)) (zf s f) 160 v = ZD s f v := sm_eq 160 (fun p hp => by
  show zf s f p * (dl (cto (gvZ s) p) v - dl (cfr (gvZ s) p) v) = zf s f p * (dl (zhd s p) v - dl (ztl s p) v)
  by_cases c : (s.1 112 (bs s + p)).toInt ≠ 0
  · obtain ⟨e1, e2, -⟩ := (gz_x hI hp).2 c
    rw [e1, e2]
  · unfold zf
    rw [if_neg c, Int.zero_mul, Int.zero_mul])
theorem zd_out {s : GS} (hI : Inv s) (f : Nat → Int64) {v : Nat} (hv : (s.2.2.1 109 20).toInt ≤ (v : Int)) : ZD s f v = 0 := sm_0 160 (fun p hp => by
  show zf s f p * (dl (zhd s p) v - dl (ztl s p) v) = 0
  by_cases c : (s.1 112 (bs s + p)).toInt ≠ 0
  · have n := arc_n hI hp c
    have n1 := nat_in n.1.1 n.1.2
    have n2 := nat_in n.2.1.1 n.2.1.2
    rw [dl_n (show zhd s p ≠ v by unfold zhd; omega), dl_n (show ztl s p ≠ v by unfold ztl; omega), Int.sub_self, Int.mul_zero]
  · unfold zf
    rw [if_neg c, Int.zero_mul])
/-- infeasible -/
theorem cst_inf {s S : GS} {a b x : Nat} {W z : Int} (hI : Inv s) (hZ : ZSM s S) (ha : a < 32) (han : (a : Int) < (s.2.2.1 109 20).toInt) (hb : b < 32) (hbn : (b : Int) < (s.2.2.1 109 20).toInt) (hW : 0 ≤ W) (hB : ZBL s S a b W) (hF : FB s (S.2.1 147)) (hi : INF S x) (hp : 0 < (S.2.1 150 x).toInt) (hz : z = 9000000000000000) : CSX (gvZ s) a b W z := by
  have hg := (gvr_Z hI).2.2.2
  obtain ⟨Y, y1, y2, y3⟩ := hi
  rw [zsm_r hZ] at y3
  refine Or.inl ⟨fun y hy => ?_, hz⟩
  -- the sum over Y
  have x32 := y2 x y1
  rw [hZ.2.2.2.2.2.2] at x32
  have m1 := sn_mono (f := fun v => (S.2.1 150 x).toInt * dl x v) (h := fun v => rin Y v * (W * dl a v - W * dl b v + ZD s (S.2.1 147) v)) 32 (fun v hv => by
    show (S.2.1 150 x).toInt * dl x v ≤ rin Y v * (W * dl a v - W * dl b v + ZD s (S.2.1 147) v)
    rcases rin_b Y v with ⟨f1, f2⟩ | ⟨f1, f2⟩
    · have v2 := y2 v f1
      rw [hZ.2.2.2.2.2.2] at v2
      rw [f2, Int.one_mul, ← hB v hv v2.2.1]
      by_cases c : x = v
      · rw [← c, dl_e, Int.mul_one]; exact Int.le_refl _
      · rw [dl_n c, Int.mul_zero]; exact v2.2.2
    · rw [f2, Int.zero_mul]
      by_cases c : x = v
      · rw [c, f1] at y1; cases y1
      · rw [dl_n c, Int.mul_zero]; exact Int.le_refl _)
  have o := sn_dl (g := fun _ => (S.2.1 150 x).toInt) (a := x) (n := 32) x32.1
  try dsimp only at o
  rw [o] at m1
  have e2 : sm (fun v => rin Y v * (W * dl a v - W * dl b v + ZD s (S.2.1 147) v)) 32 = (W * rin Y a - W * rin Y b) + sm (fun v => rin Y v * ZD s (S.2.1 147) v) 32 := by
    rw [sm_eq (h := fun v => (W * (rin Y v * dl a v) - W * (rin Y v * dl b v)) + rin Y v * ZD s (S.2.1 147) v) 32 (fun v hv => by
      show rin Y v * (W * dl a v - W * dl b v + ZD s (S.2.1 147) v) = _
      rw [Int.mul_add, Int.mul_sub, Int.mul_left_comm (rin Y v) W, Int.mul_left_comm (rin Y v) W]), sm_add, sn_sub, sn_mul, sn_mul, sn_dl ha, sn_dl hb]
  have e3 := dv_al (tl := cfr (gvZ s)) (hd := cto (gvZ s)) (x := zf s (S.2.1 147)) (g := rin Y) 160 (fun p hp => ⟨(hg p hp).1, (hg p hp).2.1⟩)
  rw [sm_eq (h := fun v => rin Y v * ZD s (S.2.1 147) v) 32 (fun v _ => by rw [zd_c hI])] at e3
  have m2 := sn_mono (f := fun p => zf s (S.2.1 147) p * (rin Y (cto (gvZ s) p) - rin Y (cfr (gvZ s) p))) (h := fun p => 0 - cuA (gvZ s) Y p) 160 (fun p hp => by
    show zf s (S.2.1 147) p * (rin Y (cto (gvZ s) p) - rin Y (cfr (gvZ s) p)) ≤ 0 - cuA (gvZ s) Y p
    have ef : ((gvZ s).2.1 p).toInt.toNat = cfr (gvZ s) p := rfl
    have et : ((gvZ s).2.2.1 p).toInt.toNat = cto (gvZ s) p := rfl
    unfold cuA
    rw [ef, et]
    by_cases c : (s.1 112 (bs s + p)).toInt ≠ 0
    · obtain ⟨k1, k2, k3⟩ := (gz_x hI hp).2 c
      have fb := hF p hp c
      have rm := gz_r hI p
      have zz : zf s (S.2.1 147) p = (S.2.1 147 p).toInt := by unfold zf; rw [if_pos c]
      rw [zz]
      rcases rin_b Y (cfr (gvZ s) p) with ⟨f1, f2⟩ | ⟨f1, f2⟩ <;> rcases rin_b Y (cto (gvZ s) p) with ⟨t1, t2⟩ | ⟨t1, t2⟩ <;> rw [f2, t2]
      · rw [if_neg (fun z => by rw [t1] at z; exact absurd z.2.2 (by decide))]; omega
      · have full : ¬ (S.2.1 147 p).toInt < (s.1 116 (bs s + p)).toInt := by
          intro q
          have r := y3 (ztl s p) (zhd s p) _ ⟨p, hp, c, Or.inl ⟨q, rfl, rfl, rfl⟩⟩ (by rw [← k1]; exact f1)
          rw [← k2, t1] at r
          cases r
        rw [if_pos ⟨(gz_x hI hp).1.mpr c, f1, t1⟩]
        unfold rmg at rm
        omega
      · have empty : ¬ 0 < (S.2.1 147 p).toInt := by
          intro q
          have r := y3 (zhd s p) (ztl s p) _ ⟨p, hp, c, Or.inr ⟨q, rfl, rfl, rfl⟩⟩ (by rw [← k2]; exact t1)
          rw [← k1, f1] at r
          cases r
        rw [if_neg (fun z => by rw [f1] at z; exact absurd z.2.1 (by decide))]
        omega
      · rw [if_neg (fun z => by rw [f1] at z; exact absurd z.2.1 (by decide))]; omega
    · have zz : zf s (S.2.1 147) p = 0 := by unfold zf; rw [if_neg c]
      rw [zz, if_neg (fun z => c ((gz_x hI hp).1.mp z.1))]
      omega)
  rw [sn_sub, sm_0 (f := fun _ => 0) 160 (fun _ _ => rfl)] at m2
  have cv : CUTV (gvZ s) Y = sm (cuA (gvZ s) Y) 160 := by unfold CUTV; rw [sz_sm]
  have c0 := cut_nn hg Y
  rcases rin_b Y a with ⟨f1, f2⟩ | ⟨f1, f2⟩ <;> rcases rin_b Y b with ⟨g1, g2⟩ | ⟨g1, g2⟩ <;> rw [f2, g2] at e2
  · omega
  · have := cut_le hg ha hb hy f1 g1
    omega
  · omega
  · omega
/-- all is sent: the least -/
theorem cst_Z {s S : GS} {a b : Nat} {W z : Int} (hI : Inv s) (hZ : ZSM s S) (ha : a < 32) (han : (a : Int) < (s.2.2.1 109 20).toInt) (hb : b < 32) (hbn : (b : Int) < (s.2.2.1 109 20).toInt) (hB : ZBL s S a b W) (hC : CO S) (h0 : ∀ v : Nat, v < 32 → (v : Int) < (s.2.2.1 109 20).toInt → (S.2.1 150 v).toInt ≤ 0) (hz : z = sm (fun p => pwt (gvZ s) p * zf s (S.2.1 147) p) 160) : CSX (gvZ s) a b W z := by
  have hg := (gvr_Z hI).2.2.2
  obtain ⟨hF, q, hq⟩ := hC
  rw [zsm_r hZ] at hq
  have hF2 : FB s (S.2.1 147) := by
    intro p hp c
    have k := hF p hp (by rw [hZ.1, show bs S = bs s by unfold bs; rw [hZ.2.2.2.2.2.1]]; exact c)
    rw [hZ.2.2.2.2.1, show bs S = bs s by unfold bs; rw [hZ.2.2.2.2.2.1]] at k
    exact k
  -- all sums are 0
  have nonpos : ∀ v, v < 32 → W * dl a v - W * dl b v + ZD s (S.2.1 147) v ≤ 0 := by
    intro v hv
    by_cases c : (v : Int) < (s.2.2.1 109 20).toInt
    · rw [← hB v hv c]; exact h0 v hv c
    · rw [zd_out hI _ (by omega), dl_n (show a ≠ v by omega), dl_n (show b ≠ v by omega), Int.mul_zero]
      decide
  have tot : sm (fun v => W * dl a v - W * dl b v + ZD s (S.2.1 147) v) 32 = 0 := by
    have d := dv_al (tl := cfr (gvZ s)) (hd := cto (gvZ s)) (x := zf s (S.2.1 147)) (g := fun _ => 1) 160 (fun p hp => ⟨(hg p hp).1, (hg p hp).2.1⟩)
    rw [sm_0 160 (fun e _ => by show zf s (S.2.1 147) e * (1 - 1) = 0; rw [Int.sub_self, Int.mul_zero]), sm_eq (h := fun v => ZD s (S.2.1 147) v) 32 (fun v _ => by rw [zd_c hI, Int.one_mul])] at d
    have w1 := sn_dl (g := fun _ => W) (a := a) (n := 32) ha
    have w2 := sn_dl (g := fun _ => W) (a := b) (n := 32) hb
    try dsimp only at w1 w2
    rw [sm_add, sn_sub, w1, w2, d]
    omega
  have zero : ∀ v, v < 32 → W * dl a v - W * dl b v + ZD s (S.2.1 147) v = 0 := by
    intro v hv
    have n := nonpos v hv
    rcases Int.lt_or_le (W * dl a v - W * dl b v + ZD s (S.2.1 147) v) 0 with c | c
    · exfalso
      have m := sn_mono (f := fun w => W * dl a w - W * dl b w + ZD s (S.2.1 147) w) (h := fun w => (W * dl a v - W * dl b v + ZD s (S.2.1 147) v) * dl v w) 32 (fun w hw => by
        show W * dl a w - W * dl b w + ZD s (S.2.1 147) w ≤ (W * dl a v - W * dl b v + ZD s (S.2.1 147) v) * dl v w
        by_cases d : v = w
        · rw [← d, dl_e, Int.mul_one]; exact Int.le_refl _
        · rw [dl_n d, Int.mul_zero]; exact nonpos w hw)
      have o := sn_dl (g := fun _ => W * dl a v - W * dl b v + ZD s (S.2.1 147) v) (a := v) (n := 32) hv
      try dsimp only at o
      rw [o, tot] at m
      omega
    · omega
  have hx : CFE (gvZ s) a b W (zf s (S.2.1 147)) := by
    refine ⟨fun p hp => ?_, fun v hv => ?_⟩
    · by_cases c : (s.1 112 (bs s + p)).toInt ≠ 0
      · have fb := hF2 p hp c
        have rm := gz_r hI p
        right
        refine ⟨(gz_x hI hp).1.mpr c, ?_, ?_⟩
        · unfold zf; rw [if_pos c]; exact fb.1
        · unfold zf; rw [if_pos c, rm]; exact fb.2
      · left
        unfold zf; rw [if_neg c]
    · rw [zd_c hI]
      have := zero v hv
      omega
  rw [hz]
  refine cst_opt (q := q) hg hx (fun p hp he => ?_) (fun p hp he => ?_)
  · have c := (gz_x hI hp).1.mp he
    obtain ⟨k1, k2, k3⟩ := (gz_x hI hp).2 c
    have rm := gz_r hI p
    have zz : zf s (S.2.1 147) p = (S.2.1 147 p).toInt := by unfold zf; rw [if_pos c]
    rw [zz, rm, k1, k2, k3]
    refine ⟨fun z => ?_, fun z => ?_⟩
    · exact hq _ _ _ ⟨p, hp, c, Or.inl ⟨z, rfl, rfl, rfl⟩⟩
    · have := hq _ _ _ ⟨p, hp, c, Or.inr ⟨z, rfl, rfl, rfl⟩⟩
      unfold ztl zhd
      omega
  · unfold zf
    rw [if_neg (fun z => he ((gz_x hI hp).1.mpr z))]
/-! the beginning -/
def ZB0 (f : Nat → Int64) (a b : Nat) (W : Int) (k : Nat) : Prop := ∀ v, v < k → (f v).toInt = W * dl a v - W * dl b v
theorem zb0_s {f g : Nat → Int64} {a b : Nat} {W : Int} {k : Nat} {w : Int64} (h : ZB0 f a b W k) (hg : g = vp_updL f k w) (hw : w.toInt = W * dl a k - W * dl b k) : ZB0 g a b W (k + 1) := by
  intro v hv
  rw [hg]
  by_cases c : v = k
  · rw [c, ul_eq]; exact hw
  · rw [ul_ne c]; exact h v (by omega)
/-- behind k arcs -/
def ZBP (s S : GS) (a b : Nat) (W : Int) (k : Nat) : Prop := ∀ v : Nat, v < 32 → (v : Int) < (s.2.2.1 109 20).toInt → (S.2.1 150 v).toInt = W * dl a v - W * dl b v + dvN (ztl s) (zhd s) (zf s (S.2.1 147)) k v
theorem zbp_n {s S T : GS} {a b : Nat} {W : Int} {k : Nat} {w : Int64} (h : ZBP s S a b W k) (hn : (s.1 112 (bs s + k)).toInt = 0) (t1 : T.2.1 147 = vp_updL (S.2.1 147) k w) (t2 : T.2.1 150 = S.2.1 150) : ZBP s T a b W (k + 1) := by
  intro v hv hvn
  rw [t2, h v hv hvn]
  have e : dvN (ztl s) (zhd s) (zf s (T.2.1 147)) (k + 1) v = dvN (ztl s) (zhd s) (zf s (S.2.1 147)) k v := by
    unfold dvN
    rw [sm_s]
    have z : zf s (T.2.1 147) k = 0 := by unfold zf; rw [if_neg (fun q => q hn)]
    rw [z, Int.zero_mul, Int.add_zero]
    refine sm_eq k (fun p hp => ?_)
    show zf s (T.2.1 147) p * _ = zf s (S.2.1 147) p * _
    unfold zf
    rw [t1, ul_ne (by omega)]
  rw [e]
theorem zbp_y {s S T : GS} {a b : Nat} {W B : Int} {k : Nat} {w w1 w2 a1 a2 z1 z2 : Int64} (h : ZBP s S a b W k) (hs : SB B s (S.2.1 150)) (hB : 0 ≤ B ∧ B ≤ 1000000000) (hn : (s.1 112 (bs s + k)).toInt ≠ 0) (f32 : ztl s k < 32) (t32 : zhd s k < 32) (fn : ((ztl s k : Nat) : Int) < (s.2.2.1 109 20).toInt) (tn : ((zhd s k : Nat) : Int) < (s.2.2.1 109 20).toInt) (hw : -1000000 ≤ w.toInt ∧ w.toInt ≤ 1000000) (t1 : T.2.1 147 = vp_updL (S.2.1 147) k w) (e1 : a1 = S.2.1 150 (ztl s k)) (ew1 : w1 = w) (e2 : z1 = a1 - w1) (e3 : a2 = vp_updL (S.2.1 150) (ztl s k) z1 (zhd s k)) (ew2 : w2 = w) (e4 : z2 = a2 + w2) (t2 : T.2.1 150 = vp_updL (vp_updL (S.2.1 150) (ztl s k) z1) (zhd s k) z2) : ZBP s T a b W (k + 1) := by
  have sf := hs _ f32 fn
  have st := hs _ t32 tn
  have v1 : z1.toInt = (S.2.1 150 (ztl s k)).toInt - w.toInt := by
    rw [e1, ew1] at e2
    exact lsub_t e2 (by omega) (by omega)
  have qa : a2.toInt = if zhd s k = ztl s k then z1.toInt else (S.2.1 150 (zhd s k)).toInt := by
    rw [e3]
    by_cases c : zhd s k = ztl s k
    · rw [if_pos c, c, ul_eq]
    · rw [if_neg c, ul_ne c]
  have ba : -2000000000 ≤ a2.toInt ∧ a2.toInt ≤ 2000000000 := by rw [qa]; split <;> omega
  have v2 : z2.toInt = a2.toInt + w.toInt := by
    rw [ew2] at e4
    exact ladd_t e4 (by omega) (by omega)
  intro v hv hvn
  have o := h v hv hvn
  have e : dvN (ztl s) (zhd s) (zf s (T.2.1 147)) (k + 1) v = dvN (ztl s) (zhd s) (zf s (S.2.1 147)) k v + w.toInt * (dl (zhd s k) v - dl (ztl s k) v) := by
    unfold dvN
    rw [sm_s]
    have z : zf s (T.2.1 147) k = w.toInt := by unfold zf; rw [if_pos hn, t1, ul_eq]
    rw [z]
    congr 1
    refine sm_eq k (fun p hp => ?_)
    show zf s (T.2.1 147) p * _ = zf s (S.2.1 147) p * _
    unfold zf
    rw [t1, ul_ne (by omega)]
  rw [e, t2]
  by_cases c1 : v = zhd s k
  · rw [c1, ul_eq, v2, qa, dl_e]
    rw [c1] at o
    by_cases c2 : zhd s k = ztl s k
    · rw [if_pos c2, v1, ← c2, dl_e, o]
      omega
    · rw [if_neg c2, dl_n (fun z => c2 z.symm), o]
      omega
  · rw [ul_ne c1, dl_n (fun z => c1 z.symm)]
    by_cases c2 : v = ztl s k
    · rw [c2, ul_eq, v1, dl_e]
      rw [c2] at o
      rw [o]
      omega
    · rw [ul_ne c2, dl_n (fun z => c2 z.symm), o]
      omega
/-- the sum -/
def ZSU (s S : GS) (z : Int) (k : Nat) : Prop := z = sm (fun p => pwt (gvZ s) p * zf s (S.2.1 147) p) k
theorem zsu_n {s S : GS} {z : Int} {k : Nat} (h : ZSU s S z k) (hn : (s.1 112 (bs s + k)).toInt = 0) : ZSU s S z (k + 1) := by
  unfold ZSU at h ⊢
  have e : zf s (S.2.1 147) k = 0 := by unfold zf; rw [if_neg (fun q => q hn)]
  rw [sm_s, ← h, e, Int.mul_zero]
  omega
theorem zsu_y {s S : GS} {k : Nat} {w : Int32} {x f l m y : Int64} (hI : Inv s) (hF : FB s (S.2.1 147)) (h : ZSU s S x.toInt k) (hk : k < 160) (hn : (s.1 112 (bs s + k)).toInt ≠ 0) (ef : f = S.2.1 147 k) (ew : w = s.1 115 (bs s + k)) (e1 : l = w.toInt64) (e2 : m = f * l) (e3 : y = x + m) : ZSU s S y.toInt (k + 1) := by
  have hg := (gvr_Z hI).2.2.2
  have bd := sn_ab (f := fun p => pwt (gvZ s) p * zf s (S.2.1 147) p) (B := 1000000000000) k (fun p hp => by
    show -1000000000000 ≤ pwt (gvZ s) p * zf s (S.2.1 147) p ∧ pwt (gvZ s) p * zf s (S.2.1 147) p ≤ 1000000000000
    obtain ⟨-, -, r1, r2, w1, w2⟩ := hg p (by omega)
    unfold zf
    split
    · rename_i c
      have fb := hF p (by omega) c
      have rm := gz_r hI p
      have p1 := Int.mul_le_mul_of_nonneg_right w1 fb.1
      have p2 := Int.mul_le_mul_of_nonneg_right w2 fb.1
      exact ⟨by omega, by omega⟩
    · rw [Int.mul_zero]; exact ⟨by decide, by decide⟩)
  unfold ZSU at h ⊢
  rw [← h] at bd
  have fb := hF k hk hn
  obtain ⟨-, -, r1, r2, w1, w2⟩ := hg k hk
  have rm := gz_r hI k
  have k3 := ((gz_x hI hk).2 hn).2.2
  have l1 := u_i2l e1
  have a1 : pwt (gvZ s) k = w.toInt := by rw [k3, ew]
  rw [a1] at w1 w2
  rw [← ef] at fb
  have p1 := Int.mul_le_mul_of_nonneg_right w1 fb.1
  have p2 := Int.mul_le_mul_of_nonneg_right w2 fb.1
  have cm : f.toInt * w.toInt = w.toInt * f.toInt := Int.mul_comm _ _
  have v1 := lmul_t e2 (by rw [l1, cm]; omega) (by rw [l1, cm]; omega)
  rw [l1, cm] at v1
  have v2 := ladd_t e3 (by rw [v1]; omega) (by rw [v1]; omega)
  have e : zf s (S.2.1 147) k = f.toInt := by unfold zf; rw [if_pos hn, ef]
  rw [sm_s, ← h, e, a1, v2, v1]
def CSR (s t : GS) (x y v : Int32) (z : Int64) : Prop := ((t.2.2.1 109 0).toInt = 1 ∧ ¬ ((TWO (s.2.2.1 109 20).toInt x y) ∧ 0 ≤ v.toInt ∧ v.toInt ≤ 200000000)) ∨ ((t.2.2.1 109 0).toInt = 0 ∧ ((TWO (s.2.2.1 109 20).toInt x y) ∧ 0 ≤ v.toInt ∧ v.toInt ≤ 200000000) ∧ CSX (gvZ s) x.toNatClampNeg y.toNatClampNeg v.toInt z.toInt)
theorem inf_c {s t : GS} {x : Nat} (h : INF s x) (hZ : ZSM s t) (h1 : t.2.1 150 = s.2.1 150) (h2 : t.2.1 147 = s.2.1 147) : INF t x := by
  obtain ⟨Y, y1, y2, y3⟩ := h
  refine ⟨Y, y1, fun v hv => ?_, ?_⟩
  · rw [hZ.2.2.2.2.2.2, h1]; exact y2 v hv
  · rw [zsm_r hZ, h2]; exact y3
theorem zbl_c {s S T : GS} {a b : Nat} {W : Int} (h : ZBL s S a b W) (h1 : T.2.1 150 = S.2.1 150) (h2 : T.2.1 147 = S.2.1 147) : ZBL s T a b W := by
  unfold ZBL
  rw [h1, h2]
  exact h
theorem fb_z {s S : GS} (h : CO S) (hZ : ZSM s S) : FB s (S.2.1 147) := by
  have b : bs S = bs s := by unfold bs; rw [hZ.2.2.2.2.2.1]
  intro p hp c
  have k := h.1 p hp (by rw [hZ.1, b]; exact c)
  rw [hZ.2.2.2.2.1, b] at k
  exact k
/-- one sending in the loop of node x: can goes on, or not -/
def ZLP (s S : GS) (a b : Nat) (W : Int) (x : Nat) (c : Int) : Prop := ZBL s S a b W ∧ (c ≠ 0 → ∀ u, u < x → (S.2.1 150 u).toInt ≤ 0) ∧ (c = 0 → ∃ y : Nat, INF S y ∧ 0 < (S.2.1 150 y).toInt)
theorem zlp_s {s S T : GS} {a b x : Nat} {W c z : Int} (hZ : ZSM s S) (hT : ZSM S T) (h : ZLP s S a b W x c) (hc : c ≠ 0) (h32 : x ≤ 32) (hxn : (x : Int) ≤ (s.2.2.1 109 20).toInt) (hp : 0 < (S.2.1 150 x).toInt) (p1 : z ≠ 0 → SNE S T x) (p2 : z = 0 → INF S x ∧ T.2.1 147 = S.2.1 147) (p3 : z = 0 → T.2.1 150 = S.2.1 150) : ZLP s T a b W x z := by
  obtain ⟨h1, h2, h3⟩ := h
  by_cases d : z = 0
  · refine ⟨zbl_c h1 (p3 d) (p2 d).2, fun q => absurd d q, fun _ => ⟨x, inf_c (p2 d).1 hT (p3 d) (p2 d).2, by rw [p3 d]; exact hp⟩⟩
  · refine ⟨zbl_s hZ h1 (p1 d), fun _ u hu => sne_le (p1 d) (by omega) (by rw [hZ.2.2.2.2.2.2]; omega) (by omega) (h2 hc u hu), fun q => absurd q d⟩
theorem zlp_n {s S : GS} {a b x : Nat} {W c : Int} (h : ZLP s S a b W x c) (hx : c ≠ 0 → (S.2.1 150 x).toInt ≤ 0) : ZLP s S a b W (x + 1) c := by
  refine ⟨h.1, fun q u hu => ?_, h.2.2⟩
  by_cases d : u = x
  · rw [d]; exact hx q
  · exact h.2.1 q u (by omega)
theorem zlp_0 {s S : GS} {a b : Nat} {W : Int} (h : ZBP s S a b W 160) : ZLP s S a b W 0 1 := ⟨h, fun _ u hu => absurd hu (Nat.not_lt_zero u), fun q => by omega⟩
/-- all nodes are done, or can is false -/
def ZFI (s S : GS) (a b : Nat) (W c : Int) : Prop := ZBL s S a b W ∧ CO S ∧ (c ≠ 0 → ∀ v : Nat, v < 32 → (v : Int) < (s.2.2.1 109 20).toInt → (S.2.1 150 v).toInt ≤ 0) ∧ (c = 0 → ∃ y : Nat, INF S y ∧ 0 < (S.2.1 150 y).toInt)
theorem zfi_1 {s S : GS} {a b x : Nat} {W c : Int} (h : ZLP s S a b W x c) (hC : CO S) (hx : c = 0 ∨ (s.2.2.1 109 20).toInt ≤ (x : Int)) : ZFI s S a b W c := by
  refine ⟨h.1, hC, fun q v hv hn => ?_, h.2.2⟩
  rcases hx with hx | hx
  · exact absurd hx q
  · exact h.2.1 q v (by omega)
theorem csr_i {s S T : GS} {x y v : Int32} {c : Int} {z : Int64} {k : Nat} (hI : Inv s) (hZ : ZSM s S) (h0 : (T.2.2.1 109 0).toInt = 0) (hW : In v 0 200000000) (hx : In x 0 31) (hy : In y 0 31) (hxn : x.toInt < (s.2.2.1 109 20).toInt) (hyn : y.toInt < (s.2.2.1 109 20).toInt) (ne : x.toInt ≠ y.toInt) (h : ZFI s S x.toNatClampNeg y.toNatClampNeg v.toInt c) (hc : (c = 0 ∧ z.toInt = 9000000000000000) ∨ (c ≠ 0 ∧ ZSU s S z.toInt k ∧ k = 160)) : CSR s T x y v z := by
  obtain ⟨h1, h2, h3, h4⟩ := h
  have a := nat_in hx hxn
  have b := nat_in hy hyn
  refine Or.inr ⟨h0, ⟨⟨⟨hx.1, hxn⟩, ⟨hy.1, hyn⟩, ne⟩, hW.1, hW.2⟩, ?_⟩
  rcases hc with ⟨c1, c2⟩ | ⟨c1, c2, c3⟩
  · obtain ⟨w, w1, w2⟩ := h4 c1
    exact cst_inf hI hZ a.1 a.2 b.1 b.2 hW.1 h1 (fb_z h2 hZ) w1 w2 c2
  · rw [c3] at c2
    exact cst_Z hI hZ a.1 a.2 b.1 b.2 h1 h2 (h3 c1) c2
end
