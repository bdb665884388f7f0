/-! THE K-TH ARC OF A NODE -/
theorem cn_eq {E F : Nat → Int} {v : Int} : ∀ n : Nat, (∀ j, j < n → E j = F j) → cn E v n = cn F v n
  | 0, _ => rfl
  | n + 1, h => by
    have i := cn_eq (v := v) n (fun j hj => h j (by omega))
    by_cases c : E n = v
    · rw [cn_hit c, cn_hit ((h n (by omega)).symm.trans c), i]
    · rw [cn_miss c, cn_miss (fun z => c ((h n (by omega)).trans z)), i]
/-! WHICH NODE REACHES WHICH -/
/-! arcs as they are seen -/
theorem wl_iff {E F : Nat → Nat → Prop} (h : ∀ u w, E u w ↔ F u w) {u w : Nat} : wlq E u w ↔ wlq F u w := ⟨wl_mono (fun a b => (h a b).mp), wl_mono (fun a b => (h a b).mpr)⟩
/-! parts -/
/-! close (reference) -/
section CLO
variable {s : GS} {w x n : Int} {f f0 : Nat → Int32} {k m : Nat}
end CLO
/-! HOW MANY PARTS -/
section CNP
variable {P Q : Nat → Prop}
theorem cnP_lt : ∀ n : Nat, (∀ k, k < n → P k → Q k) → ∀ w, w < n → Q w → ¬ P w → cnP P n < cnP Q n
  | 0, _, w, hw, _, _ => absurd hw (Nat.not_lt_zero w)
  | n + 1, h, w, hw, hq, hp => by
    by_cases e : w = n
    · rw [e] at hq hp
      have i := cnP_le n (fun k hk => h k (by omega))
      rw [cnP_n hp, cnP_y hq]
      omega
    · have i := cnP_lt n (fun k hk => h k (by omega)) w (by omega) hq hp
      by_cases c : P n
      · rw [cnP_y c, cnP_y (h n (by omega) c)]
        omega
      · by_cases d : Q n
        · rw [cnP_n c, cnP_y d]; omega
        · rw [cnP_n c, cnP_n d]; exact i
end CNP
section LST
variable {E F : Nat → Nat → Prop}
end LST
section K327
variable {Z : AmZ} {d : Nat} {ws : va_W} {X : AmX}
end K327
/-! weakParts of the reference -/
/-! cuts -/
/-! bridges -/
/-! SPANS -/
/-- a walk that comes to each node once at most -/
theorem wl_short {E : Nat → Nat → Prop} {n l : Nat} (hl : l < n) (hE : ∀ u w, E u w → u < n ∧ w < n) {v : Nat} (h : wlq E v l) : ∃ j, j ≤ n ∧ wkq E j v l := by
  have mono : ∀ k v, (∃ j, j ≤ k ∧ wkq E j v l) → ∃ j, j ≤ k + 1 ∧ wkq E j v l := fun k v ⟨j, hj, hw⟩ => ⟨j, by omega, hw⟩
  have st : ∀ k, (∀ v, (∃ j, j ≤ k + 1 ∧ wkq E j v l) → ∃ j, j ≤ k ∧ wkq E j v l) → ∀ j v, wkq E j v l → ∃ j, j ≤ k ∧ wkq E j v l := by
    intro k hc j
    induction j with
    | zero => intro v hw; exact ⟨0, Nat.zero_le _, hw⟩
    | succ j ih =>
      intro v hw
      obtain ⟨x, hx, hw⟩ := hw
      obtain ⟨i, hi, hwi⟩ := ih x hw
      exact hc v ⟨i + 1, by omega, x, hx, hwi⟩
  have cnt : ∀ k, (∃ k', k' ≤ k ∧ ∀ v, (∃ j, j ≤ k' + 1 ∧ wkq E j v l) → ∃ j, j ≤ k' ∧ wkq E j v l) ∨ k + 1 ≤ cnP (fun v => ∃ j, j ≤ k ∧ wkq E j v l) n := by
    intro k
    induction k with
    | zero =>
      right
      have q := cnP_lt (P := fun _ => False) (Q := fun v => ∃ j, j ≤ 0 ∧ wkq E j v l) n (fun _ _ z => z.elim) l hl ⟨0, Nat.le_refl _, rfl⟩ id
      omega
    | succ k ih =>
      rcases ih with ⟨k', h1, h2⟩ | ih
      · exact Or.inl ⟨k', by omega, h2⟩
      · by_cases c : ∀ v, (∃ j, j ≤ k + 1 ∧ wkq E j v l) → ∃ j, j ≤ k ∧ wkq E j v l
        · exact Or.inl ⟨k, by omega, c⟩
        · right
          obtain ⟨v, hv⟩ := Classical.not_forall.mp c
          obtain ⟨h1, h2⟩ := Classical.not_imp.mp hv
          have vn : v < n := by
            obtain ⟨j, hj, hw⟩ := h1
            cases j with
            | zero => exact absurd ⟨0, Nat.zero_le _, hw⟩ h2
            | succ j =>
              obtain ⟨x, hx, -⟩ := hw
              exact (hE v x hx).1
          have q := cnP_lt (P := fun v => ∃ j, j ≤ k ∧ wkq E j v l) (Q := fun v => ∃ j, j ≤ k + 1 ∧ wkq E j v l) n (fun v _ z => mono k v z) v vn h1 h2
          omega
  rcases cnt n with ⟨k', hk, hc⟩ | big
  · obtain ⟨j, hj⟩ := h
    obtain ⟨i, hi, hw⟩ := st k' hc j v hj
    exact ⟨i, by omega, hw⟩
  · have t := cnP_top (P := fun v => ∃ j, j ≤ n ∧ wkq E j v l) n
    omega
section SPN
variable {g h : GVW} {p k : Nat}
/-! the class -/
end SPN
/-! the reference -/
section WKF
variable {E : Nat → Nat → Prop} {g : GVW} {p n k a : Nat} {f : Nat → Int32}
end WKF
/-! the reference's arcs -/
/-! SUMS -/
section SM
variable {f h : Nat → Int}
theorem sm_s {n : Nat} : sm f (n + 1) = sm f n + f n := rfl
theorem sm_eq : ∀ n : Nat, (∀ k, k < n → f k = h k) → sm f n = sm h n
  | 0, _ => rfl
  | n + 1, e => by rw [sm_s, sm_s, sm_eq n (fun k hk => e k (by omega)), e n (by omega)]
theorem sm_0 : ∀ n : Nat, (∀ k, k < n → f k = 0) → sm f n = 0
  | 0, _ => rfl
  | n + 1, e => by rw [sm_s, sm_0 n (fun k hk => e k (by omega)), e n (by omega)]; rfl
theorem sm_add : ∀ n : Nat, sm (fun k => f k + h k) n = sm f n + sm h n
  | 0 => rfl
  | n + 1 => by
    rw [sm_s, sm_s, sm_s, sm_add n]
    omega
theorem sm_one {u : Nat} {d : Int} : ∀ n : Nat, u < n → (∀ k, k < n → k ≠ u → h k = f k) → h u = f u + d → sm h n = sm f n + d
  | 0, hu, _, _ => absurd hu (Nat.not_lt_zero u)
  | n + 1, hu, e, eu => by
    rw [sm_s, sm_s]
    by_cases c : u = n
    · subst c
      rw [sm_eq (f := h) (h := f) u (fun k hk => e k (by omega) (by omega)), eu]
      omega
    · rw [sm_one n (by omega) (fun k hk hne => e k (by omega) hne) eu, e n (by omega) (fun z => c z.symm)]
      omega
theorem sm_le {B : Int} : ∀ n : Nat, (∀ k, k < n → 0 ≤ f k ∧ f k ≤ B) → 0 ≤ sm f n ∧ sm f n ≤ (n : Int) * B
  | 0, _ => ⟨Int.le_refl _, by simp [sm]⟩
  | n + 1, e => by
    obtain ⟨i1, i2⟩ := sm_le n (fun k hk => e k (by omega))
    obtain ⟨e1, e2⟩ := e n (by omega)
    rw [sm_s]
    have q : ((n + 1 : Nat) : Int) * B = (n : Int) * B + B := by
      rw [show ((n + 1 : Nat) : Int) = (n : Int) + 1 from rfl, Int.add_mul, Int.one_mul]
    rw [q]
    omega
end SM
/-! NEIGHBOURS -/
/-! the class's triangles -/
/-! pairs u < v, one by one -/
/-! WIDTHS -/
def WDE (g : GVW) (w : Int) (u v : Nat) : Prop := ∃ p : Nat, p < 160 ∧ ARE g 0 p = (u : Int) ∧ ARE g 1 p = (v : Int) ∧ w ≤ (g.2.2.2.2.1 p).toInt
def WDR (g : GVW) (s t : Nat) (w : Int) : Prop := w ≤ -1 ∨ (w ≤ 1000001 ∧ wlq (WDE g w) s t)
/-- the greatest width -/
def WDS (g : GVW) (s t : Nat) (z : Int) : Prop := -1 ≤ z ∧ WDR g s t z ∧ ∀ w : Int, z < w → ¬ WDR g s t w
section WID
variable {g h : GVW} {s t n : Nat}
theorem wde_m {w x : Int} (hw : w ≤ x) {u v : Nat} (k : WDE g x u v) : WDE g w u v := by
  obtain ⟨p, a, b, c, d⟩ := k
  exact ⟨p, a, b, c, by omega⟩
theorem wdr_m {w x : Int} (hw : w ≤ x) {v : Nat} (k : WDR g s v x) : WDR g s v w := by
  rcases k with k | ⟨k1, k2⟩
  · exact Or.inl (by omega)
  · exact Or.inr ⟨by omega, wl_mono (fun a b => wde_m hw) k2⟩
theorem wde_e (q : GEW g h) {w : Int} : ∀ u v, WDE g w u v ↔ WDE h w u v := by
  have rr : ∀ j, j < 160 → (g.2.1 j).toInt ≠ -1 → g.2.2.2.2.1 j = h.2.2.2.2.1 j := fun j hj c => (q.2.2.1 j hj c).2.2.1
  intro u v
  constructor
  · rintro ⟨p, a, b, c, d⟩
    have ne := are_ne b
    exact ⟨p, a, by rw [← are_e q a]; exact b, by rw [← are_e q a]; exact c, by rw [← rr p a ne]; exact d⟩
  · rintro ⟨p, a, b, c, d⟩
    rw [← are_e q a] at b c
    have ne := are_ne b
    exact ⟨p, a, b, c, by rw [rr p a ne]; exact d⟩
theorem wdr_e (q : GEW g h) {w : Int} : WDR g s t w ↔ WDR h s t w := by
  unfold WDR
  rw [wl_iff (wde_e q)]
theorem wds_u (q : GEW g h) {y z : Int} (h1 : WDS g s t y) (h2 : WDS h s t z) : y = z := by
  obtain ⟨-, a2, a3⟩ := h1
  obtain ⟨-, b2, b3⟩ := h2
  rcases Int.lt_trichotomy y z with c | c | c
  · exact absurd ((wdr_e q).mpr b2) (a3 z c)
  · exact c
  · exact absurd ((wdr_e q).mp a2) (b3 y c)
theorem wdr_0 {w : Int} (hw : w ≤ 1000001) : WDR g s s w := Or.inr ⟨hw, wl_0⟩
theorem wdr_s {p u v : Nat} {x m : Int} (hp : p < 160) (hu : ARE g 0 p = (u : Int)) (hv : ARE g 1 p = (v : Int)) (k : WDR g s u x) (hm : m ≤ x) (hr : m ≤ (g.2.2.2.2.1 p).toInt) : WDR g s v m := by
  rcases wdr_m hm k with k | ⟨k1, k2⟩
  · exact Or.inl k
  · exact Or.inr ⟨k1, wl_tr k2 (wl_1 ⟨p, hp, hu, hv, hr⟩)⟩
/-! the class: the widest first -/
def WOQ (f : Nat → Int32) (x rest best : Int32) : Prop := ∀ k : Nat, bt x k = true → bt rest k = true ∨ (f k).toInt ≤ (f best.toNatClampNeg).toInt
theorem wo_n {f : Nat → Int32} {x rest rest2 z37 k0 best a b : Int32} (h : WOQ f x rest best) (hl : lowB rest k0.toNatClampNeg) (e37 : z37 = rest - Int32.ofInt 1) (e38 : rest2 = rest &&& z37) (ea : a = f k0.toNatClampNeg) (eb : b = f best.toNatClampNeg) (c : a.toInt ≤ b.toInt) : WOQ f x rest2 best := by
  intro k hk
  rcases h k hk with q | q
  · by_cases e : k = k0.toNatClampNeg
    · right
      rw [e, ← ea, ← eb]
      exact c
    · left
      rw [lowB_clr hl e37 e38, q]
      simp [e]
  · exact Or.inr q
theorem low_u {x a b : Int32} (ha : bt x a.toNatClampNeg = true) (la : lowB x a.toNatClampNeg) (hb : bt x b.toNatClampNeg = true) (lb : lowB x b.toNatClampNeg) : a.toNatClampNeg = b.toNatClampNeg := Nat.le_antisymm (low_min la (bt_lt ha) hb) (low_min lb (bt_lt hb) ha)
theorem wo_y {f : Nat → Int32} {x rest rest2 z37 k0 k1 best a b : Int32} (h : WOQ f x rest best) (h0 : bt rest k0.toNatClampNeg = true) (l0 : lowB rest k0.toNatClampNeg) (h1 : bt rest k1.toNatClampNeg = true) (hl : lowB rest k1.toNatClampNeg) (e37 : z37 = rest - Int32.ofInt 1) (e38 : rest2 = rest &&& z37) (ea : a = f k0.toNatClampNeg) (eb : b = f best.toNatClampNeg) (c : b.toInt < a.toInt) : WOQ f x rest2 k1 := by
  intro k hk
  have u := low_u h0 l0 h1 hl
  rw [u] at ea
  rcases h k hk with q | q
  · by_cases e : k = k1.toNatClampNeg
    · right
      rw [e]
      exact Int.le_refl _
    · left
      rw [lowB_clr hl e37 e38, q]
      simp [e]
  · right
    rw [← ea]
    rw [← eb] at q
    omega
theorem wo_e {f : Nat → Int32} {x rest best : Int32} (h : WOQ f x rest best) (hz : rest.toInt = 0) : ∀ k : Nat, bt x k = true → (f k).toInt ≤ (f best.toNatClampNeg).toInt := fun k hk => (h k hk).elim (fun q => absurd hz (bt_nz q)) id
def WDD (g : GVW) (s n : Nat) (T : Int32) (f : Nat → Int32) : Prop := (∀ v : Nat, (v : Int) < (n : Int) → WDR g s v (f v).toInt ∧ -1 ≤ (f v).toInt) ∧ (f s).toInt = 1000001 ∧ (∀ v : Nat, bt T v = true → v < n) ∧ (∀ p u v : Nat, p < 160 → ARE g 0 p = (u : Int) → ARE g 1 p = (v : Int) → bt T u = false → ∀ w : Int, w ≤ (f u).toInt → w ≤ (g.2.2.2.2.1 p).toInt → w ≤ (f v).toInt) ∧ ∀ u v : Nat, u < n → bt T u = false → bt T v = true → (f v).toInt ≤ (f u).toInt
def WDI (g : GVW) (s n : Nat) (T : Int32) (x : Nat) (c : Int) (f : Nat → Int32) : Prop := ((∀ v : Nat, (v : Int) < (n : Int) → WDR g s v (f v).toInt ∧ -1 ≤ (f v).toInt) ∧ (f s).toInt = 1000001 ∧ (∀ v : Nat, bt T v = true → v < n) ∧ x < n ∧ bt T x = false) ∧ (∀ p u v : Nat, p < 160 → ARE g 0 p = (u : Int) → ARE g 1 p = (v : Int) → bt T u = false → (u = x → cn (ARE g 0) (x : Int) p < c) → ∀ w : Int, w ≤ (f u).toInt → w ≤ (g.2.2.2.2.1 p).toInt → w ≤ (f v).toInt) ∧ (∀ u v : Nat, u < n → bt T u = false → bt T v = true → (f v).toInt ≤ (f u).toInt) ∧ ∀ u : Nat, u < n → bt T u = false → (f x).toInt ≤ (f u).toInt
theorem wdd_0 {T : Int32} {f f0 : Nat → Int32} {x : Int32} (hN : NDQ g) (hn : (n : Int) = g.2.2.2.2.2.2.1) (n32 : n ≤ 32) (hT : ∀ v : Nat, bt T v = true ↔ (v : Int) < (n : Int)) (h0 : ∀ v, v < 32 → f0 v = Int32.ofInt (-1)) (hs : s = x.toNatClampNeg) (hf : f = upd f0 x.toNatClampNeg (Int32.ofInt 1000001)) : WDD g s n T f := by
  have es : f s = Int32.ofInt 1000001 := by rw [hf, hs, up_e]
  have ev : ∀ v, v < 32 → v ≠ s → f v = Int32.ofInt (-1) := fun v hv hne => by rw [hf, up_n (by rw [← hs]; exact hne)]; exact h0 v hv
  have c1 : (Int32.ofInt 1000001).toInt = 1000001 := rfl
  have c2 : (Int32.ofInt (-1)).toInt = -1 := rfl
  refine ⟨fun v hv => ?_, by rw [es]; rfl, fun v hv => by have := (hT v).mp hv; omega, fun p u v hp hu hv hb => ?_, fun u v hu hb => ?_⟩
  · by_cases c : v = s
    · rw [c, es, c1]
      exact ⟨wdr_0 (Int.le_refl _), by omega⟩
    · rw [ev v (by omega) c, c2]
      exact ⟨Or.inl (Int.le_refl _), Int.le_refl _⟩
  · have q := (ndq_a hN hp hu hv).1
    rw [(hT u).mpr (by omega)] at hb
    cases hb
  · rw [(hT u).mpr (by omega)] at hb
    cases hb
theorem wdi_0 {T0 T : Int32} {f : Nat → Int32} {x : Nat} {c : Int} (h : WDD g s n T0 f) (hx : bt T0 x = true) (hm : ∀ k : Nat, bt T0 k = true → (f k).toInt ≤ (f x).toInt) (hT : ∀ k : Nat, k < 32 → bt T k = (bt T0 k && !(decide (k = x)))) (n32 : n ≤ 32) (hc : c = 0) : WDI g s n T x c f := by
  obtain ⟨d1, d4, dT, d2, d3⟩ := h
  have tk : ∀ k, bt T k = true → bt T0 k = true ∧ k ≠ x := fun k hk => by
    rw [hT k (bt_lt hk), Bool.and_eq_true] at hk
    exact ⟨hk.1, by simpa using hk.2⟩
  have tf : ∀ k, k < 32 → bt T k = false → bt T0 k = false ∨ k = x := fun k hk hb => by
    rw [hT k hk] at hb
    by_cases c : k = x
    · exact Or.inr c
    · left
      simpa [c] using hb
  have xn := dT x hx
  refine ⟨⟨d1, d4, fun v hv => dT v (tk v hv).1, xn, ?_⟩, fun p u v hp hu hv hb hcx => ?_, fun u v hu hb hv => ?_, fun u hu hb => ?_⟩
  · rw [hT x (by omega)]
    simp
  · by_cases c1 : u = x
    · have q := hcx c1
      have q0 := cn_0 (ARE g 0) (x : Int) p
      omega
    · refine d2 p u v hp hu hv ?_
      by_cases u32 : u < 32
      · rcases tf u u32 hb with q | q
        · exact q
        · exact absurd q c1
      · cases e : bt T0 u with
        | false => rfl
        | true => exact absurd (bt_lt e) u32
  · obtain ⟨a, b⟩ := tk v hv
    rcases tf u (by omega) hb with q | q
    · exact d3 u v hu q a
    · rw [q]; exact hm v a
  · rcases tf u (by omega) hb with q | q
    · exact d3 u x hu q hx
    · rw [q]; exact Int.le_refl _
theorem wdi_s {T : Int32} {f : Nat → Int32} {x p : Nat} {c d : Int} {v r a b m : Int32} (h : WDI g s n T x c f) (hN : NDQ g) (hn : (n : Int) = g.2.2.2.2.2.2.1) (hp : p < 160) (hx : ARE g 0 p = (x : Int)) (hc : cn (ARE g 0) (x : Int) p = c) (hd : d = c + 1) (hv : v = g.2.2.1 p) (hr : r = g.2.2.2.2.1 p) (ha : a = f v.toNatClampNeg) (hb : b = f x) (m1 : a.toInt ≤ m.toInt) (m2 : m.toInt = a.toInt ∨ (m.toInt ≤ b.toInt ∧ m.toInt ≤ r.toInt)) (m3 : b.toInt ≤ m.toInt ∨ r.toInt ≤ m.toInt) : WDI g s n T x d (upd f v.toNatClampNeg m) := by
  have ne := are_ne hx
  have rg := (hN p hp ne).2
  rw [← hv] at rg
  have cv := clx rg.1
  obtain ⟨V, hV⟩ : ∃ V : Nat, v.toNatClampNeg = V := ⟨_, rfl⟩
  rw [hV] at ha cv ⊢
  have av : ARE g 1 p = (V : Int) := by rw [are_t hp ne (by decide), ← hv]; omega
  have vn : V < n := by omega
  obtain ⟨⟨d1, d4, dT, xn, tx⟩, d2, d3, d5⟩ := h
  have inj : ∀ q : Nat, ARE g 0 q = (x : Int) → cn (ARE g 0) (x : Int) q < d → cn (ARE g 0) (x : Int) q < c ∨ q = p := fun q hq hlt => by
    by_cases e : cn (ARE g 0) (x : Int) q = c
    · exact Or.inr (cn_inj hq hx (by omega))
    · exact Or.inl (by omega)
  cases tv : bt T V with
  | false =>
    have q := d5 V vn tv
    rw [← hb, ← ha] at q
    have em : m = a := i_eq.mpr (by omega)
    have ef : upd f V m = f := by rw [em, ha]; exact up_sf
    rw [ef]
    refine ⟨⟨d1, d4, dT, xn, tx⟩, fun p' u v' hp' hu hv' hbu hcx w hw hr' => ?_, d3, d5⟩
    by_cases c1 : u = x
    · rw [c1] at hu
      rcases inj p' hu (hcx c1) with z | z
      · rw [c1] at hw
        exact d2 p' x v' hp' hu hv' (by rw [← c1]; exact hbu) (fun _ => z) w hw hr'
      · rw [z] at hv' hr'
        have e : v' = V := by omega
        rw [e, ← ha]
        rw [c1, ← hb] at hw
        rw [← hr] at hr'
        omega
    · exact d2 p' u v' hp' hu hv' hbu (fun z => absurd z c1) w hw hr'
  | true =>
    have vx : x ≠ V := fun z => by rw [z] at tx; rw [tx] at tv; cases tv
    have fvx := d3 x V xn tx tv
    rw [← hb, ← ha] at fvx
    have fx : upd f V m x = f x := up_n vx
    have fV : upd f V m V = m := up_e
    have up : ∀ k, (f k).toInt ≤ (upd f V m k).toInt := fun k => by
      by_cases e : k = V
      · rw [e, fV, ← ha]; exact m1
      · rw [up_n e]; exact Int.le_refl _
    have off : ∀ k, bt T k = false → upd f V m k = f k := fun k hk => up_n (fun z => by rw [z, tv] at hk; cases hk)
    have dx := d1 x (by omega)
    rw [← hb] at dx
    have dV := d1 V (by omega)
    rw [← ha] at dV
    refine ⟨⟨fun k hk => ?_, ?_, dT, xn, tx⟩, fun p' u v' hp' hu hv' hbu hcx w hw hr' => ?_, fun u k hu hbu hk => ?_, fun u hu hbu => ?_⟩
    · by_cases e : k = V
      · rw [e, fV]
        refine ⟨?_, by omega⟩
        rcases m2 with z | ⟨z1, z2⟩
        · rw [z]; exact dV.1
        · exact wdr_s hp hx av dx.1 z1 (by rw [← hr]; exact z2)
      · rw [up_n e]; exact d1 k hk
    · by_cases e : s = V
      · rw [e, fV]
        rw [e, ← ha] at d4
        have dd := dx.1
        rcases m2 with z | ⟨z1, z2⟩
        · omega
        · rcases dd with dd | dd
          · omega
          · omega
      · rw [up_n e]; exact d4
    · rw [off u hbu] at hw
      by_cases c1 : u = x
      · rw [c1] at hu
        rcases inj p' hu (hcx c1) with z | z
        · rw [c1] at hw
          exact Int.le_trans (d2 p' x v' hp' hu hv' (by rw [← c1]; exact hbu) (fun _ => z) w hw hr') (up v')
        · rw [z] at hv' hr'
          have e : v' = V := by omega
          rw [e, fV]
          rw [c1, ← hb] at hw
          rw [← hr] at hr'
          omega
      · exact Int.le_trans (d2 p' u v' hp' hu hv' hbu (fun z => absurd z c1) w hw hr') (up v')
    · rw [off u hbu]
      by_cases e : k = V
      · rw [e, fV]
        have k1 := d3 u V hu hbu tv
        have k2 := d5 u hu hbu
        rw [← ha] at k1
        rw [← hb] at k2
        omega
      · rw [up_n e]; exact d3 u k hu hbu hk
    · rw [off u hbu, fx]; exact d5 u hu hbu
theorem wdi_e {T : Int32} {f : Nat → Int32} {x : Nat} {c : Int} (h : WDI g s n T x c f) (hc : ∀ p, p < 160 → ARE g 0 p = (x : Int) → cn (ARE g 0) (x : Int) p < c) : WDD g s n T f := by
  obtain ⟨⟨d1, d4, dT, xn, tx⟩, d2, d3, d5⟩ := h
  exact ⟨d1, d4, dT, fun p u v hp hu hv hb w hw hr => d2 p u v hp hu hv hb (fun z => hc p hp (by rw [← z]; exact hu)) w hw hr, d3⟩
theorem wds_c {T : Int32} {f : Nat → Int32} {z : Int32} (h : WDD g s n T f) (ht : t < n) (hz : z = f t) (hm : ∀ v : Nat, bt T v = true → (f v).toInt ≤ z.toInt) : WDS g s t z.toInt := by
  obtain ⟨d1, d4, dT, d2, d3⟩ := h
  have dt := d1 t (by omega)
  rw [← hz] at dt
  refine ⟨dt.2, dt.1, fun w hw k => ?_⟩
  rcases k with k | ⟨k1, j, hj⟩
  · have := dt.2
    omega
  · have go : ∀ (j y : Nat), w ≤ (f y).toInt → wkq (WDE g w) j y t → w ≤ (f t).toInt := by
      intro j
      induction j with
      | zero => intro y hy hw; rw [← (show y = t from hw)]; exact hy
      | succ j ih =>
        intro y hy hk
        obtain ⟨x, ⟨p, a, b, c, e⟩, hk⟩ := hk
        refine ih x ?_ hk
        cases ty : bt T y with
        | true =>
          have := hm y ty
          omega
        | false => exact d2 p y x a b c ty w hy e
    have q := go j s (by rw [d4]; exact k1) hj
    rw [← hz] at q
    omega
/-! the reference: all arcs, again and again -/
theorem wk_last {E : Nat → Nat → Prop} : ∀ (j : Nat) {u w : Nat}, wkq E (j + 1) u w → ∃ x, wkq E j u x ∧ E x w
  | 0, u, w, h => by
    obtain ⟨x, hx, hw⟩ := h
    rw [← (show x = w from hw)]
    exact ⟨u, rfl, hx⟩
  | j + 1, u, w, h => by
    obtain ⟨x, hx, hw⟩ := h
    obtain ⟨y, hy, he⟩ := wk_last j hw
    exact ⟨y, ⟨x, hx, hy⟩, he⟩
def WDV (g : GVW) (s n k : Nat) (f : Nat → Int32) : Prop := (∀ v : Nat, v < n → WDR g s v (f v).toInt ∧ -1 ≤ (f v).toInt) ∧ ∀ (v j : Nat) (w : Int), v < n → j ≤ k → w ≤ 1000001 → wkq (WDE g w) j s v → w ≤ (f v).toInt
def WDW (g : GVW) (s n k a : Nat) (f : Nat → Int32) : Prop := WDV g s n k f ∧ ∀ (p u v j : Nat) (w : Int), p < a → p < 160 → ARE g 0 p = (u : Int) → ARE g 1 p = (v : Int) → j ≤ k → w ≤ 1000001 → wkq (WDE g w) j s u → w ≤ (g.2.2.2.2.1 p).toInt → w ≤ (f v).toInt
theorem wdv_0 {f : Nat → Int32} (h : ∀ v : Nat, v < n → (f v).toInt = if v = s then 1000001 else -1) : WDV g s n 0 f := by
  refine ⟨fun v hv => ?_, fun v j w hv hj hw hk => ?_⟩
  · rw [h v hv]
    by_cases c : v = s
    · rw [if_pos c, c]; exact ⟨wdr_0 (Int.le_refl _), by omega⟩
    · rw [if_neg c]; exact ⟨Or.inl (Int.le_refl _), Int.le_refl _⟩
  · have e : j = 0 := by omega
    rw [e] at hk
    rw [h v hv, if_pos (show s = v from hk).symm]
    exact hw
theorem wdw_0 {k : Nat} {f : Nat → Int32} (h : WDV g s n k f) : WDW g s n k 0 f := ⟨h, fun p u v j w hp => absurd hp (Nat.not_lt_zero p)⟩
theorem wdw_n {k a : Nat} {f : Nat → Int32} (h : WDW g s n k a f) (hn : ∀ u v : Nat, ARE g 0 a = (u : Int) → ARE g 1 a = (v : Int) → v < n ∧ u < n ∧ (f u).toInt < 0) : WDW g s n k (a + 1) f := by
  refine ⟨h.1, fun p u v j w hp h160 hu hv hj hw hk hr => ?_⟩
  by_cases c : p = a
  · rw [c] at hu hv
    obtain ⟨n1, n2, n3⟩ := hn u v hu hv
    have q := h.1.2 u j w n2 hj hw hk
    have q2 := (h.1.1 v n1).2
    omega
  · exact h.2 p u v j w (by omega) h160 hu hv hj hw hk hr
theorem wdw_s {k a u v : Nat} {f : Nat → Int32} {r x y m : Int32} (h : WDW g s n k a f) (ha : a < 160) (hu : ARE g 0 a = (u : Int)) (hv : ARE g 1 a = (v : Int)) (un : u < n) (vn : v < n) (hr : r = g.2.2.2.2.1 a) (hx : x = f u) (hy : y = f v) (m1 : y.toInt ≤ m.toInt) (m2 : m.toInt = y.toInt ∨ (m.toInt ≤ x.toInt ∧ m.toInt ≤ r.toInt)) (m3 : x.toInt ≤ m.toInt ∨ r.toInt ≤ m.toInt) : WDW g s n k (a + 1) (upd f v m) := by
  obtain ⟨⟨k1, k2⟩, k3⟩ := h
  have fV : upd f v m v = m := up_e
  have up : ∀ k, (f k).toInt ≤ (upd f v m k).toInt := fun k => by
    by_cases e : k = v
    · rw [e, fV, ← hy]; exact m1
    · rw [up_n e]; exact Int.le_refl _
  have dx := k1 u un
  rw [← hx] at dx
  have dv := k1 v vn
  rw [← hy] at dv
  refine ⟨⟨fun c hc => ?_, fun c j w hc hj hw hk => Int.le_trans (k2 c j w hc hj hw hk) (up c)⟩, fun p u' v' j w hp h160 hu' hv' hj hw hk hr' => ?_⟩
  · by_cases e : c = v
    · rw [e, fV]
      refine ⟨?_, by omega⟩
      rcases m2 with z | ⟨z1, z2⟩
      · rw [z]; exact dv.1
      · exact wdr_s ha hu hv dx.1 z1 (by rw [← hr]; exact z2)
    · rw [up_n e]; exact k1 c hc
  · by_cases c : p = a
    · rw [c] at hu' hv' hr'
      have e1 : u' = u := by omega
      have e2 : v' = v := by omega
      rw [e1] at hk
      have q := k2 u j w un hj hw hk
      rw [← hx] at q
      rw [← hr] at hr'
      rw [e2, fV]
      omega
    · exact Int.le_trans (k3 p u' v' j w (by omega) h160 hu' hv' hj hw hk hr') (up v')
theorem wdw_e {k : Nat} {f : Nat → Int32} (h : WDW g s n k 160 f) (hE : ∀ p u v : Nat, p < 160 → ARE g 0 p = (u : Int) → ARE g 1 p = (v : Int) → u < n ∧ v < n) : WDV g s n (k + 1) f := by
  refine ⟨h.1.1, fun v j w hv hj hw hk => ?_⟩
  by_cases c : j ≤ k
  · exact h.1.2 v j w hv c hw hk
  · have e : j = k + 1 := by omega
    rw [e] at hk
    obtain ⟨x, hx, p, a, b, d, r⟩ := wk_last k hk
    exact h.2 p x v k w a a b d (Nat.le_refl _) hw hx r
theorem wds_r {f : Nat → Int32} {z : Int32} (h : WDV g s n n f) (hE : ∀ p u v : Nat, p < 160 → ARE g 0 p = (u : Int) → ARE g 1 p = (v : Int) → u < n ∧ v < n) (ht : t < n) (hz : z = f t) : WDS g s t z.toInt := by
  have dt := h.1 t ht
  rw [← hz] at dt
  refine ⟨dt.2, dt.1, fun w hw k => ?_⟩
  rcases k with k | ⟨k1, k2⟩
  · have := dt.2
    omega
  · obtain ⟨j, hj, hk⟩ := wl_short ht (fun u v ⟨p, a, b, c, _⟩ => hE p u v a b c) k2
    have q := h.2 t j w ht hj k1 hk
    rw [← hz] at q
    omega
end WID
theorem arz_e {s : GS} (hI : Inv s) : ∀ p u v : Nat, p < 160 → ARE (gvZ s) 0 p = (u : Int) → ARE (gvZ s) 1 p = (v : Int) → u < (s.2.2.1 109 20).toInt.toNat ∧ v < (s.2.2.1 109 20).toInt.toNat := by
  intro p u v hp hu hv
  have q := ndq_a (ndq_z hI) hp hu hv
  have en : (gvZ s).2.2.2.2.2.2.1 = (s.2.2.1 109 20).toInt := by
    have k : s.2.2.1 109 20 = s.1 110 (s.2.2.1 109 18).toNatClampNeg := hI.2.2.2.2.2.2.2.2.2.2
    rw [k]
    rfl
  rw [en] at q
  omega
theorem gvz_r {s : GS} (hI : Inv s) {p : Nat} : (gvZ s).2.2.2.2.1 p = s.1 116 (bs s + p) := by
  have k2 : (s.2.2.1 109 19).toInt = 160 * (s.2.2.1 109 18).toInt := hI.2.2.2.2.2.2.2.2.2.1
  have i18 := inv_F hI (z := s.2.2.1 109 18) 0 1 rfl rfl
  have eb : bs s = 160 * (s.2.2.1 109 18).toNatClampNeg := by
    show (s.2.2.1 109 19).toInt.toNat = 160 * (s.2.2.1 109 18).toInt.toNat
    have := i18.1
    omega
  rw [eb]
  rfl
theorem wdw_z {s : GS} (hI : Inv s) {S n k a : Nat} {f : Nat → Int32} {x : Int32} (h : WDW (gvZ s) S n k a f) (e : x = s.1 112 (bs s + a)) (hx : x.toInt = 0) : WDW (gvZ s) S n k (a + 1) f := wdw_n h (fun u v hu _ => by
  have m := arz_n hI e hx
  omega)
theorem wdw_m {s : GS} (hI : Inv s) {S k a : Nat} {f : Nat → Int32} {x c w : Int32} (h : WDW (gvZ s) S (s.2.2.1 109 20).toInt.toNat k a f) (ha : a < 160) (e : x = s.1 112 (bs s + a)) (hx : x.toInt ≠ 0) (ec : c = s.1 113 (bs s + a)) (ew : w = f c.toNatClampNeg) (hw : w.toInt < 0) : WDW (gvZ s) S (s.2.2.1 109 20).toInt.toNat k (a + 1) f := wdw_n h (fun u v hu hv => by
  obtain ⟨n1, n2⟩ := arz_e hI a u v ha hu hv
  obtain ⟨a1, a2⟩ := arz_y hI ha e hx
  rw [← ec] at a1
  have eu : u = c.toNatClampNeg := by omega
  exact ⟨n2, n1, by rw [eu, ← ew]; exact hw⟩)
theorem wdw_t {s : GS} (hI : Inv s) {S k a : Nat} {f : Nat → Int32} {x c e r w y m : Int32} (h : WDW (gvZ s) S (s.2.2.1 109 20).toInt.toNat k a f) (ha : a < 160) (ex : x = s.1 112 (bs s + a)) (hx : x.toInt ≠ 0) (ec : c = s.1 113 (bs s + a)) (ee : e = s.1 114 (bs s + a)) (er : r = s.1 116 (bs s + a)) (ew : w = f c.toNatClampNeg) (ey : y = f e.toNatClampNeg) (m1 : y.toInt ≤ m.toInt) (m2 : m.toInt = y.toInt ∨ (m.toInt ≤ w.toInt ∧ m.toInt ≤ r.toInt)) (m3 : w.toInt ≤ m.toInt ∨ r.toInt ≤ m.toInt) : WDW (gvZ s) S (s.2.2.1 109 20).toInt.toNat k (a + 1) (upd f e.toNatClampNeg m) := by
  obtain ⟨a1, a2⟩ := arz_y hI ha ex hx
  rw [← ec] at a1
  rw [← ee] at a2
  obtain ⟨n1, n2⟩ := arz_e hI a _ _ ha a1 a2
  exact wdw_s h ha a1 a2 n1 n2 (by rw [gvz_r hI]; exact er) ew ey m1 m2 m3
def WIR (s t : GS) (x y z : Int32) : Prop := ((t.2.2.1 109 0).toInt = 1 ∧ ¬ ((0 ≤ x.toInt ∧ x.toInt < (s.2.2.1 109 20).toInt) ∧ (0 ≤ y.toInt ∧ y.toInt < (s.2.2.1 109 20).toInt))) ∨ ((t.2.2.1 109 0).toInt = 0 ∧ ((0 ≤ x.toInt ∧ x.toInt < (s.2.2.1 109 20).toInt) ∧ (0 ≤ y.toInt ∧ y.toInt < (s.2.2.1 109 20).toInt)) ∧ WDS (gvZ s) x.toNatClampNeg y.toNatClampNeg z.toInt)
/-! CORES -/
noncomputable def ind (P : Prop) : Int := @ite Int P (Classical.propDecidable P) 1 0
theorem ind_y {P : Prop} (h : P) : ind P = 1 := if_pos h
theorem ind_n {P : Prop} (h : ¬ P) : ind P = 0 := if_neg h
theorem ind_b (P : Prop) : 0 ≤ ind P ∧ ind P ≤ 1 := by
  by_cases h : P
  · rw [ind_y h]; exact ⟨by decide, by decide⟩
  · rw [ind_n h]; exact ⟨by decide, by decide⟩
theorem ind_le {P Q : Prop} (h : P → Q) : ind P ≤ ind Q := by
  by_cases c : P
  · rw [ind_y c, ind_y (h c)]; exact Int.le_refl _
  · rw [ind_n c]; exact (ind_b Q).1
theorem ind_eq {P Q : Prop} (h : P ↔ Q) : ind P = ind Q := by rw [propext h]
theorem ind_sp {P Q R : Prop} (h1 : R → P ∧ ¬ Q) (h2 : ¬ R → (P ↔ Q)) : ind P = ind Q + ind R := by
  by_cases c : R
  · rw [ind_y c, ind_y (h1 c).1, ind_n (h1 c).2]; rfl
  · rw [ind_n c, ind_eq (h2 c)]; omega
theorem sm_mono {f h : Nat → Int} : ∀ n : Nat, (∀ k, k < n → f k ≤ h k) → sm f n ≤ sm h n
  | 0, _ => Int.le_refl _
  | n + 1, e => by
    have a := sm_mono n (fun k hk => e k (by omega))
    have b := e n (by omega)
    rw [sm_s, sm_s]
    omega
theorem sm_top {f : Nat → Int} {m : Nat} : ∀ n : Nat, m ≤ n → (∀ k, m ≤ k → k < n → f k = 0) → sm f n = sm f m
  | 0, h, _ => by rw [show m = 0 by omega]
  | n + 1, h, e => by
    by_cases c : m = n + 1
    · rw [c]
    · rw [sm_s, sm_top n (by omega) (fun k h1 h2 => e k h1 (by omega)), e n (by omega) (by omega)]
      omega
abbrev BS (S : Int32) (x : Int) : Prop := 0 ≤ x ∧ bt S x.toNat = true
/-- what the arc p adds to the joints of u with S -/
noncomputable def jd (F T : Nat → Int) (S : Int32) (u p : Nat) : Int := ind (F p = (u : Int) ∧ T p ≠ (u : Int) ∧ BS S (T p)) + ind (T p = (u : Int) ∧ F p ≠ (u : Int) ∧ BS S (F p))
noncomputable def jl (F T : Nat → Int) (v u p : Nat) : Int := ind (T p = (v : Int) ∧ F p = (u : Int)) + ind (F p = (v : Int) ∧ T p = (u : Int))
noncomputable def JD (F T : Nat → Int) (S : Int32) (u : Nat) : Int := sm (jd F T S u) 160
def KST (F T : Nat → Int) (n : Int) (S : Int32) (k : Int) : Prop := ∀ u : Nat, bt S u = true → (u : Int) < n ∧ k ≤ JD F T S u
/-- the core of v is k -/
def CRE (F T : Nat → Int) (n : Int) (v : Nat) (k : Int) : Prop := (∃ S, KST F T n S k ∧ bt S v = true) ∧ ¬ ∃ S, KST F T n S (k + 1) ∧ bt S v = true
section COR
variable {F T : Nat → Int} {n : Int} {S U : Int32} {u v p : Nat}
theorem kst_w {j k : Int} (h : KST F T n S k) (hj : j ≤ k) : KST F T n S j := fun u hu => by
  obtain ⟨a, b⟩ := h u hu
  exact ⟨a, by omega⟩
theorem cre_u {j k : Int} (h1 : CRE F T n v j) (h2 : CRE F T n v k) : j = k := by
  rcases Int.lt_trichotomy j k with c | c | c
  · obtain ⟨S, a, b⟩ := h2.1
    exact absurd ⟨S, kst_w a (by omega), b⟩ h1.2
  · exact c
  · obtain ⟨S, a, b⟩ := h1.1
    exact absurd ⟨S, kst_w a (by omega), b⟩ h2.2
theorem jd_b : 0 ≤ jd F T S u p ∧ jd F T S u p ≤ 2 := by
  unfold jd
  have a := ind_b (F p = (u : Int) ∧ T p ≠ (u : Int) ∧ BS S (T p))
  have b := ind_b (T p = (u : Int) ∧ F p ≠ (u : Int) ∧ BS S (F p))
  omega
theorem jd_sb {m : Nat} : 0 ≤ sm (jd F T S u) m ∧ sm (jd F T S u) m ≤ (m : Int) * 2 := sm_le m (fun _ _ => jd_b)
theorem JD_b : 0 ≤ JD F T S u ∧ JD F T S u ≤ 320 := by
  have h := jd_sb (F := F) (T := T) (S := S) (u := u) (m := 160)
  unfold JD
  omega
theorem JD_le (h : ∀ w, bt S w = true → bt U w = true) : JD F T S u ≤ JD F T U u := sm_mono 160 (fun p _ => by
  have a : ind (F p = (u : Int) ∧ T p ≠ (u : Int) ∧ BS S (T p)) ≤ ind (F p = (u : Int) ∧ T p ≠ (u : Int) ∧ BS U (T p)) := ind_le (fun z => ⟨z.1, z.2.1, z.2.2.1, h _ z.2.2.2⟩)
  have b : ind (T p = (u : Int) ∧ F p ≠ (u : Int) ∧ BS S (F p)) ≤ ind (T p = (u : Int) ∧ F p ≠ (u : Int) ∧ BS U (F p)) := ind_le (fun z => ⟨z.1, z.2.1, z.2.2.1, h _ z.2.2.2⟩)
  unfold jd
  omega)
theorem JD_rm (hv : bt S v = true) (h2 : ∀ w, bt U w = true ↔ (bt S w = true ∧ w ≠ v)) (hu : u ≠ v) : JD F T S u = JD F T U u + sm (jl F T v u) 160 := by
  unfold JD
  rw [← sm_add]
  refine sm_eq 160 (fun p _ => ?_)
  have key : ∀ a b : Int, ind (a = (u : Int) ∧ b ≠ (u : Int) ∧ BS S b) = ind (a = (u : Int) ∧ b ≠ (u : Int) ∧ BS U b) + ind (b = (v : Int) ∧ a = (u : Int)) := fun a b => by
    refine ind_sp (fun z => ⟨⟨z.2, ?_, ?_, ?_⟩, fun q => ?_⟩) (fun hn => ⟨fun x => ⟨x.1, x.2.1, x.2.2.1, (h2 _).mpr ⟨x.2.2.2, fun y => hn ⟨?_, x.1⟩⟩⟩, fun x => ⟨x.1, x.2.1, x.2.2.1, ((h2 _).mp x.2.2.2).1⟩⟩)
    · have := z.1
      omega
    · have := z.1
      omega
    · rw [z.1]; exact hv
    · refine ((h2 _).mp q.2.2.2).2 ?_
      have := z.1
      omega
    · have := x.2.2.1
      omega
  show jd F T S u p = jd F T U u p + jl F T v u p
  unfold jd jl
  rw [key (F p) (T p), key (T p) (F p)]
  omega
theorem JD_all (n32 : n ≤ 32) (hr : ∀ k : Nat, bt S k = true ↔ (k : Int) < n) (hN : ∀ p, p < 160 → (0 ≤ F p → F p < n) ∧ (0 ≤ T p → T p < n)) : JD F T (Int32.ofInt (-1)) u = JD F T S u := by
  refine sm_eq 160 (fun p hp => ?_)
  obtain ⟨q1, q2⟩ := hN p hp
  have key : ∀ x : Int, (0 ≤ x → x < n) → (BS (Int32.ofInt (-1)) x ↔ BS S x) := fun x hx => by
    constructor
    · intro z
      have a := z.1
      have b := hx a
      exact ⟨a, (hr _).mpr (by omega)⟩
    · intro z
      have a := z.1
      have b := hx a
      exact ⟨a, bt_m1 (by omega)⟩
  unfold jd
  rw [propext (key (T p) q2), propext (key (F p) q1)]
theorem jd_0 (h : F p = T p) : jd F T S u p = 0 := by
  unfold jd
  rw [ind_n (fun z => z.2.1 (by rw [← h]; exact z.1)), ind_n (fun z => z.2.1 (by rw [h]; exact z.1))]
  rfl
theorem jd_v {f t : Nat} (hf : F p = (f : Int)) (ht : T p = (t : Int)) (hne : f ≠ t) (f32 : f < 32) (t32 : t < 32) : jd F T (Int32.ofInt (-1)) u p = ind (f = u) + ind (t = u) := by
  have a : ind (F p = (u : Int) ∧ T p ≠ (u : Int) ∧ BS (Int32.ofInt (-1)) (T p)) = ind (f = u) := ind_eq ⟨fun z => by have := z.1; omega, fun z => ⟨by omega, by omega, by omega, by rw [ht]; exact bt_m1 t32⟩⟩
  have b : ind (T p = (u : Int) ∧ F p ≠ (u : Int) ∧ BS (Int32.ofInt (-1)) (F p)) = ind (t = u) := ind_eq ⟨fun z => by have := z.1; omega, fun z => ⟨by omega, by omega, by omega, by rw [hf]; exact bt_m1 f32⟩⟩
  unfold jd
  rw [a, b]
theorem JD_cg {F2 T2 : Nat → Int} (h1 : ∀ p, p < 160 → F p = F2 p) (h2 : ∀ p, p < 160 → T p = T2 p) : JD F T S u = JD F2 T2 S u := sm_eq 160 (fun p hp => by
  unfold jd
  rw [h1 p hp, h2 p hp])
theorem kst_cg {F2 T2 : Nat → Int} {k : Int} (h1 : ∀ p, p < 160 → F p = F2 p) (h2 : ∀ p, p < 160 → T p = T2 p) (h : KST F T n S k) : KST F2 T2 n S k := fun u hu => by
  rw [← JD_cg h1 h2]
  exact h u hu
theorem cre_cg {F2 T2 : Nat → Int} {k : Int} (h1 : ∀ p, p < 160 → F p = F2 p) (h2 : ∀ p, p < 160 → T p = T2 p) (h : CRE F T n v k) : CRE F2 T2 n v k := by
  obtain ⟨⟨S, a, b⟩, c⟩ := h
  exact ⟨⟨S, kst_cg h1 h2 a, b⟩, fun ⟨U, d, e⟩ => c ⟨U, kst_cg (fun p hp => (h1 p hp).symm) (fun p hp => (h2 p hp).symm) d, e⟩⟩
/-! the class: countJoints -/
def CJI (F T : Nat → Int) (m : Nat) (r : Nat → Int32) : Prop := ∀ u : Nat, u < 32 → (r u).toInt = sm (jd F T (Int32.ofInt (-1)) u) m
theorem cji_0 {r : Nat → Int32} {m : Nat} (hm : m = 0) (h : ∀ u, u < 32 → r u = Int32.ofInt 0) : CJI F T m r := fun u hu => by
  rw [h u hu, hm]
  rfl
theorem cji_n {m : Nat} {r : Nat → Int32} (h : CJI F T m r) (e : F m = T m) : CJI F T (m + 1) r := fun u hu => by
  rw [sm_s, jd_0 e, h u hu]
  omega
theorem cji_s {m : Nat} {r : Nat → Int32} {f t x x2 y y2 : Int32} (h : CJI F T m r) (hm : m < 160) (hf : F m = f.toInt) (ht : T m = t.toInt) (i1 : In f 0 31) (i2 : In t 0 31) (hne : f.toInt ≠ t.toInt) (ex : x = r f.toNatClampNeg) (e2 : x2 = x + Int32.ofInt 1) (ey : y = upd r f.toNatClampNeg x2 t.toNatClampNeg) (e3 : y2 = y + Int32.ofInt 1) : CJI F T (m + 1) (upd (upd r f.toNatClampNeg x2) t.toNatClampNeg y2) := by
  intro u hu
  have cf := clx i1.1
  have ct := clx i2.1
  have f1 := i1.2
  have t1 := i2.2
  have f32 : f.toNatClampNeg < 32 := by omega
  have t32 : t.toNatClampNeg < 32 := by omega
  have ne : f.toNatClampNeg ≠ t.toNatClampNeg := fun z => by rw [z] at cf; omega
  have bd : ∀ w, w < 32 → 0 ≤ (r w).toInt ∧ (r w).toInt ≤ 320 := fun w hw => by
    have q := jd_sb (F := F) (T := T) (S := Int32.ofInt (-1)) (u := w) (m := m)
    rw [h w hw]
    omega
  have a2 : x2.toInt = (r f.toNatClampNeg).toInt + 1 := by
    rw [← ex]
    exact t_add e2 (show In x 0 320 from by rw [ex]; exact bd _ f32) (in_c 1 rfl) rfl
  have yt : y = r t.toNatClampNeg := by rw [ey, up_n (fun z => ne z.symm)]
  have b2 : y2.toInt = (r t.toNatClampNeg).toInt + 1 := by
    rw [← yt]
    exact t_add e3 (show In y 0 320 from by rw [yt]; exact bd _ t32) (in_c 1 rfl) rfl
  rw [sm_s, jd_v (f := f.toNatClampNeg) (t := t.toNatClampNeg) (by rw [hf, cf]) (by rw [ht, ct]) ne f32 t32, ← h u hu]
  by_cases c2 : u = t.toNatClampNeg
  · rw [c2, up_e, b2, ind_n ne, ind_y rfl]
    omega
  · rw [up_n c2, ind_n (show ¬ t.toNatClampNeg = u from fun z => c2 z.symm)]
    by_cases c1 : u = f.toNatClampNeg
    · rw [c1, up_e, a2, ind_y rfl]
      omega
    · rw [up_n c1, ind_n (show ¬ f.toNatClampNeg = u from fun z => c1 z.symm)]
      omega
theorem cji_e {m : Nat} {r : Nat → Int32} (h : CJI F T m r) (hm : m ≤ 160) (ht : ∀ p, m ≤ p → p < 160 → F p = T p) : ∀ u : Nat, u < 32 → (r u).toInt = JD F T (Int32.ofInt (-1)) u := fun u hu => by
  unfold JD
  rw [h u hu, sm_top 160 hm (fun k a b => jd_0 (ht k a b))]
/-! loosen -/
def LSX (F T : Nat → Int) (v : Nat) (b0 : Nat → Int) (r0 r : Nat → Int32) (c d : Int) : Prop := (∀ u : Nat, u < 32 → (r0 u).toInt - c - d ≤ (r u).toInt ∧ (r u).toInt ≤ (r0 u).toInt) ∧ ∀ u : Nat, u < 32 → u ≠ v → (r u).toInt = b0 u - sm (fun p => ind (F p = (v : Int) ∧ T p = (u : Int) ∧ cn F (v : Int) p < d)) 160
def LSP (F T : Nat → Int) (v : Nat) (r0 r : Nat → Int32) : Prop := (∀ u : Nat, u < 32 → (r0 u).toInt - 320 ≤ (r u).toInt ∧ (r u).toInt ≤ (r0 u).toInt) ∧ ∀ u : Nat, u < 32 → u ≠ v → (r u).toInt = (r0 u).toInt - sm (jl F T v u) 160
theorem ls_0 {b0 : Nat → Int} {r0 r : Nat → Int32} {c d : Int} (hd : d = 0) (h1 : ∀ u : Nat, u < 32 → (r0 u).toInt - c ≤ (r u).toInt ∧ (r u).toInt ≤ (r0 u).toInt) (h2 : ∀ u : Nat, u < 32 → u ≠ v → (r u).toInt = b0 u) : LSX F T v b0 r0 r c d := by
  refine ⟨fun u hu => ?_, fun u hu hv => ?_⟩
  · have := h1 u hu
    omega
  · rw [h2 u hu hv, sm_0 160 (fun p _ => ind_n (fun z => by
      have a := cn_0 F (v : Int) p
      have b := z.2.2
      omega))]
    omega
theorem ls_s {b0 : Nat → Int} {r0 r : Nat → Int32} {c d e : Int} {w x x2 : Int32} (h : LSX F T v b0 r0 r c d) (hb : ∀ u : Nat, u < 32 → In (r0 u) (-20000) 20000) (hc : 0 ≤ c ∧ c ≤ 160) (hd : 0 ≤ d ∧ d ≤ 160) (hp : p < 160) (hf : F p = (v : Int)) (ht : T p = w.toInt) (iw : In w 0 31) (hcn : cn F (v : Int) p = d) (ex : x = r w.toNatClampNeg) (e2 : x2 = x - Int32.ofInt 1) (he : e = d + 1) : LSX F T v b0 r0 (upd r w.toNatClampNeg x2) c e := by
  have cw := clx iw.1
  have w1 := iw.2
  have w32 : w.toNatClampNeg < 32 := by omega
  have xw := h.1 _ w32
  have xb := hb _ w32
  have b1 := xb.1
  have b2 := xb.2
  have a2 : x2.toInt = (r w.toNatClampNeg).toInt - 1 := by
    rw [← ex]
    exact t_sub e2 (show In x (-30000) 30000 from by rw [ex]; exact ⟨by omega, by omega⟩) (in_c 1 rfl) rfl
  have key : ∀ u q : Nat, (q ≠ p ∨ u ≠ w.toNatClampNeg) → ind (F q = (v : Int) ∧ T q = (u : Int) ∧ cn F (v : Int) q < e) = ind (F q = (v : Int) ∧ T q = (u : Int) ∧ cn F (v : Int) q < d) := fun u q hq => by
    refine ind_eq ⟨fun z => ⟨z.1, z.2.1, ?_⟩, fun z => ⟨z.1, z.2.1, ?_⟩⟩
    · have z2 := z.2.2
      by_cases ce : cn F (v : Int) q = d
      · have qp : q = p := cn_inj z.1 hf (by omega)
        rcases hq with hq | hq
        · exact absurd qp hq
        · have z1 := z.2.1
          rw [qp, ht] at z1
          omega
      · omega
    · have z2 := z.2.2
      omega
  refine ⟨fun u hu => ?_, fun u hu hv => ?_⟩
  · have q := h.1 u hu
    by_cases cu : u = w.toNatClampNeg
    · rw [cu] at q ⊢
      rw [up_e, a2]
      omega
    · rw [up_n cu]
      omega
  · have q := h.2 u hu hv
    by_cases cu : u = w.toNatClampNeg
    · have s1 : sm (fun p => ind (F p = (v : Int) ∧ T p = (u : Int) ∧ cn F (v : Int) p < e)) 160 = sm (fun p => ind (F p = (v : Int) ∧ T p = (u : Int) ∧ cn F (v : Int) p < d)) 160 + 1 := by
        refine sm_one (u := p) (d := 1) 160 hp (fun k _ hk => key u k (Or.inl hk)) ?_
        show ind (F p = (v : Int) ∧ T p = (u : Int) ∧ cn F (v : Int) p < e) = ind (F p = (v : Int) ∧ T p = (u : Int) ∧ cn F (v : Int) p < d) + 1
        rw [ind_y ⟨hf, by rw [ht]; omega, by omega⟩, ind_n (fun z => by have := z.2.2; omega)]
        rfl
      rw [s1]
      rw [cu] at q ⊢
      rw [up_e, a2]
      omega
    · rw [up_n cu, q, sm_eq 160 (fun k _ => (key u k (Or.inr cu)).symm)]
theorem ls_e {b0 : Nat → Int} {r0 r : Nat → Int32} {c d : Int} (h : LSX F T v b0 r0 r c d) (he : ∀ p, p < 160 → F p = (v : Int) → cn F (v : Int) p < d) : ∀ u : Nat, u < 32 → u ≠ v → (r u).toInt = b0 u - sm (fun p => ind (F p = (v : Int) ∧ T p = (u : Int))) 160 := fun u hu hv => by
  rw [h.2 u hu hv, sm_eq 160 (fun p hp => ind_eq (P := F p = (v : Int) ∧ T p = (u : Int) ∧ cn F (v : Int) p < d) (Q := F p = (v : Int) ∧ T p = (u : Int)) ⟨fun z => ⟨z.1, z.2.1⟩, fun z => ⟨z.1, z.2, he p hp z.1⟩⟩)]
/-- from the outs to the ins -/
theorem ls_m {r0 r : Nat → Int32} {d e : Int} (h : LSX F T v (fun u => (r0 u).toInt) r0 r 0 d) (hd : d ≤ 160) (he : ∀ p, p < 160 → F p = (v : Int) → cn F (v : Int) p < d) (h0 : e = 0) : LSX T F v (fun u => (r0 u).toInt - sm (fun p => ind (F p = (v : Int) ∧ T p = (u : Int))) 160) r0 r 160 e := by
  refine ls_0 h0 (fun u hu => ?_) (fun u hu hv => ls_e h he u hu hv)
  have := h.1 u hu
  omega
theorem ls_p {r0 r : Nat → Int32} {d : Int} (h : LSX T F v (fun u => (r0 u).toInt - sm (fun p => ind (F p = (v : Int) ∧ T p = (u : Int))) 160) r0 r 160 d) (hd : d ≤ 160) (he : ∀ p, p < 160 → T p = (v : Int) → cn T (v : Int) p < d) : LSP F T v r0 r := by
  refine ⟨fun u hu => ?_, fun u hu hv => ?_⟩
  · have := h.1 u hu
    omega
  · have a := ls_e h he u hu hv
    have e : sm (jl F T v u) 160 = sm (fun p => ind (T p = (v : Int) ∧ F p = (u : Int))) 160 + sm (fun p => ind (F p = (v : Int) ∧ T p = (u : Int))) 160 := sm_add (f := fun p => ind (T p = (v : Int) ∧ F p = (u : Int))) (h := fun p => ind (F p = (v : Int) ∧ T p = (u : Int))) 160
    rw [a, e]
    omega
/-! peel -/
def CPI (F T : Nat → Int) (n i : Int) (rest : Int32) (lv : Int) (co de : Nat → Int32) : Prop := (∀ u : Nat, u < 32 → -320 * i ≤ (de u).toInt ∧ (de u).toInt ≤ 320) ∧ (∀ u : Nat, bt rest u = true → (u : Int) < n ∧ (de u).toInt = JD F T rest u) ∧ (∃ S, KST F T n S lv ∧ ∀ u, bt rest u = true → bt S u = true) ∧ (∀ S, KST F T n S (lv + 1) → ∀ u, bt S u = true → bt rest u = true) ∧ ∀ w : Nat, (w : Int) < n → bt rest w = false → CRE F T n w (co w).toInt
theorem cpi_0 {i lv : Int} {rest : Int32} {co de : Nat → Int32} (hr : ∀ k : Nat, bt rest k = true ↔ (k : Int) < n) (n32 : n ≤ 32) (hd : ∀ u : Nat, u < 32 → (de u).toInt = JD F T (Int32.ofInt (-1)) u) (hN : ∀ p, p < 160 → (0 ≤ F p → F p < n) ∧ (0 ≤ T p → T p < n)) (hi : i = 0) (hl : lv = 0) : CPI F T n i rest lv co de := by
  refine ⟨fun u hu => ?_, fun u hu => ⟨(hr u).mp hu, ?_⟩, ⟨rest, fun u hu => ⟨(hr u).mp hu, ?_⟩, fun _ h => h⟩, fun S hS u hu => (hr u).mpr (hS u hu).1, fun w hw hb => ?_⟩
  · have := JD_b (F := F) (T := T) (S := Int32.ofInt (-1)) (u := u)
    rw [hd u hu]
    omega
  · rw [hd u (bt_lt hu), JD_all n32 hr hN]
  · have := JD_b (F := F) (T := T) (S := rest) (u := u)
    omega
  · rw [(hr w).mpr hw] at hb
    cases hb
theorem cpi_s {i i2 lv lv2 : Int} {rest rest2 w one nt z : Int32} {co co2 de de2 : Nat → Int32} (h : CPI F T n i rest lv co de) (hw : bt rest w.toNatClampNeg = true) (iw : In w 0 31) (hm : ∀ u : Nat, bt rest u = true → (de w.toNatClampNeg).toInt ≤ (de u).toInt) (e1 : one = Int32.ofInt 1 <<< (w &&& 31)) (e2 : nt = one ^^^ Int32.ofInt (-1)) (e3 : rest2 = rest &&& nt) (hl : (lv2 = lv ∧ (de w.toNatClampNeg).toInt ≤ lv) ∨ (lv2 = (de w.toNatClampNeg).toInt ∧ lv ≤ (de w.toNatClampNeg).toInt)) (hz : z.toInt = lv2) (hc : co2 = upd co w.toNatClampNeg z) (hd : LSP F T w.toNatClampNeg de de2) (hi : i2 = i + 1) : CPI F T n i2 rest2 lv2 co2 de2 := by
  obtain ⟨h1, h2, ⟨S0, h3, h4⟩, h5, h6⟩ := h
  have b2 : ∀ k, bt rest2 k = true ↔ (bt rest k = true ∧ k ≠ w.toNatClampNeg) := fun k => by
    by_cases hk : k < 32
    · rw [bt_clr e1 e2 e3 iw hk, Bool.and_eq_true]
      simp
    · exact ⟨fun z => absurd (bt_lt z) hk, fun z => absurd (bt_lt z.1) hk⟩
  obtain ⟨wn, wd⟩ := h2 _ hw
  have ge : lv ≤ lv2 ∧ (de w.toNatClampNeg).toInt ≤ lv2 := by omega
  have ex : ∃ S, KST F T n S lv2 ∧ ∀ u, bt rest u = true → bt S u = true := by
    rcases hl with ⟨a, -⟩ | ⟨a, -⟩
    · rw [a]; exact ⟨S0, h3, h4⟩
    · refine ⟨rest, fun u hu => ⟨(h2 u hu).1, ?_⟩, fun _ q => q⟩
      rw [a, ← (h2 u hu).2]
      exact hm u hu
  have no : ∀ S, KST F T n S (lv2 + 1) → bt S w.toNatClampNeg = true → False := fun S hS hb => by
    have sub := h5 S (kst_w hS (by omega))
    have a := (hS _ hb).2
    have b := JD_le (F := F) (T := T) (u := w.toNatClampNeg) sub
    omega
  refine ⟨fun u hu => ?_, fun u hu => ?_, ?_, fun S hS u hu => ?_, fun k hk hb => ?_⟩
  · have a := h1 u hu
    have b := hd.1 u hu
    omega
  · obtain ⟨a, b⟩ := (b2 u).mp hu
    obtain ⟨c, d⟩ := h2 u a
    refine ⟨c, ?_⟩
    rw [hd.2 u (bt_lt a) b, d, JD_rm hw b2 b]
    omega
  · obtain ⟨S, a, b⟩ := ex
    exact ⟨S, a, fun u hu => b u ((b2 u).mp hu).1⟩
  · refine (b2 u).mpr ⟨h5 S (kst_w hS (by omega)) u hu, fun c => no S hS ?_⟩
    rw [← c]
    exact hu
  · rw [hc]
    by_cases c : k = w.toNatClampNeg
    · rw [c, up_e, hz]
      obtain ⟨S, a, b⟩ := ex
      exact ⟨⟨S, a, b _ hw⟩, fun ⟨S, a, b⟩ => no S a b⟩
    · rw [up_n c]
      refine h6 k hk ?_
      cases e : bt rest k with
      | false => rfl
      | true =>
        rw [(b2 k).mpr ⟨e, c⟩] at hb
        cases hb
theorem cpi_e {i lv : Int} {rest : Int32} {co de : Nat → Int32} (h : CPI F T n i rest lv co de) (hz : (cb rest : Int) ≤ 0) : ∀ w : Nat, (w : Int) < n → CRE F T n w (co w).toInt := fun w hw => by
  refine h.2.2.2.2 w hw ?_
  cases e : bt rest w with
  | false => rfl
  | true =>
    have := cb_pos e
    omega
/-! the reference -/
def CRI (F T : Nat → Int) (n : Int) (v : Nat) (S : Int32) (k a : Int) : Prop := KST F T n S k ∧ (∀ U, KST F T n U k → ∀ u, bt U u = true → bt S u = true) ∧ ((k = 0 ∧ bt S v = true) ∨ (a = k - 1 ∧ ∃ U, KST F T n U (k - 1) ∧ bt U v = true))
def CRM (F T : Nat → Int) (n : Int) (v : Nat) (S : Int32) (k a c : Int) : Prop := (∀ u : Nat, bt S u = true → (u : Int) < n) ∧ (∀ U, KST F T n U k → ∀ u, bt U u = true → bt S u = true) ∧ (a = k - 1 ∧ ∃ U, KST F T n U (k - 1) ∧ bt U v = true) ∧ (c = 0 → KST F T n S k)
def CRO (F T : Nat → Int) (n : Int) (S : Int32) (k c j : Int) : Prop := (∀ u : Nat, bt S u = true → (u : Int) < n) ∧ (∀ U, KST F T n U k → ∀ u, bt U u = true → bt S u = true) ∧ (c = 0 → ∀ u : Nat, bt S u = true → (u : Int) < j → k ≤ JD F T S u)
theorem cri_0 {k a : Int} (hr : ∀ j : Nat, bt S j = true ↔ (j : Int) < n) (hk : k = 0) (hv : (v : Int) < n) : CRI F T n v S k a := ⟨fun u hu => ⟨(hr u).mp hu, by
  have := JD_b (F := F) (T := T) (S := S) (u := u)
  omega⟩, fun U hU u hu => (hr u).mpr (hU u hu).1, Or.inl ⟨hk, (hr v).mpr hv⟩⟩
theorem cri_e {k a : Int} (h : CRI F T n v S k a) (hb : bt S v = false) : CRE F T n v a := by
  obtain ⟨h1, h2, h3 | ⟨h3, h4⟩⟩ := h
  · rw [h3.2] at hb; cases hb
  · rw [h3]
    refine ⟨h4, fun ⟨U, a, b⟩ => ?_⟩
    rw [h2 U (kst_w a (by omega)) v b] at hb
    cases hb
theorem crm_0 {k a k2 a2 c : Int} (h : CRI F T n v S k a) (hb : bt S v = true) (hk : k2 = k + 1) (ha : a2 = k) (hc : c ≠ 0) : CRM F T n v S k2 a2 c := by
  obtain ⟨h1, h2, -⟩ := h
  refine ⟨fun u hu => (h1 u hu).1, fun U hU => h2 U (kst_w hU (by omega)), ⟨by omega, S, ?_, hb⟩, fun z => absurd z hc⟩
  rw [show k2 - 1 = k by omega]
  exact h1
theorem crm_e {k a c : Int} (h : CRM F T n v S k a c) (hc : c = 0) : CRI F T n v S k a := ⟨h.2.2.2 hc, h.2.1, Or.inr h.2.2.1⟩
theorem cro_0 {k a c c2 j : Int} (h : CRM F T n v S k a c) (hj : j = 0) : CRO F T n S k c2 j := ⟨h.1, h.2.1, fun _ u _ hu => by omega⟩
theorem cro_n {k c j j2 : Int} (h : CRO F T n S k c j) (hj : j2 = j + 1) (hq : ∀ u : Nat, (u : Int) = j → bt S u = true → k ≤ JD F T S u) : CRO F T n S k c j2 := ⟨h.1, h.2.1, fun hc u hu hl => by
  by_cases e : (u : Int) = j
  · exact hq u e hu
  · exact h.2.2 hc u hu (by omega)⟩
theorem cro_r {k c c2 j j2 : Int} {w one nt S2 : Int32} (h : CRO F T n S k c j) (iw : In w 0 31) (e1 : one = Int32.ofInt 1 <<< (w &&& 31)) (e2 : nt = one ^^^ Int32.ofInt (-1)) (e3 : S2 = S &&& nt) (hd : JD F T S w.toNatClampNeg < k) (hc : c2 ≠ 0) : CRO F T n S2 k c2 j2 := by
  have b2 : ∀ k, bt S2 k = true ↔ (bt S k = true ∧ k ≠ w.toNatClampNeg) := fun k => by
    by_cases hk : k < 32
    · rw [bt_clr e1 e2 e3 iw hk, Bool.and_eq_true]
      simp
    · exact ⟨fun z => absurd (bt_lt z) hk, fun z => absurd (bt_lt z.1) hk⟩
  refine ⟨fun u hu => h.1 u ((b2 u).mp hu).1, fun U hU u hu => (b2 u).mpr ⟨h.2.1 U hU u hu, fun c => ?_⟩, fun z => absurd z hc⟩
  have a := (hU u hu).2
  have b := JD_le (F := F) (T := T) (u := u) (h.2.1 U hU)
  rw [c] at a b
  omega
theorem crm_s {k a c c2 j : Int} {S2 : Int32} (h : CRM F T n v S k a c) (g : CRO F T n S2 k c2 j) (hj : n ≤ j) : CRM F T n v S2 k a c2 := ⟨g.1, g.2.1, h.2.2.1, fun z u hu => ⟨g.1 u hu, g.2.2 z u hu (by
  have := g.1 u hu
  omega)⟩⟩
/-- one arc of jointsWith -/
theorem jd_w {f t : Int32} {z : Int} (hf : F p = f.toInt) (ht : T p = t.toInt) (i1 : In f 0 31) (i2 : In t 0 31) (hne : f.toInt ≠ t.toInt) (hz : (z = 1 ∧ ((f.toInt = (u : Int) ∧ bt S t.toNatClampNeg = true) ∨ (t.toInt = (u : Int) ∧ bt S f.toNatClampNeg = true))) ∨ (z = 0 ∧ (f.toInt ≠ (u : Int) ∨ bt S t.toNatClampNeg = false) ∧ (t.toInt ≠ (u : Int) ∨ bt S f.toNatClampNeg = false))) : jd F T S u p = z := by
  have f0 := i1.1
  have t0 := i2.1
  have ef : f.toNatClampNeg = f.toInt.toNat := rfl
  have et : t.toNatClampNeg = t.toInt.toNat := rfl
  unfold jd
  rw [hf, ht]
  rcases hz with ⟨a, b | b⟩ | ⟨a, b, c⟩
  · rw [ind_y ⟨b.1, by omega, t0, b.2⟩, ind_n (fun y => y.2.1 b.1), a]
    rfl
  · rw [ind_n (fun y => y.2.1 b.1), ind_y ⟨b.1, by omega, f0, b.2⟩, a]
    rfl
  · rw [ind_n (fun y => ?_), ind_n (fun y => ?_), a]
    · rfl
    · rcases c with c | c
      · exact c y.1
      · have q : bt S f.toNatClampNeg = true := y.2.2.2
        rw [c] at q; cases q
    · rcases b with b | b
      · exact b y.1
      · have q : bt S t.toNatClampNeg = true := y.2.2.2
        rw [b] at q; cases q
end COR
/-! loosest -/
theorem low_q {l k z : Int32} (h1 : lowB l k.toNatClampNeg) (b1 : bt l k.toNatClampNeg = true) (h2 : lowB l z.toNatClampNeg) (b2 : bt l z.toNatClampNeg = true) : k.toNatClampNeg = z.toNatClampNeg := Nat.le_antisymm (low_min h1 (bt_lt b1) b2) (low_min h2 (bt_lt b2) b1)
theorem lst_s {r : Nat → Int32} {x l l2 m k : Int32} {w w2 : Nat} (h : ∀ u : Nat, bt x u = true → bt l u = true ∨ (r w).toInt ≤ (r u).toInt) (hl : lowB l k.toNatClampNeg) (e1 : m = l - Int32.ofInt 1) (e2 : l2 = l &&& m) (h1 : (r w2).toInt ≤ (r w).toInt) (h2 : (r w2).toInt ≤ (r k.toNatClampNeg).toInt) : ∀ u : Nat, bt x u = true → bt l2 u = true ∨ (r w2).toInt ≤ (r u).toInt := fun u hu => by
  rcases h u hu with a | a
  · by_cases c : u = k.toNatClampNeg
    · right
      rw [c]
      exact h2
    · left
      rw [lowB_clr hl e1 e2, a]
      simp [c]
  · exact Or.inr (by omega)
theorem jw_n {F T : Nat → Int} {S : Int32} {u m : Nat} {y : Int} (h : y = sm (jd F T S u) m) (e : F m = T m) : y = sm (jd F T S u) (m + 1) := by
  rw [sm_s, jd_0 e, ← h]
  omega
theorem jw_s {F T : Nat → Int} {S : Int32} {u m : Nat} {y y2 : Int} (z : Int) (h : y = sm (jd F T S u) m) (hj : jd F T S u m = z) (h2 : y2 = y + z) : y2 = sm (jd F T S u) (m + 1) := by
  rw [sm_s, hj, ← h]
  exact h2
theorem are_2 {g : GVW} {p : Nat} {x y : Int32} (hp : p < 160) (ex : x = g.2.1 p) (hx : x.toInt ≠ -1) (ey : y = g.2.2.1 p) : ARE g 0 p = x.toInt ∧ ARE g 1 p = y.toInt := ⟨by rw [are_f hp rfl, ex], by rw [are_t hp (by rw [← ex]; exact hx) (by decide), ey]⟩
theorem are_0 {g : GVW} {p : Nat} {x : Int32} (ex : x = g.2.1 p) (hx : x.toInt = -1) : ARE g 0 p = ARE g 1 p := by rw [are_no (w := 0) (by rw [← ex]; exact hx), are_no (w := 1) (by rw [← ex]; exact hx)]
theorem are_q {g : GVW} {p : Nat} (h : ARE g 0 p = -1) (hp : p < 160) : ARE g 0 p = ARE g 1 p := by
  have e : (g.2.1 p).toInt = -1 := by rw [are_f hp rfl] at h; exact h
  exact are_0 rfl e
theorem ndq_i {g : GVW} (h : NDQ g) : ∀ p, p < 160 → (0 ≤ ARE g 0 p → ARE g 0 p < g.2.2.2.2.2.2.1) ∧ (0 ≤ ARE g 1 p → ARE g 1 p < g.2.2.2.2.2.2.1) := fun p hp => by
  by_cases c : (g.2.1 p).toInt = -1
  · rw [are_no (w := 0) c, are_no (w := 1) c]
    exact ⟨fun z => by omega, fun z => by omega⟩
  · obtain ⟨⟨-, a⟩, -, b⟩ := h p hp c
    rw [are_f hp rfl, are_t hp c (by decide)]
    exact ⟨fun _ => a, fun _ => b⟩
def COR (g : GVW) (v : Nat) (z : Int) : Prop := CRE (ARE g 0) (ARE g 1) g.2.2.2.2.2.2.1 v z
theorem cor_e {g h : GVW} (q : GEW g h) {v : Nat} {z : Int} (k : COR g v z) : COR h v z := by
  unfold COR at k ⊢
  rw [← q.2.2.2]
  exact cre_cg (fun p hp => are_e q hp) (fun p hp => are_e q hp) k
def CRG (g : GVW) (r : Nat → Int32) : Prop := ∀ w : Nat, (w : Int) < g.2.2.2.2.2.2.1 → COR g w (r w).toInt
theorem crg_e {g h : GVW} (q : GEW g h) {r : Nat → Int32} (k : CRG g r) : CRG h r := fun w hw => cor_e q (k w (by rw [q.2.2.2]; exact hw))
/-- what is kept of the cores fits the graph g -/
def CRB (g : GVW) (s : GS) : Prop := (s.2.2.1 56 3).toInt = g.2.2.2.2.2.2.2 → CRG g (s.1 58)
def CRQ (g : GVW) (s : GS) : Prop := (s.2.2.1 56 3).toInt = g.2.2.2.2.2.2.2 ∧ CRG g (s.1 58)
def CRC (s : GS) : Prop := CRB (shC s) s
def CER (s t : GS) (x z : Int32) : Prop := ((t.2.2.1 109 0).toInt = 1 ∧ ¬ (0 ≤ x.toInt ∧ x.toInt < (s.2.2.1 109 20).toInt)) ∨ ((t.2.2.1 109 0).toInt = 0 ∧ (0 ≤ x.toInt ∧ x.toInt < (s.2.2.1 109 20).toInt) ∧ COR (gvZ s) x.toNatClampNeg z.toInt)
/-! WALKS COUNTED -/
theorem sm_nn {f : Nat → Int} : ∀ n : Nat, (∀ k, k < n → 0 ≤ f k) → 0 ≤ sm f n
  | 0, _ => Int.le_refl _
  | n + 1, h => by
    have i := sm_nn n (fun k hk => h k (by omega))
    have j := h n (by omega)
    rw [sm_s]
    omega
theorem sm_swap {a : Nat → Nat → Int} {m : Nat} : ∀ n : Nat, sm (fun p => sm (fun q => a p q) m) n = sm (fun q => sm (fun p => a p q) n) m
  | 0 => by
    rw [show sm (fun q => sm (fun p => a p q) 0) m = 0 from sm_0 m (fun _ _ => rfl)]
    rfl
  | n + 1 => by
    rw [sm_s, sm_swap n, ← sm_add]
    rfl
theorem sm_if {c : Prop} [Decidable c] {f : Nat → Int} {n : Nat} : (if c then sm f n else 0) = sm (fun q => if c then f q else 0) n := by
  by_cases h : c
  · rw [if_pos h]
    exact sm_eq n (fun k _ => by rw [if_pos h])
  · rw [if_neg h, sm_0 n (fun k _ => by rw [if_neg h])]
theorem wk_snoc {E : Nat → Nat → Prop} : ∀ (j : Nat) {u x w : Nat}, wkq E j u x → E x w → wkq E (j + 1) u w
  | 0, u, x, w, h, e => by
    rw [show u = x from h]
    exact ⟨w, e, rfl⟩
  | j + 1, u, x, w, h, e => by
    obtain ⟨y, hy, hk⟩ := h
    exact ⟨y, hy, wk_snoc j hk e⟩
/-- arcs by two rows: from where, to where -/
def AJF (F T : Nat → Int) (u v : Nat) : Prop := ∃ p : Nat, p < 160 ∧ F p = (u : Int) ∧ T p = (v : Int)
def FTQ (F T : Nat → Int) : Prop := ∀ p : Nat, (F p = -1 ∧ T p = -1) ∨ (0 ≤ F p ∧ 0 ≤ T p)
noncomputable def wkn (F T : Nat → Int) : Nat → Nat → Nat → Int
  | 0, s, v => if s = v then 1 else 0
  | k + 1, s, v => sm (fun p => if T p = (v : Int) then wkn F T k s (F p).toNat else 0) 160
section WN
variable {F T : Nat → Int}
theorem wn_nn : ∀ (k s v : Nat), 0 ≤ wkn F T k s v
  | 0, s, v => by
    unfold wkn
    split <;> omega
  | k + 1, s, v => by
    unfold wkn
    refine sm_nn 160 (fun p _ => ?_)
    split
    · exact wn_nn k s _
    · exact Int.le_refl _
theorem ftq_u (h : FTQ F T) {p v : Nat} (e : T p = (v : Int)) : F p = ((F p).toNat : Int) := by
  rcases h p with ⟨a, b⟩ | ⟨a, b⟩ <;> omega
theorem wn_z (h : FTQ F T) : ∀ (k : Nat) {s v : Nat}, ¬ wkq (AJF F T) k s v → wkn F T k s v = 0
  | 0, s, v, hn => by
    unfold wkn
    exact if_neg hn
  | k + 1, s, v, hn => by
    unfold wkn
    refine sm_0 160 (fun p hp => ?_)
    split
    · rename_i e
      exact wn_z h k (fun z => hn (wk_snoc k z ⟨p, hp, ftq_u h e, e⟩))
    · rfl
theorem wn_first (h : FTQ F T) : ∀ (k s v : Nat), wkn F T (k + 1) s v = sm (fun p => if F p = (s : Int) then wkn F T k (T p).toNat v else 0) 160
  | 0, s, v => by
    show sm (fun p => if T p = (v : Int) then wkn F T 0 s (F p).toNat else 0) 160 = _
    refine sm_eq 160 (fun p _ => ?_)
    show (if T p = (v : Int) then (if s = (F p).toNat then (1 : Int) else 0) else 0) = (if F p = (s : Int) then (if (T p).toNat = v then (1 : Int) else 0) else 0)
    rcases h p with ⟨a, b⟩ | ⟨a, b⟩
    · rw [if_neg (by omega), if_neg (by omega)]
    · by_cases c : T p = (v : Int) <;> by_cases d : F p = (s : Int)
      · rw [if_pos c, if_pos d, if_pos (by omega), if_pos (by omega)]
      · rw [if_pos c, if_neg d, if_neg (by omega)]
      · rw [if_neg c, if_pos d, if_neg (by omega)]
      · rw [if_neg c, if_neg d]
  | k + 1, s, v => by
    have e1 : wkn F T (k + 2) s v = sm (fun p => sm (fun q => if T p = (v : Int) then (if F q = (s : Int) then wkn F T k (T q).toNat (F p).toNat else 0) else 0) 160) 160 := by
      show sm (fun p => if T p = (v : Int) then wkn F T (k + 1) s (F p).toNat else 0) 160 = _
      refine sm_eq 160 (fun p _ => ?_)
      rw [wn_first h k s (F p).toNat, sm_if]
    rw [e1, sm_swap]
    refine sm_eq 160 (fun q _ => ?_)
    by_cases c : F q = (s : Int)
    · rw [if_pos c]
      show _ = sm (fun p => if T p = (v : Int) then wkn F T k (T q).toNat (F p).toNat else 0) 160
      refine sm_eq 160 (fun p _ => ?_)
      rw [if_pos c]
    · rw [if_neg c]
      refine sm_0 160 (fun p _ => ?_)
      rw [if_neg c]
      split <;> rfl
theorem wn_rev (h : FTQ F T) : ∀ (k s v : Nat), wkn T F k v s = wkn F T k s v
  | 0, s, v => by
    show (if v = s then (1 : Int) else 0) = if s = v then 1 else 0
    by_cases c : s = v
    · rw [if_pos c, if_pos c.symm]
    · rw [if_neg c, if_neg (fun z => c z.symm)]
  | k + 1, s, v => by
    rw [wn_first h k s v]
    show sm (fun p => if F p = (s : Int) then wkn T F k v (T p).toNat else 0) 160 = _
    refine sm_eq 160 (fun p _ => ?_)
    split
    · rw [wn_rev h k (T p).toNat v]
    · rfl
theorem wk_rev : ∀ (k : Nat) {s v : Nat}, wkq (AJF F T) k s v → wkq (AJF T F) k v s
  | 0, s, v, h => (show s = v from h).symm
  | k + 1, s, v, h => by
    obtain ⟨x, ⟨p, a, b, c⟩, hk⟩ := h
    exact wk_snoc k (wk_rev k hk) ⟨p, a, c, b⟩
def HDQ (F T : Nat → Int) (s v d : Nat) : Prop := wkq (AJF F T) d s v ∧ ∀ j, j < d → ¬ wkq (AJF F T) j s v
theorem hdq_u {s v d e : Nat} (h : HDQ F T s v d) (k : HDQ F T s v e) : d = e := by
  rcases Nat.lt_trichotomy d e with c | c | c
  · exact absurd h.1 (k.2 d c)
  · exact c
  · exact absurd k.1 (h.2 e c)
/-- how far, and in how many ways -/
def HPS (F T : Nat → Int) (s v : Nat) (h c : Int) : Prop := (h = -1 ∧ c = 0 ∧ ∀ j, ¬ wkq (AJF F T) j s v) ∨ ∃ d : Nat, h = (d : Int) ∧ HDQ F T s v d ∧ c = wkn F T d s v % 1000000007
theorem hps_r (q : FTQ F T) {s v : Nat} {h c : Int} (k : HPS T F v s h c) : HPS F T s v h c := by
  rcases k with ⟨a, b, e⟩ | ⟨d, a, b, e⟩
  · exact Or.inl ⟨a, b, fun j z => e j (wk_rev j z)⟩
  · exact Or.inr ⟨d, a, ⟨wk_rev d b.1, fun j hj z => b.2 j hj (wk_rev j z)⟩, by rw [e, wn_rev q]⟩
theorem hps_b {s v : Nat} {h c : Int} (k : HPS F T s v h c) : -1 ≤ h ∧ 0 ≤ c ∧ c < 1000000007 := by
  rcases k with ⟨a, b, e⟩ | ⟨d, a, b, e⟩
  · omega
  · omega
theorem hps_u {s v : Nat} {h c h2 c2 : Int} (k : HPS F T s v h c) (l : HPS F T s v h2 c2) : h = h2 ∧ c = c2 := by
  rcases k with ⟨a, b, e⟩ | ⟨d, a, b, e⟩ <;> rcases l with ⟨a2, b2, e2⟩ | ⟨d2, a2, b2, e2⟩
  · omega
  · exact absurd b2.1 (e d2)
  · exact absurd b.1 (e2 d)
  · have z := hdq_u b b2
    rw [← z] at a2 e2
    omega
theorem hps_0 {s : Nat} {h c : Int} (k : HPS F T s s h c) : h = 0 ∧ c = 1 := by
  refine hps_u k (Or.inr ⟨0, rfl, ⟨rfl, fun j hj => absurd hj (Nat.not_lt_zero j)⟩, ?_⟩)
  unfold wkn
  rw [if_pos rfl]
  rfl
/-! the reference: layer by layer -/
def HRA (F T : Nat → Int) (s d v : Nat) (h c : Int) : Prop := ∃ k : Nat, k ≤ d ∧ h = (k : Int) ∧ HDQ F T s v k ∧ c = wkn F T k s v % 1000000007
def HRV (F T : Nat → Int) (s n d : Nat) (h : Nat → Int32) (c : Nat → Int64) : Prop := ∀ v : Nat, v < n → HRA F T s d v (h v).toInt (c v).toInt ∨ ((h v).toInt = -1 ∧ (c v).toInt = 0 ∧ ∀ j, j ≤ d → ¬ wkq (AJF F T) j s v)
noncomputable def HSU (F T : Nat → Int) (s d a v : Nat) : Int := sm (fun p => if T p = (v : Int) then wkn F T d s (F p).toNat else 0) a
def HRB (F T : Nat → Int) (s d a v : Nat) (h c : Int) : Prop := (∀ j, j ≤ d → ¬ wkq (AJF F T) j s v) ∧ c = HSU F T s d a v % 1000000007 ∧ ((h = (d : Int) + 1 ∧ ∃ p : Nat, p < a ∧ p < 160 ∧ T p = (v : Int) ∧ wkq (AJF F T) d s (F p).toNat) ∨ (h = -1 ∧ ∀ p : Nat, p < a → T p = (v : Int) → ¬ wkq (AJF F T) d s (F p).toNat))
def HRW (F T : Nat → Int) (s n d a : Nat) (h : Nat → Int32) (c : Nat → Int64) : Prop := ∀ v : Nat, v < n → HRA F T s d v (h v).toInt (c v).toInt ∨ HRB F T s d a v (h v).toInt (c v).toInt
theorem hrv_0 {s n : Nat} {h : Nat → Int32} {c : Nat → Int64} (hh : ∀ v : Nat, v < n → (h v).toInt = (if v = s then 0 else -1) ∧ (c v).toInt = (if v = s then 1 else 0)) : HRV F T s n 0 h c := fun v hv => by
  obtain ⟨a, b⟩ := hh v hv
  by_cases e : v = s
  · rw [if_pos e] at a b
    left
    refine ⟨0, Nat.le_refl _, by rw [a]; rfl, ⟨e.symm, fun j hj => absurd hj (Nat.not_lt_zero j)⟩, ?_⟩
    rw [b]
    unfold wkn
    rw [if_pos e.symm]
    rfl
  · rw [if_neg e] at a b
    right
    refine ⟨a, b, fun j hj z => ?_⟩
    have e0 : j = 0 := by omega
    rw [e0] at z
    exact e (show s = v from z).symm
theorem hrw_0 {s n d : Nat} {h : Nat → Int32} {c : Nat → Int64} (k : HRV F T s n d h c) : HRW F T s n d 0 h c := fun v hv => by
  rcases k v hv with q | ⟨q1, q2, q3⟩
  · exact Or.inl q
  · exact Or.inr ⟨q3, by rw [q2]; rfl, Or.inr ⟨q1, fun p hp => absurd hp (Nat.not_lt_zero p)⟩⟩
theorem hsu_n {s d a v : Nat} (e : T a ≠ (v : Int)) : HSU F T s d (a + 1) v = HSU F T s d a v := by
  unfold HSU
  rw [sm_s, if_neg e]
  omega
theorem hsu_y {s d a v : Nat} (e : T a = (v : Int)) : HSU F T s d (a + 1) v = HSU F T s d a v + wkn F T d s (F a).toNat := by
  unfold HSU
  rw [sm_s, if_pos e]
/-- another node than the arc's -/
theorem hrb_o {s d a v : Nat} {h c : Int} (k : HRB F T s d a v h c) (e : T a ≠ (v : Int)) : HRB F T s d (a + 1) v h c := by
  obtain ⟨k1, k2, k3⟩ := k
  refine ⟨k1, by rw [hsu_n e]; exact k2, ?_⟩
  rcases k3 with ⟨z, p, a1, a2⟩ | ⟨z, y⟩
  · exact Or.inl ⟨z, p, by omega, a2⟩
  · refine Or.inr ⟨z, fun p hp hv => ?_⟩
    by_cases c : p = a
    · rw [c] at hv; exact absurd hv e
    · exact y p (by omega) hv
/-- nothing comes by this arc -/
theorem hrb_z (q : FTQ F T) {s d a v : Nat} {h c : Int} (k : HRB F T s d a v h c) (hn : T a = (v : Int) → ¬ wkq (AJF F T) d s (F a).toNat) : HRB F T s d (a + 1) v h c := by
  by_cases e : T a = (v : Int)
  · have w := wn_z q d (hn e)
    obtain ⟨k1, k2, k3⟩ := k
    refine ⟨k1, by rw [hsu_y e, w, Int.add_zero]; exact k2, ?_⟩
    rcases k3 with ⟨z, p, a1, a2⟩ | ⟨z, y⟩
    · exact Or.inl ⟨z, p, by omega, a2⟩
    · refine Or.inr ⟨z, fun p hp hv => ?_⟩
      by_cases c : p = a
      · rw [c]; exact hn e
      · exact y p (by omega) hv
  · exact hrb_o k e
theorem hrw_n (q : FTQ F T) {s n d a : Nat} {h : Nat → Int32} {c : Nat → Int64} (k : HRW F T s n d a h c) (hn : ∀ v : Nat, v < n → T a = (v : Int) → (∀ j, j ≤ d → ¬ wkq (AJF F T) j s v) → ¬ wkq (AJF F T) d s (F a).toNat) : HRW F T s n d (a + 1) h c := fun v hv => by
  rcases k v hv with z | z
  · exact Or.inl z
  · exact Or.inr (hrb_z q z (fun e => hn v hv e z.1))
theorem hrw_a (q : FTQ F T) {s n d a : Nat} {h : Nat → Int32} {c : Nat → Int64} (k : HRW F T s n d a h c) (e : T a = -1) : HRW F T s n d (a + 1) h c := hrw_n q k (fun v _ z => by omega)
theorem hrw_b (q : FTQ F T) {s n d a u : Nat} {h : Nat → Int32} {c : Nat → Int64} (k : HRW F T s n d a h c) (ha : a < 160) (hu : F a = (u : Int)) (un : u < n) (c1 : (h u).toInt ≠ (d : Int)) : HRW F T s n d (a + 1) h c := hrw_n q k (fun v _ tv nv w => by
  rw [hu] at w
  have w : wkq (AJF F T) d s u := w
  rcases k u un with ⟨j, j1, j2, j3, -⟩ | ⟨z, -⟩
  · have jd : j < d := by omega
    exact nv (j + 1) (by omega) (wk_snoc j j3.1 ⟨a, ha, hu, tv⟩)
  · exact z d (Nat.le_refl _) w)
theorem hrw_c (q : FTQ F T) {s n d a v : Nat} {h : Nat → Int32} {c : Nat → Int64} (k : HRW F T s n d a h c) (hv : T a = (v : Int)) (vn : v < n) (c1 : ¬ (h v).toInt < 0) (c2 : (h v).toInt ≠ (d : Int) + 1) : HRW F T s n d (a + 1) h c := hrw_n q k (fun w _ tw nw _ => by
  have e : w = v := by omega
  rw [e] at nw
  rcases k v vn with ⟨j, j1, j2, j3, -⟩ | ⟨-, -, z⟩
  · exact nw j j1 j3.1
  · rcases z with ⟨z, -⟩ | ⟨z, -⟩ <;> omega)
theorem hrw_q {s n d a v : Nat} {h : Nat → Int32} {c : Nat → Int64} (k : HRW F T s n d a h c) (vn : v < n) : 0 ≤ (c v).toInt ∧ (c v).toInt < 1000000007 := by
  rcases k v vn with ⟨j, -, -, -, j4⟩ | ⟨-, z, -⟩
  · omega
  · omega
theorem hrw_y (q : FTQ F T) {s n d a u v : Nat} {h : Nat → Int32} {c : Nat → Int64} {x : Int32} {y : Int64} (k : HRW F T s n d a h c) (ha : a < 160) (hu : F a = (u : Int)) (hv : T a = (v : Int)) (un : u < n) (vn : v < n) (c1 : (h u).toInt = (d : Int)) (c2 : (h v).toInt < 0 ∨ (h v).toInt = (d : Int) + 1) (ex : x.toInt = (d : Int) + 1) (ey : y.toInt = ((c v).toInt + (c u).toInt) % 1000000007) : HRW F T s n d (a + 1) (upd h v x) (vp_updL c v y) := by
  have ku : HDQ F T s u d ∧ (c u).toInt = wkn F T d s u % 1000000007 := by
    rcases k u un with ⟨j, j1, j2, j3, j4⟩ | ⟨-, -, z⟩
    · have e : j = d := by omega
      rw [e] at j3 j4
      exact ⟨j3, j4⟩
    · rcases z with ⟨z, -⟩ | ⟨z, -⟩ <;> omega
  have kv : HRB F T s d a v (h v).toInt (c v).toInt := by
    rcases k v vn with ⟨j, j1, j2, -⟩ | z
    · omega
    · exact z
  intro w hw
  by_cases e : w = v
  · rw [e, up_e, ul_eq]
    right
    refine ⟨kv.1, ?_, Or.inl ⟨ex, a, by omega, ha, hv, ?_⟩⟩
    · rw [ey, kv.2.1, ku.2, hsu_y hv, hu]
      show _ = (HSU F T s d a v + wkn F T d s u) % 1000000007
      omega
    · rw [hu]
      exact ku.1.1
  · rw [up_n e, ul_ne e]
    rcases k w hw with z | z
    · exact Or.inl z
    · exact Or.inr (hrb_o z (by omega))
theorem hrw_e (q : FTQ F T) {s n d : Nat} {h : Nat → Int32} {c : Nat → Int64} (k : HRW F T s n d 160 h c) : HRV F T s n (d + 1) h c := fun v hv => by
  rcases k v hv with ⟨j, j1, j2⟩ | ⟨z1, z2, z3⟩
  · exact Or.inl ⟨j, by omega, j2⟩
  · have e : HSU F T s d 160 v = wkn F T (d + 1) s v := rfl
    rw [e] at z2
    rcases z3 with ⟨a1, p, a2, a3, a4, a5⟩ | ⟨a1, a2⟩
    · left
      refine ⟨d + 1, Nat.le_refl _, by rw [a1]; rfl, ⟨wk_snoc d a5 ⟨p, a3, ftq_u q a4, a4⟩, fun j hj => z1 j (by omega)⟩, z2⟩
    · have nw : ¬ wkq (AJF F T) (d + 1) s v := fun z => by
        obtain ⟨x, hx, p, b1, b2, b3⟩ := wk_last d z
        refine a2 p b1 b3 ?_
        rw [b2]
        exact hx
      right
      refine ⟨a1, ?_, fun j hj z => ?_⟩
      · rw [z2, wn_z q (d + 1) nw]; rfl
      · by_cases c : j ≤ d
        · exact z1 j c z
        · rw [show j = d + 1 by omega] at z
          exact nw z
theorem hrv_e {s n v : Nat} {h : Nat → Int32} {c : Nat → Int64} (k : HRV F T s n n h c) (hE : ∀ u w, AJF F T u w → u < n ∧ w < n) (hv : v < n) : HPS F T s v (h v).toInt (c v).toInt := by
  rcases k v hv with ⟨j, j1, j2, j3, j4⟩ | ⟨z1, z2, z3⟩
  · exact Or.inr ⟨j, j2, j3, j4⟩
  · refine Or.inl ⟨z1, z2, fun j z => ?_⟩
    obtain ⟨i, hi, hw⟩ := wl_short hv hE ⟨j, z⟩
    exact z3 i hi hw
end WN
/-! A SEARCH WITH A QUEUE -/
abbrev qn (Q : Nat → Int32) (i : Nat) : Nat := (Q i).toNatClampNeg
abbrev hn (h : Nat → Int32) (v : Nat) : Int := (h v).toInt
def HBA (F T : Nat → Int) (s : Nat) (h Q : Nat → Int32) (b e : Nat) : Prop := (b ≤ e ∧ e ≤ 32 ∧ hn h s = 0 ∧ s < 32) ∧ (∀ i, i < e → qn Q i < 32 ∧ 0 ≤ hn h (qn Q i)) ∧ (∀ i j, i < e → j < e → qn Q i = qn Q j → i = j) ∧ (∀ v, v < 32 → hn h v = -1 ∨ (0 ≤ hn h v ∧ ∃ i, i < e ∧ qn Q i = v)) ∧ (∀ i j, i ≤ j → j < e → hn h (qn Q i) ≤ hn h (qn Q j)) ∧ (∀ i j, b ≤ i → i < e → j < e → hn h (qn Q j) ≤ hn h (qn Q i) + 1) ∧ ∀ v, v < 32 → 0 ≤ hn h v → HDQ F T s v (hn h v).toNat
noncomputable def HBT (F T : Nat → Int) (s : Nat) (h : Nat → Int32) (R : Nat → Prop) (v p : Nat) : Int := @ite Int (T p = (v : Int) ∧ R p ∧ hn h (F p).toNat + 1 = hn h v) (Classical.propDecidable _) (wkn F T (hn h (F p).toNat).toNat s (F p).toNat) 0
def HBC (F T : Nat → Int) (s : Nat) (h : Nat → Int32) (c : Nat → Int64) (R : Nat → Prop) : Prop := (∀ p, p < 160 → R p → 0 ≤ F p ∧ (F p).toNat < 32 ∧ 0 ≤ hn h (F p).toNat) ∧ (∀ p v : Nat, p < 160 → R p → T p = (v : Int) → 0 ≤ hn h v) ∧ ∀ v, v < 32 → (hn h v = -1 → (c v).toInt = 0) ∧ (0 ≤ hn h v → (c v).toInt = ((if v = s then 1 else 0) + sm (HBT F T s h R v) 160) % 1000000007)
def RBQ (F : Nat → Int) (Q : Nat → Int32) (b p : Nat) : Prop := ∃ i, i < b ∧ F p = (qn Q i : Int)
def RIQ (F : Nat → Int) (Q : Nat → Int32) (b : Nat) (k : Int) (p : Nat) : Prop := RBQ F Q b p ∨ (F p = (qn Q b : Int) ∧ cn F (qn Q b : Int) p < k)
section HB
variable {F T : Nat → Int} {s : Nat} {h Q : Nat → Int32} {c : Nat → Int64} {b e : Nat} {R R2 : Nat → Prop}
theorem hbt_y {v p : Nat} (k : T p = (v : Int) ∧ R p ∧ hn h (F p).toNat + 1 = hn h v) : HBT F T s h R v p = wkn F T (hn h (F p).toNat).toNat s (F p).toNat := if_pos k
theorem hbt_n {v p : Nat} (k : ¬ (T p = (v : Int) ∧ R p ∧ hn h (F p).toNat + 1 = hn h v)) : HBT F T s h R v p = 0 := if_neg k
theorem hbc_r (k : HBC F T s h c R) (hr : ∀ p, p < 160 → (R p ↔ R2 p)) : HBC F T s h c R2 := by
  obtain ⟨k1, k2, k3⟩ := k
  refine ⟨fun p hp r => k1 p hp ((hr p hp).mpr r), fun p v hp r => k2 p v hp ((hr p hp).mpr r), fun v hv => ⟨(k3 v hv).1, fun z => ?_⟩⟩
  rw [(k3 v hv).2 z, sm_eq (f := HBT F T s h R v) (h := HBT F T s h R2 v) 160 (fun p hp => ?_)]
  by_cases d : T p = (v : Int) ∧ R p ∧ hn h (F p).toNat + 1 = hn h v
  · rw [hbt_y d, hbt_y ⟨d.1, (hr p hp).mp d.2.1, d.2.2⟩]
  · rw [hbt_n d, hbt_n (fun z => d ⟨z.1, (hr p hp).mpr z.2.1, z.2.2⟩)]
theorem hb_cnt (k : HBC F T s h c R) (q : FTQ F T) (hs : hn h s = 0) (hd : ∀ v, v < 32 → 0 ≤ hn h v → HDQ F T s v (hn h v).toNat) (h32 : ∀ u w, AJF F T u w → u < 32 ∧ w < 32) {v : Nat} (hv : v < 32) (h0 : 0 ≤ hn h v) (hp : ∀ p x : Nat, p < 160 → T p = (v : Int) → F p = (x : Int) → 0 ≤ hn h x → hn h x + 1 = hn h v → R p) (hj : ∀ j x : Nat, (j : Int) < hn h v → wkq (AJF F T) j s x → x < 32 → 0 ≤ hn h x ∧ hn h x ≤ (j : Int)) : (c v).toInt = wkn F T (hn h v).toNat s v % 1000000007 := by
  rw [(k.2.2 v hv).2 h0]
  have dv := hd v hv h0
  congr 1
  by_cases z : hn h v = 0
  · rw [z] at dv
    have e : s = v := dv.1
    rw [if_pos e.symm, z, sm_0 160 (fun p p160 => ?_)]
    · show (1 : Int) + 0 = (if s = v then 1 else 0)
      rw [if_pos e]
      rfl
    · refine hbt_n (fun d => ?_)
      have r := (k.1 p p160 d.2.1).2.2
      omega
  · have vs : v ≠ s := fun y => z (by rw [y]; exact hs)
    obtain ⟨m, hm⟩ : ∃ m : Nat, hn h v = (m : Int) + 1 := ⟨(hn h v).toNat - 1, by omega⟩
    have em : (hn h v).toNat = m + 1 := by omega
    rw [if_neg vs, em, Int.zero_add]
    show _ = sm (fun p => if T p = (v : Int) then wkn F T m s (F p).toNat else 0) 160
    refine sm_eq 160 (fun p p160 => ?_)
    by_cases t : T p = (v : Int)
    · rw [if_pos t]
      have fx := ftq_u q t
      have x32 := (h32 (F p).toNat v ⟨p, p160, fx, t⟩).1
      by_cases d : R p ∧ hn h (F p).toNat + 1 = hn h v
      · rw [hbt_y ⟨t, d⟩, show (hn h (F p).toNat).toNat = m by omega]
      · rw [hbt_n (fun y => d y.2)]
        refine (wn_z q m (fun w => ?_)).symm
        obtain ⟨x0, x1⟩ := hj m (F p).toNat (by omega) w x32
        have dx := (hd (F p).toNat x32 x0).1
        have up := wk_snoc _ dx (show AJF F T (F p).toNat v from ⟨p, p160, fx, t⟩)
        have ge : ¬ ((hn h (F p).toNat).toNat + 1 < (hn h v).toNat) := fun y => dv.2 _ y up
        have eq : hn h (F p).toNat + 1 = hn h v := by omega
        exact d ⟨hp p _ p160 t fx x0 eq, eq⟩
    · rw [if_neg t, hbt_n (fun y => t y.1)]
/-- what lies before the first that waits is known -/
theorem hb_cl (a : HBA F T s h Q b e) (k2 : ∀ p v : Nat, p < 160 → RBQ F Q b p → T p = (v : Int) → 0 ≤ hn h v) (h32 : ∀ u w, AJF F T u w → u < 32 ∧ w < 32) (hb : b < e) : ∀ (j w : Nat), (j : Int) ≤ hn h (qn Q b) → wkq (AJF F T) j s w → 0 ≤ hn h w ∧ hn h w ≤ (j : Int) := by
  obtain ⟨⟨a0, a1, a2, a3⟩, b1, b2, b3, b4, b5, b6⟩ := a
  intro j
  induction j with
  | zero =>
    intro w _ hw
    rw [← (show s = w from hw), a2]
    exact ⟨Int.le_refl _, Int.le_refl _⟩
  | succ j ih =>
    intro w hj hw
    obtain ⟨x, hx, p, p1, p2, p3⟩ := wk_last j hw
    have l := h32 x w ⟨p, p1, p2, p3⟩
    obtain ⟨x0, x1⟩ := ih x (by omega) hx
    have w0 : 0 ≤ hn h w := by
      rcases b3 x l.1 with z | ⟨-, i, i1, i2⟩
      · omega
      · have ib : i < b := Classical.byContradiction fun z => by
          have m := b4 b i (by omega) i1
          rw [i2] at m
          omega
        exact k2 p w p1 ⟨i, ib, by rw [i2]; exact p2⟩ p3
    refine ⟨w0, ?_⟩
    have d := b6 w l.2 w0
    exact Classical.byContradiction fun z => d.2 (j + 1) (by omega) hw
def HBO (F T : Nat → Int) (s : Nat) (h Q : Nat → Int32) (c : Nat → Int64) (b e : Nat) : Prop := HBA F T s h Q b e ∧ HBC F T s h c (RBQ F Q b)
def HBI (F T : Nat → Int) (s : Nat) (h Q : Nat → Int32) (c : Nat → Int64) (b e : Nat) (k : Int) : Prop := b < e ∧ HBA F T s h Q b e ∧ HBC F T s h c (RIQ F Q b k) ∧ (c (qn Q b)).toInt = wkn F T (hn h (qn Q b)).toNat s (qn Q b) % 1000000007
theorem hbi_0 (o : HBO F T s h Q c b e) (q : FTQ F T) (h32 : ∀ u w, AJF F T u w → u < 32 ∧ w < 32) (hb : b < e) {k : Int} (hk : k = 0) : HBI F T s h Q c b e k := by
  obtain ⟨a, k'⟩ := o
  have cl := hb_cl a k'.2.1 h32 hb
  obtain ⟨⟨a0, a1, a2, a3⟩, b1, b2, b3, b4, b5, b6⟩ := a
  refine ⟨hb, ⟨⟨a0, a1, a2, a3⟩, b1, b2, b3, b4, b5, b6⟩, hbc_r k' (fun p _ => ⟨Or.inl, fun z => z.elim id (fun y => ?_)⟩), ?_⟩
  · have := cn_0 F (qn Q b : Int) p
    omega
  · obtain ⟨u32, u0⟩ := b1 b hb
    refine hb_cnt k' q a2 b6 h32 u32 u0 (fun p x p160 t f x0 x1 => ?_) (fun j x hj hw _ => cl j x (by omega) hw)
    have x32 := (h32 x _ ⟨p, p160, f, t⟩).1
    rcases b3 x x32 with z | ⟨-, i, i1, i2⟩
    · omega
    · have ib : i < b := Classical.byContradiction fun z => by
        have m := b4 b i (by omega) i1
        rw [i2] at m
        omega
      exact ⟨i, ib, by rw [i2]; exact f⟩
theorem hbi_e {k : Int} (i : HBI F T s h Q c b e k) (hk : ∀ p, p < 160 → F p = (qn Q b : Int) → cn F (qn Q b : Int) p < k) : HBO F T s h Q c (b + 1) e := by
  obtain ⟨hb, ⟨⟨a0, a1, a2, a3⟩, b1, b2, b3, b4, b5, b6⟩, k', -⟩ := i
  refine ⟨⟨⟨by omega, a1, a2, a3⟩, b1, b2, b3, b4, fun i j hi => b5 i j (by omega), b6⟩, hbc_r k' (fun p p160 => ?_)⟩
  constructor
  · rintro (⟨i, i1, i2⟩ | ⟨z, -⟩)
    · exact ⟨i, by omega, i2⟩
    · exact ⟨b, by omega, z⟩
  · rintro ⟨i, i1, i2⟩
    by_cases c : i = b
    · rw [c] at i2
      exact Or.inr ⟨i2, hk p p160 i2⟩
    · exact Or.inl ⟨i, by omega, i2⟩
theorem hbi_r {k d : Int} {p0 : Nat} (hp : F p0 = (qn Q b : Int)) (hc : cn F (qn Q b : Int) p0 = k) (hd : d = k + 1) : ∀ p, (RIQ F Q b d p ↔ (RIQ F Q b k p ∨ p = p0)) := fun p => by
  constructor
  · rintro (z | ⟨z1, z2⟩)
    · exact Or.inl (Or.inl z)
    · by_cases e : cn F (qn Q b : Int) p = k
      · exact Or.inr (cn_inj z1 hp (by omega))
      · exact Or.inl (Or.inr ⟨z1, by omega⟩)
  · rintro ((z | ⟨z1, z2⟩) | z)
    · exact Or.inl z
    · exact Or.inr ⟨z1, by omega⟩
    · rw [z]; exact Or.inr ⟨hp, by omega⟩
/-- the node is known, and no layer further -/
theorem hbi_c {k d : Int} {p0 v : Nat} (i : HBI F T s h Q c b e k) (p160 : p0 < 160) (hp : F p0 = (qn Q b : Int)) (ht : T p0 = (v : Int)) (hc : cn F (qn Q b : Int) p0 = k) (hd : d = k + 1) (h0 : 0 ≤ hn h v) (hne : hn h v ≠ hn h (qn Q b) + 1) : HBI F T s h Q c b e d := by
  obtain ⟨hb, a, ⟨k1, k2, k3⟩, cu⟩ := i
  obtain ⟨u32, u0⟩ := a.2.1 b hb
  refine ⟨hb, a, ⟨fun p hp' r => ?_, fun p w hp' r tw => ?_, fun w hw => ⟨(k3 w hw).1, fun w0 => ?_⟩⟩, cu⟩
  · rcases (hbi_r hp hc hd p).mp r with z | z
    · exact k1 p hp' z
    · rw [z, hp]
      exact ⟨by omega, by omega, by simpa using u0⟩
  · rcases (hbi_r hp hc hd p).mp r with z | z
    · exact k2 p w hp' z tw
    · rw [z, ht] at tw
      have e : v = w := by omega
      rw [← e]; exact h0
  · rw [(k3 w hw).2 w0, sm_eq (f := HBT F T s h (RIQ F Q b k) w) (h := HBT F T s h (RIQ F Q b d) w) 160 (fun p p16 => ?_)]
    by_cases g : T p = (w : Int) ∧ RIQ F Q b k p ∧ hn h (F p).toNat + 1 = hn h w
    · rw [hbt_y g, hbt_y ⟨g.1, (hbi_r hp hc hd p).mpr (Or.inl g.2.1), g.2.2⟩]
    · rw [hbt_n g, hbt_n (fun z => ?_)]
      rcases (hbi_r hp hc hd p).mp z.2.1 with y | y
      · exact g ⟨z.1, y, z.2.2⟩
      · have z1 := z.1
        have z2 := z.2.2
        rw [y, ht] at z1
        rw [y, hp] at z2
        have e : v = w := by omega
        rw [← e] at z2
        have z3 : hn h (qn Q b) + 1 = hn h v := by simpa using z2
        omega
theorem hbt_1 {k d : Int} {p0 v : Nat} (p160 : p0 < 160) (hp : F p0 = (qn Q b : Int)) (ht : T p0 = (v : Int)) (hc : cn F (qn Q b : Int) p0 = k) (hd : d = k + 1) (hno : ∀ i, i < b → qn Q i ≠ qn Q b) (hne : hn h v = hn h (qn Q b) + 1) : sm (HBT F T s h (RIQ F Q b d) v) 160 = sm (HBT F T s h (RIQ F Q b k) v) 160 + wkn F T (hn h (qn Q b)).toNat s (qn Q b) := by
  have ft : (F p0).toNat = qn Q b := by rw [hp]; exact Int.toNat_natCast _
  have no : ¬ RIQ F Q b k p0 := by
    rintro (⟨i, i1, i2⟩ | ⟨-, z⟩)
    · rw [hp] at i2
      exact hno i i1 (by omega)
    · omega
  refine sm_one (u := p0) 160 p160 (fun p _ hne' => ?_) ?_
  · by_cases g : T p = (v : Int) ∧ RIQ F Q b k p ∧ hn h (F p).toNat + 1 = hn h v
    · rw [hbt_y g, hbt_y ⟨g.1, (hbi_r hp hc hd p).mpr (Or.inl g.2.1), g.2.2⟩]
    · rw [hbt_n g, hbt_n (fun z => ?_)]
      rcases (hbi_r hp hc hd p).mp z.2.1 with y | y
      · exact g ⟨z.1, y, z.2.2⟩
      · exact hne' y
  · rw [hbt_y ⟨ht, (hbi_r hp hc hd p0).mpr (Or.inr rfl), by rw [ft]; omega⟩, hbt_n (fun z => no z.2.1), ft]
    omega
theorem hba_no (a : HBA F T s h Q b e) (hb : b < e) : ∀ i, i < b → qn Q i ≠ qn Q b := fun i hi z => by
  have := a.2.2.1 i b (by omega) hb z
  omega
/-- the node is known, in the next layer -/
theorem hbi_b {k d : Int} {p0 v : Nat} {y : Int64} (i : HBI F T s h Q c b e k) (p160 : p0 < 160) (hp : F p0 = (qn Q b : Int)) (ht : T p0 = (v : Int)) (hc : cn F (qn Q b : Int) p0 = k) (hd : d = k + 1) (h0 : 0 ≤ hn h v) (v32 : v < 32) (hne : hn h v = hn h (qn Q b) + 1) (ey : y.toInt = ((c v).toInt + (c (qn Q b)).toInt) % 1000000007) : HBI F T s h Q (vp_updL c v y) b e d := by
  obtain ⟨hb, a, ⟨k1, k2, k3⟩, cu⟩ := i
  obtain ⟨u32, u0⟩ := a.2.1 b hb
  have no := hba_no a hb
  have uv : qn Q b ≠ v := fun z => by rw [← z] at hne; omega
  refine ⟨hb, a, ⟨fun p hp' r => ?_, fun p w hp' r tw => ?_, fun w hw => ?_⟩, by rw [ul_ne uv]; exact cu⟩
  · rcases (hbi_r hp hc hd p).mp r with z | z
    · exact k1 p hp' z
    · rw [z, hp]
      exact ⟨by omega, by omega, by simpa using u0⟩
  · rcases (hbi_r hp hc hd p).mp r with z | z
    · exact k2 p w hp' z tw
    · rw [z, ht] at tw
      have e : v = w := by omega
      rw [← e]; exact h0
  · by_cases ew : w = v
    · rw [ew, ul_eq]
      refine ⟨fun z => by omega, fun _ => ?_⟩
      rw [ey, (k3 v v32).2 h0, cu, hbt_1 p160 hp ht hc hd no hne]
      omega
    · rw [ul_ne ew]
      refine ⟨(k3 w hw).1, fun w0 => ?_⟩
      rw [(k3 w hw).2 w0, sm_eq (f := HBT F T s h (RIQ F Q b k) w) (h := HBT F T s h (RIQ F Q b d) w) 160 (fun p p16 => ?_)]
      by_cases g : T p = (w : Int) ∧ RIQ F Q b k p ∧ hn h (F p).toNat + 1 = hn h w
      · rw [hbt_y g, hbt_y ⟨g.1, (hbi_r hp hc hd p).mpr (Or.inl g.2.1), g.2.2⟩]
      · rw [hbt_n g, hbt_n (fun z => ?_)]
        rcases (hbi_r hp hc hd p).mp z.2.1 with y' | y'
        · exact g ⟨z.1, y', z.2.2⟩
        · have z1 := z.1
          rw [y', ht] at z1
          exact ew (by omega)
/-- the queue never runs over -/
theorem inj_cnt {q : Nat → Nat} : ∀ e : Nat, (∀ i, i < e → q i < 32) → (∀ i j, i < e → j < e → q i = q j → i = j) → cnP (fun x => ∃ i, i < e ∧ q i = x) 32 = e
  | 0, _, _ => by
    have q0 := cnP_le (P := fun x => ∃ i, i < 0 ∧ q i = x) (Q := fun _ => False) 32 (fun _ _ ⟨i, hi, _⟩ => absurd hi (Nat.not_lt_zero i))
    have q1 : ∀ n, cnP (fun _ => False) n = 0 := fun n => by
      induction n with
      | zero => rfl
      | succ n ih => rw [cnP_n (P := fun _ => False) id]; exact ih
    rw [q1] at q0
    omega
  | e + 1, h1, h2 => by
    have i := inj_cnt e (fun i hi => h1 i (by omega)) (fun i j hi hj => h2 i j (by omega) (by omega))
    have a := cnP_add (P := fun x => ∃ i, i < e ∧ q i = x) (n := 32) (w := q e) (h1 e (by omega)) (fun ⟨i, hi, hq⟩ => by
      have := h2 i e (by omega) (by omega) hq
      omega)
    have e1 : cnP (fun x => ∃ i, i < e + 1 ∧ q i = x) 32 = cnP (fun x => (∃ i, i < e ∧ q i = x) ∨ x = q e) 32 := cnP_eq (fun x _ => by
      constructor
      · rintro ⟨i, hi, hq⟩
        by_cases c : i = e
        · rw [c] at hq; exact Or.inr hq.symm
        · exact Or.inl ⟨i, by omega, hq⟩
      · rintro (⟨i, hi, hq⟩ | z)
        · exact ⟨i, by omega, hq⟩
        · exact ⟨e, by omega, z.symm⟩)
    rw [e1, a, i]
theorem hba_e (a : HBA F T s h Q b e) {v : Nat} (v32 : v < 32) (hv : hn h v = -1) : e < 32 := by
  obtain ⟨⟨a0, a1, a2, a3⟩, b1, b2, b3, b4, b5, b6⟩ := a
  have i := inj_cnt (q := qn Q) e (fun i hi => (b1 i hi).1) b2
  have l := cnP_lt (P := fun x => ∃ i, i < e ∧ qn Q i = x) (Q := fun _ => True) 32 (fun _ _ _ => trivial) v v32 trivial (fun ⟨i, hi, hq⟩ => by
    have := (b1 i hi).2
    rw [hq] at this
    omega)
  have t := cnP_top (P := fun _ => True) 32
  omega
/-- a new node -/
theorem hbi_a {k d : Int} {p0 v : Nat} {x z : Int32} {y : Int64} (i : HBI F T s h Q c b e k) (h32 : ∀ u w, AJF F T u w → u < 32 ∧ w < 32) (p160 : p0 < 160) (hp : F p0 = (qn Q b : Int)) (ht : T p0 = (v : Int)) (hc : cn F (qn Q b : Int) p0 = k) (hd : d = k + 1) (v32 : v < 32) (hv : hn h v = -1) (ex : x.toInt = hn h (qn Q b) + 1) (ez : z.toNatClampNeg = v) (ey : y.toInt = ((c v).toInt + (c (qn Q b)).toInt) % 1000000007) : HBI F T s (upd h v x) (upd Q e z) (vp_updL c v y) b (e + 1) d := by
  obtain ⟨hb, a, ⟨k1, k2, k3⟩, cu⟩ := i
  have e32 := hba_e a v32 hv
  have no := hba_no a hb
  have cl := hb_cl a (fun p w hp' r => k2 p w hp' (Or.inl r)) h32 hb
  obtain ⟨⟨a0, a1, a2, a3⟩, b1, b2, b3, b4, b5, b6⟩ := a
  obtain ⟨u32, u0⟩ := b1 b hb
  have hV : hn (upd h v x) v = hn h (qn Q b) + 1 := by show (upd h v x v).toInt = _; rw [up_e]; exact ex
  have hO : ∀ w, w ≠ v → hn (upd h v x) w = hn h w := fun w hw => by show (upd h v x w).toInt = _; rw [up_n hw]
  have qE : qn (upd Q e z) e = v := by show (upd Q e z e).toNatClampNeg = v; rw [up_e]; exact ez
  have qO : ∀ i, i < e → qn (upd Q e z) i = qn Q i := fun i hi => by show (upd Q e z i).toNatClampNeg = _; rw [up_n (by omega)]
  have nv : ∀ w, 0 ≤ hn h w → w ≠ v := fun w hw z => by rw [z, hv] at hw; omega
  have hq : ∀ i, i < e → hn (upd h v x) (qn Q i) = hn h (qn Q i) := fun i hi => hO _ (nv _ (b1 i hi).2)
  have uv : qn Q b ≠ v := nv _ u0
  have sv : s ≠ v := nv s (by rw [a2]; exact Int.le_refl _)
  have rr : ∀ p, RIQ F (upd Q e z) b d p ↔ (RIQ F Q b k p ∨ p = p0) := fun p => by
    rw [← hbi_r hp hc hd p]
    unfold RIQ RBQ
    rw [qO b hb]
    constructor
    · rintro (⟨i, i1, i2⟩ | r)
      · rw [qO i (by omega)] at i2
        exact Or.inl ⟨i, i1, i2⟩
      · exact Or.inr r
    · rintro (⟨i, i1, i2⟩ | r)
      · exact Or.inl ⟨i, i1, by rw [qO i (by omega)]; exact i2⟩
      · exact Or.inr r
  refine ⟨by omega, ⟨⟨by omega, by omega, by rw [hO s sv]; exact a2, a3⟩, ?_, ?_, ?_, ?_, ?_, ?_⟩, ⟨?_, ?_, ?_⟩, ?_⟩
  · intro i hi
    by_cases ce : i = e
    · rw [ce, qE, hV]
      exact ⟨v32, by omega⟩
    · rw [qO i (by omega), hq i (by omega)]
      exact b1 i (by omega)
  · intro i j hi hj hij
    by_cases ci : i = e <;> by_cases cj : j = e
    · omega
    · rw [ci, qE, qO j (by omega)] at hij
      exact absurd hij.symm (nv _ (b1 j (by omega)).2)
    · rw [cj, qE, qO i (by omega)] at hij
      exact absurd hij (nv _ (b1 i (by omega)).2)
    · rw [qO i (by omega), qO j (by omega)] at hij
      exact b2 i j (by omega) (by omega) hij
  · intro w hw
    by_cases cw : w = v
    · rw [cw, hV]
      exact Or.inr ⟨by omega, e, by omega, qE⟩
    · rw [hO w cw]
      rcases b3 w hw with r | ⟨r, i, i1, i2⟩
      · exact Or.inl r
      · exact Or.inr ⟨r, i, by omega, by rw [qO i i1]; exact i2⟩
  · intro i j hij hj
    by_cases cj : j = e
    · rw [cj, qE, hV]
      by_cases ci : i = e
      · rw [ci, qE, hV]; exact Int.le_refl _
      · rw [qO i (by omega), hq i (by omega)]
        exact b5 b i (Nat.le_refl _) hb (by omega)
    · rw [qO i (by omega), qO j (by omega), hq i (by omega), hq j (by omega)]
      exact b4 i j hij (by omega)
  · intro i j hi hie hj
    by_cases ci : i = e
    · rw [ci, qE, hV]
      by_cases cj : j = e
      · rw [cj, qE, hV]; omega
      · rw [qO j (by omega), hq j (by omega)]
        have := b5 b j (Nat.le_refl _) hb (by omega)
        omega
    · rw [qO i (by omega), hq i (by omega)]
      by_cases cj : j = e
      · rw [cj, qE, hV]
        have := b4 b i hi (by omega)
        omega
      · rw [qO j (by omega), hq j (by omega)]
        exact b5 i j hi (by omega) (by omega)
  · intro w hw w0
    by_cases cw : w = v
    · rw [cw, hV]
      have en : (hn h (qn Q b) + 1).toNat = (hn h (qn Q b)).toNat + 1 := by omega
      rw [en]
      refine ⟨wk_snoc _ (b6 _ u32 u0).1 ⟨p0, p160, hp, ht⟩, fun j hj wj => ?_⟩
      have := (cl j v (by omega) wj).1
      omega
    · rw [hO w cw] at w0 ⊢
      exact b6 w hw w0
  · intro p hp' r
    rcases (rr p).mp r with r | r
    · obtain ⟨r1, r2, r3⟩ := k1 p hp' r
      exact ⟨r1, r2, by rw [hO _ (nv _ r3)]; exact r3⟩
    · have ft : (F p0).toNat = qn Q b := by rw [hp]; exact Int.toNat_natCast _
      rw [r, ft, hO _ uv]
      exact ⟨by omega, u32, u0⟩
  · intro p w hp' r tw
    rcases (rr p).mp r with r | r
    · have r3 := k2 p w hp' r tw
      rw [hO _ (nv _ r3)]; exact r3
    · rw [r, ht] at tw
      rw [show w = v by omega, hV]
      omega
  · intro w hw
    have ft : (F p0).toNat = qn Q b := by rw [hp]; exact Int.toNat_natCast _
    by_cases cw : w = v
    · rw [cw, ul_eq, hV]
      refine ⟨fun r => by omega, fun _ => ?_⟩
      rw [ey, (k3 v v32).1 hv, cu, if_neg (fun r => sv r.symm)]
      have zr : sm (HBT F T s (upd h v x) (fun _ => False) v) 160 = 0 := sm_0 160 (fun p _ => hbt_n (fun r => r.2.1))
      have on := sm_one (f := HBT F T s (upd h v x) (fun _ => False) v) (h := HBT F T s (upd h v x) (RIQ F (upd Q e z) b d) v) (u := p0) (d := wkn F T (hn h (qn Q b)).toNat s (qn Q b)) 160 p160 (fun p hp' hne => ?_) ?_
      · rw [on, zr]
        omega
      · rw [hbt_n (R := fun _ => False) (fun r => r.2.1), hbt_n (fun r => ?_)]
        rcases (rr p).mp r.2.1 with q | q
        · have := k2 p v hp' q r.1
          omega
        · exact hne q
      · rw [hbt_n (R := fun _ => False) (fun r => r.2.1), hbt_y ⟨ht, (rr p0).mpr (Or.inr rfl), by rw [ft, hO _ uv, hV]⟩, ft, hO _ uv]
        omega
    · rw [ul_ne cw, hO w cw]
      refine ⟨(k3 w hw).1, fun w0 => ?_⟩
      rw [(k3 w hw).2 w0, sm_eq (f := HBT F T s h (RIQ F Q b k) w) (h := HBT F T s (upd h v x) (RIQ F (upd Q e z) b d) w) 160 (fun p p16 => ?_)]
      by_cases g : T p = (w : Int) ∧ RIQ F Q b k p ∧ hn h (F p).toNat + 1 = hn h w
      · have r3 := (k1 p p16 g.2.1).2.2
        have r4 := hO _ (nv _ r3)
        rw [hbt_y g, hbt_y ⟨g.1, (rr p).mpr (Or.inl g.2.1), by rw [r4, hO w cw]; exact g.2.2⟩, r4]
      · rw [hbt_n g, hbt_n (fun r => ?_)]
        rcases (rr p).mp r.2.1 with q | q
        · have r3 := (k1 p p16 q).2.2
          have r5 := r.2.2
          rw [hO _ (nv _ r3), hO w cw] at r5
          exact g ⟨r.1, q, r5⟩
        · have r1 := r.1
          rw [q, ht] at r1
          exact cw (by omega)
  · rw [qO b hb, ul_ne uv, hO _ uv]
    exact cu
theorem hbo_0 {f0 : Nat → Int32} {c0 : Nat → Int64} (s32 : s < 32) (hf : ∀ v, v < 32 → f0 v = Int32.ofInt (-1)) (hc : ∀ v, v < 32 → c0 v = Int64.ofInt 0) (hq : qn Q 0 = s) : HBO F T s (upd f0 s (Int32.ofInt 0)) Q (vp_updL c0 s (Int64.ofInt 1)) 0 1 := by
  have hS : hn (upd f0 s (Int32.ofInt 0)) s = 0 := by show (upd f0 s (Int32.ofInt 0) s).toInt = 0; rw [up_e]; rfl
  have hO : ∀ v, v < 32 → v ≠ s → hn (upd f0 s (Int32.ofInt 0)) v = -1 := fun v hv hne => by show (upd f0 s (Int32.ofInt 0) v).toInt = -1; rw [up_n hne, hf v hv]; rfl
  have q0 : ∀ i, i < 1 → qn Q i = s := fun i hi => by rw [show i = 0 by omega]; exact hq
  refine ⟨⟨⟨by omega, by omega, hS, s32⟩, fun i hi => by rw [q0 i hi, hS]; exact ⟨s32, Int.le_refl _⟩, fun i j hi hj _ => by omega, fun v hv => ?_, fun i j hij hj => by rw [q0 i (by omega), q0 j hj]; exact Int.le_refl _, fun i j hi hie hj => by rw [q0 i hie, q0 j hj]; omega, fun v hv v0 => ?_⟩, fun p _ ⟨i, hi, _⟩ => absurd hi (Nat.not_lt_zero i), fun p v _ ⟨i, hi, _⟩ => absurd hi (Nat.not_lt_zero i), fun v hv => ?_⟩
  · by_cases e : v = s
    · rw [e, hS]; exact Or.inr ⟨Int.le_refl _, 0, by omega, hq⟩
    · exact Or.inl (hO v hv e)
  · by_cases e : v = s
    · rw [e, hS]; exact ⟨rfl, fun j hj => absurd hj (Nat.not_lt_zero j)⟩
    · rw [hO v hv e] at v0; omega
  · by_cases e : v = s
    · rw [e, hS, ul_eq]
      refine ⟨fun z => by omega, fun _ => ?_⟩
      rw [if_pos rfl, sm_0 160 (fun p _ => hbt_n (fun z => by obtain ⟨i, hi, -⟩ := z.2.1; exact absurd hi (Nat.not_lt_zero i)))]
      rfl
    · rw [hO v hv e, ul_ne e, hc v hv]
      exact ⟨fun _ => rfl, fun z => by omega⟩
theorem hb_fin (o : HBO F T s h Q c b e) (q : FTQ F T) (h32 : ∀ u w, AJF F T u w → u < 32 ∧ w < 32) (hbe : e ≤ b) {v : Nat} (v32 : v < 32) : HPS F T s v (h v).toInt (c v).toInt := by
  obtain ⟨⟨⟨a0, a1, a2, a3⟩, b1, b2, b3, b4, b5, b6⟩, k1, k2, k3⟩ := o
  have cl : ∀ (j w : Nat), wkq (AJF F T) j s w → 0 ≤ hn h w ∧ hn h w ≤ (j : Int) := by
    intro j
    induction j with
    | zero =>
      intro w hw
      rw [← (show s = w from hw), a2]
      exact ⟨Int.le_refl _, Int.le_refl _⟩
    | succ j ih =>
      intro w hw
      obtain ⟨x, hx, p, p1, p2, p3⟩ := wk_last j hw
      have l := h32 x w ⟨p, p1, p2, p3⟩
      obtain ⟨x0, x1⟩ := ih x hx
      have w0 : 0 ≤ hn h w := by
        rcases b3 x l.1 with z | ⟨-, i, i1, i2⟩
        · omega
        · exact k2 p w p1 ⟨i, by omega, by rw [i2]; exact p2⟩ p3
      refine ⟨w0, ?_⟩
      have d := b6 w l.2 w0
      exact Classical.byContradiction fun z => d.2 (j + 1) (by omega) hw
  rcases b3 v v32 with z | ⟨z, -⟩
  · refine Or.inl ⟨z, (k3 v v32).1 z, fun j w => ?_⟩
    have := (cl j v w).1
    omega
  · refine Or.inr ⟨(hn h v).toNat, by show hn h v = _; omega, b6 v v32 z, ?_⟩
    refine hb_cnt ⟨k1, k2, k3⟩ q a2 b6 h32 v32 z (fun p x p160 t f x0 x1 => ?_) (fun j x _ hw _ => cl j x hw)
    have x32 := (h32 x _ ⟨p, p160, f, t⟩).1
    rcases b3 x x32 with y | ⟨-, i, i1, i2⟩
    · omega
    · exact ⟨i, by omega, by rw [i2]; exact f⟩
end HB
theorem hdq_le {F T : Nat → Int} {s v d : Nat} (h : HDQ F T s v d) (h32 : ∀ u w, AJF F T u w → u < 32 ∧ w < 32) (v32 : v < 32) : d ≤ 32 := by
  obtain ⟨j, hj, hw⟩ := wl_short v32 h32 ⟨d, h.1⟩
  exact Classical.byContradiction fun z => h.2 j (by omega) hw
theorem hbi_u {F T : Nat → Int} {s b e : Nat} {h Q : Nat → Int32} {c : Nat → Int64} {k : Int} (i : HBI F T s h Q c b e k) (h32 : ∀ u w, AJF F T u w → u < 32 ∧ w < 32) : 0 ≤ hn h (qn Q b) ∧ hn h (qn Q b) ≤ 32 ∧ b < e := by
  obtain ⟨hb, a, -⟩ := i
  obtain ⟨u32, u0⟩ := a.2.1 b hb
  have d := hdq_le (a.2.2.2.2.2.2 _ u32 u0) h32 u32
  exact ⟨u0, by omega, hb⟩
theorem hbi_h {F T : Nat → Int} {s b e : Nat} {h Q : Nat → Int32} {c : Nat → Int64} {k : Int} (i : HBI F T s h Q c b e k) {v : Nat} (v32 : v < 32) (hv : hn h v ≠ -1) : 0 ≤ hn h v := by
  obtain ⟨hb, a, -⟩ := i
  rcases a.2.2.2.1 v v32 with z | z
  · exact absurd z hv
  · exact z.1
theorem hbi_q {F T : Nat → Int} {s b e : Nat} {h Q : Nat → Int32} {c : Nat → Int64} {k : Int} (i : HBI F T s h Q c b e k) {v : Nat} (v32 : v < 32) : 0 ≤ (c v).toInt ∧ (c v).toInt < 1000000007 := by
  obtain ⟨hb, a, k', -⟩ := i
  rcases a.2.2.2.1 v v32 with z | z
  · rw [(k'.2.2 v v32).1 z]
    exact ⟨by omega, by omega⟩
  · rw [(k'.2.2 v v32).2 z.1]
    exact ⟨by omega, by omega⟩
theorem lrem_v {x z : Int64} (e : z = x - x / Int64.ofInt 1000000007 * Int64.ofInt 1000000007) (h0 : 0 ≤ x.toInt) (h1 : x.toInt ≤ 4000000000000000000) : z.toInt = x.toInt % 1000000007 := by
  have c : (Int64.ofInt 1000000007).toInt = 1000000007 := rfl
  obtain ⟨q, hq⟩ : ∃ q, q = x / Int64.ofInt 1000000007 := ⟨_, rfl⟩
  have eq : q.toInt = x.toInt / 1000000007 := by
    rw [hq, Int64.toInt_div, c, Int.tdiv_eq_ediv_of_nonneg h0]
    exact Int.bmod_eq_of_le (by omega) (by omega)
  obtain ⟨m, hm⟩ : ∃ m, m = q * Int64.ofInt 1000000007 := ⟨_, rfl⟩
  have em := lmul_t hm (by rw [c, eq]; omega) (by rw [c, eq]; omega)
  rw [← hq, ← hm] at e
  have es := lsub_t e (by rw [em, c, eq]; omega) (by rw [em, c, eq]; omega)
  rw [es, em, c, eq]
  omega
/-- the sum of two counts -/
theorem ct_v {x y a z : Int64} (ea : a = x + y) (e : z = a - a / Int64.ofInt 1000000007 * Int64.ofInt 1000000007) (hx : 0 ≤ x.toInt ∧ x.toInt < 1000000007) (hy : 0 ≤ y.toInt ∧ y.toInt < 1000000007) : z.toInt = (x.toInt + y.toInt) % 1000000007 := by
  have t := ladd_t ea (by omega) (by omega)
  rw [lrem_v e (by omega) (by omega), t]
theorem sL_q {s : GS} {q j : Nat} {v : Int64} : (sL s q j v).2.1 q = vp_updL (s.2.1 q) j v := by
  show (if q = q then vp_updL (s.2.1 q) j v else s.2.1 q) = _
  rw [if_pos rfl]
theorem ftq_g {g : GVW} (hN : NDQ g) : FTQ (ARE g 0) (ARE g 1) := fun p => by
  by_cases hp : p < 160
  · by_cases c : (g.2.1 p).toInt = -1
    · exact Or.inl ⟨are_no c, are_no c⟩
    · obtain ⟨⟨a, -⟩, b, -⟩ := hN p hp c
      exact Or.inr ⟨by rw [are_f hp rfl]; exact a, by rw [are_t hp c (by decide)]; exact b⟩
  · left
    constructor
    · show (if (0 : Int) = 0 then gF g.2.1 p else gG g.2.1 g.2.2.1 p) = -1
      rw [if_pos rfl]
      exact if_neg hp
    · show (if (1 : Int) = 0 then gF g.2.1 p else gG g.2.1 g.2.2.1 p) = -1
      rw [if_neg (by decide)]
      exact if_neg (fun z => hp z.1)
theorem ajf_g {g : GVW} (hN : NDQ g) {n : Nat} (hn : (n : Int) = g.2.2.2.2.2.2.1) : ∀ u w, AJF (ARE g 0) (ARE g 1) u w → u < n ∧ w < n := fun u w ⟨p, a, b, c⟩ => by
  have q := ndq_a hN a b c
  exact ⟨by omega, by omega⟩
theorem are_x {g h : GVW} (q : GEW g h) (w : Int) : ARE g w = ARE h w := by
  funext p
  by_cases hp : p < 160
  · exact are_e q hp
  · have no : ∀ k : GVW, ARE k w p = -1 := fun k => by
      unfold ARE gF gG
      by_cases c : w = 0
      · rw [if_pos c, if_neg hp]
      · rw [if_neg c, if_neg (fun z => hp z.1)]
    rw [no g, no h]
theorem ftq_s {F T : Nat → Int} (q : FTQ F T) : FTQ T F := fun p => (q p).imp (fun z => ⟨z.2, z.1⟩) (fun z => ⟨z.2, z.1⟩)
theorem ajf_s {F T : Nat → Int} {n : Nat} (q : ∀ u w, AJF F T u w → u < n ∧ w < n) : ∀ u w, AJF T F u w → u < n ∧ w < n := fun u w ⟨p, a, b, c⟩ => by
  have r := q w u ⟨p, a, c, b⟩
  exact ⟨r.2, r.1⟩
/-- what is told of shortest walks -/
def SHS (g : GVW) (s t : Nat) (w : Int) (v : Nat) (z : Int) : Prop := ∃ h c h1 c1 h2 c2 : Int, HPS (ARE g 0) (ARE g 1) s t h c ∧ HPS (ARE g 0) (ARE g 1) s v h1 c1 ∧ HPS (ARE g 0) (ARE g 1) v t h2 c2 ∧ z = (if w = 0 then h else if w = 1 then c else if 0 ≤ h1 ∧ 0 ≤ h2 ∧ h1 + h2 = h then c1 * c2 % 1000000007 else 0)
theorem shs_u {g k : GVW} (q : GEW g k) {s t v : Nat} {w y z : Int} (h1 : SHS g s t w v y) (h2 : SHS k s t w v z) : y = z := by
  obtain ⟨a, b, a1, b1, a2, b2, p0, p1, p2, e⟩ := h1
  obtain ⟨c, d, c1, d1, c2, d2, q0, q1, q2, f⟩ := h2
  rw [are_x q 0, are_x q 1] at p0 p1 p2
  obtain ⟨x0, y0⟩ := hps_u p0 q0
  obtain ⟨x1, y1⟩ := hps_u p1 q1
  obtain ⟨x2, y2⟩ := hps_u p2 q2
  rw [e, f, x0, y0, x1, y1, x2, y2]
theorem ar_m1 {s : GS} (hI : Inv s) {p : Nat} {x : Int32} (e : x = s.1 112 (bs s + p)) (h : x.toInt = 0) : ARE (gvZ s) 0 p = -1 ∧ ARE (gvZ s) 1 p = -1 := by
  have a := arz_n hI e h
  refine ⟨a, ?_⟩
  rcases ftq_g (ndq_z hI) p with z | z
  · exact z.2
  · omega
theorem hps_32 {F T : Nat → Int} {s v : Nat} {h c : Int} (k : HPS F T s v h c) (h32 : ∀ u w, AJF F T u w → u < 32 ∧ w < 32) (v32 : v < 32) : h ≤ 32 := by
  rcases k with ⟨a, -⟩ | ⟨d, a, b, -⟩
  · omega
  · have := hdq_le b h32 v32
    omega
theorem l2i_w {x : Int64} {z : Int32} (e : z = x.toInt32) (h0 : 0 ≤ x.toInt) (h1 : x.toInt ≤ 2147483647) : z.toInt = x.toInt := by
  rw [e, Int64.toInt_toInt32]
  exact Int.bmod_eq_of_le (by omega) (by omega)
/-- the product of two counts -/
theorem cm_v {x y a z : Int64} {r : Int32} (ea : a = x * y) (e : z = a - a / Int64.ofInt 1000000007 * Int64.ofInt 1000000007) (er : r = z.toInt32) (hx : 0 ≤ x.toInt ∧ x.toInt < 1000000007) (hy : 0 ≤ y.toInt ∧ y.toInt < 1000000007) : r.toInt = x.toInt * y.toInt % 1000000007 := by
  have p0 : 0 ≤ x.toInt * y.toInt := Int.mul_nonneg hx.1 hy.1
  have p1 : x.toInt * y.toInt ≤ 1000000007 * 1000000007 := Int.mul_le_mul (by omega) (by omega) hy.1 (by omega)
  have t := lmul_t ea (by omega) (by omega)
  have v := lrem_v e (by omega) (by omega)
  rw [l2i_w er (by omega) (by omega), v, t]
/-- counts by a node -/
def SHC (g : GVW) (s t v : Nat) (z : Int) : Prop := ∃ h c h1 c1 h2 c2 : Int, HPS (ARE g 0) (ARE g 1) s t h c ∧ HPS (ARE g 0) (ARE g 1) s v h1 c1 ∧ HPS (ARE g 0) (ARE g 1) v t h2 c2 ∧ z = (if 0 ≤ h1 ∧ 0 ≤ h2 ∧ h1 + h2 = h then c1 * c2 % 1000000007 else 0)
theorem shc_1 {g : GVW} {s t : Nat} {z : Int} (k : SHC g s t s z) : ∃ h c : Int, HPS (ARE g 0) (ARE g 1) s t h c ∧ z = c := by
  obtain ⟨h, c, h1, c1, h2, c2, p0, p1, p2, e⟩ := k
  obtain ⟨x1, y1⟩ := hps_0 p1
  obtain ⟨x2, y2⟩ := hps_u p0 p2
  have b := hps_b p0
  refine ⟨h, c, p0, ?_⟩
  rw [e, x1, y1, ← x2, ← y2]
  by_cases z : 0 ≤ h
  · rw [if_pos ⟨Int.le_refl _, z, by omega⟩]
    omega
  · rw [if_neg (fun y => z y.2.1)]
    rcases p0 with ⟨-, y, -⟩ | ⟨d, y, -⟩
    · omega
    · omega
theorem shs_0 {g : GVW} {s t v : Nat} {w z h c h1 c1 h2 c2 : Int} (p0 : HPS (ARE g 0) (ARE g 1) s t h c) (p1 : HPS (ARE g 0) (ARE g 1) s v h1 c1) (p2 : HPS (ARE g 0) (ARE g 1) v t h2 c2) (hw : w = 0) (e : z = h) : SHS g s t w v z := ⟨h, c, h1, c1, h2, c2, p0, p1, p2, by rw [if_pos hw]; exact e⟩
theorem shs_1 {g : GVW} {s t v : Nat} {w z h c h1 c1 h2 c2 : Int} (p0 : HPS (ARE g 0) (ARE g 1) s t h c) (p1 : HPS (ARE g 0) (ARE g 1) s v h1 c1) (p2 : HPS (ARE g 0) (ARE g 1) v t h2 c2) (hw : w = 1) (e : z = c) : SHS g s t w v z := ⟨h, c, h1, c1, h2, c2, p0, p1, p2, by rw [if_neg (by omega), if_pos hw]; exact e⟩
theorem shs_2 {g : GVW} {s t v : Nat} {w z : Int} (hw : w = 2) (k : SHC g s t v z) : SHS g s t w v z := by
  obtain ⟨h, c, h1, c1, h2, c2, p0, p1, p2, e⟩ := k
  exact ⟨h, c, h1, c1, h2, c2, p0, p1, p2, by rw [if_neg (by omega), if_neg (by omega)]; exact e⟩
/-- every pair of nodes has its two numbers -/
theorem hps_ex {F T : Nat → Int} {s v : Nat} : ∃ h c : Int, HPS F T s v h c := by
  by_cases k : ∃ j, wkq (AJF F T) j s v
  · obtain ⟨j, hj⟩ := k
    have least : ∀ n, (∃ j, j ≤ n ∧ wkq (AJF F T) j s v) → ∃ d, HDQ F T s v d := by
      intro n
      induction n with
      | zero =>
        rintro ⟨j, h0, hw⟩
        rw [show j = 0 by omega] at hw
        exact ⟨0, hw, fun i hi => absurd hi (Nat.not_lt_zero i)⟩
      | succ n ih =>
        rintro ⟨j, h0, hw⟩
        by_cases c : ∃ j, j ≤ n ∧ wkq (AJF F T) j s v
        · exact ih c
        · exact ⟨j, hw, fun i hi w => c ⟨i, by omega, w⟩⟩
    obtain ⟨d, hd⟩ := least j ⟨j, Nat.le_refl _, hj⟩
    exact ⟨_, _, Or.inr ⟨d, rfl, hd, rfl⟩⟩
  · exact ⟨-1, 0, Or.inl ⟨rfl, rfl, fun j w => k ⟨j, w⟩⟩⟩
def SHP4 (n : Int) (x y w v : Int32) : Prop := (0 ≤ x.toInt ∧ x.toInt < n) ∧ (0 ≤ y.toInt ∧ y.toInt < n) ∧ In w 0 2 ∧ (0 ≤ v.toInt ∧ v.toInt < n)
def SHT (s t : GS) (x y w v z : Int32) : Prop := ((t.2.2.1 109 0).toInt = 1 ∧ ¬ SHP4 (s.2.2.1 109 20).toInt x y w v) ∨ ((t.2.2.1 109 0).toInt = 0 ∧ SHP4 (s.2.2.1 109 20).toInt x y w v ∧ SHS (gvZ s) x.toNatClampNeg y.toNatClampNeg w.toInt v.toNatClampNeg z.toInt)

/-! RANKS -/
noncomputable def iw (P : Prop) (x : Int) : Int := @ite Int P (Classical.propDecidable P) x 0
theorem iw_y {P : Prop} {x : Int} (h : P) : iw P x = x := if_pos h
theorem iw_n {P : Prop} {x : Int} (h : ¬ P) : iw P x = 0 := if_neg h
theorem iw_b {P : Prop} {x : Int} (hx : 0 ≤ x) : 0 ≤ iw P x ∧ iw P x ≤ x := by
  by_cases h : P
  · rw [iw_y h]; exact ⟨hx, Int.le_refl _⟩
  · rw [iw_n h]; exact ⟨Int.le_refl _, hx⟩
theorem iw_eq {P Q : Prop} {x : Int} (h : P ↔ Q) : iw P x = iw Q x := by rw [propext h]
theorem sm_n0 {f : Nat → Int} : ∀ n : Nat, (∀ k, k < n → 0 ≤ f k) → 0 ≤ sm f n
  | 0, _ => Int.le_refl _
  | n + 1, e => by
    have a := sm_n0 n (fun k hk => e k (by omega))
    have b := e n (by omega)
    rw [sm_s]
    omega
theorem sm_ge {f : Nat → Int} {u : Nat} : ∀ n : Nat, u < n → (∀ k, k < n → 0 ≤ f k) → f u ≤ sm f n
  | 0, h, _ => absurd h (Nat.not_lt_zero u)
  | n + 1, h, e => by
    have b := e n (by omega)
    rw [sm_s]
    by_cases c : u = n
    · have a := sm_n0 n (fun k hk => e k (by omega))
      rw [c]
      omega
    · have a := sm_ge n (show u < n by omega) (fun k hk => e k (by omega))
      omega
theorem sm_mo {f h : Nat → Int} : ∀ n : Nat, (∀ k, k < n → f k ≤ h k) → sm f n ≤ sm h n
  | 0, _ => Int.le_refl _
  | n + 1, e => by
    have a := sm_mo n (fun k hk => e k (by omega))
    have b := e n (by omega)
    rw [sm_s, sm_s]
    omega
theorem sm_sub {f h : Nat → Int} : ∀ n : Nat, sm (fun k => f k - h k) n = sm f n - sm h n
  | 0 => rfl
  | n + 1 => by
    rw [sm_s, sm_s, sm_s, sm_sub n]
    omega
theorem sm_c {c : Int} : ∀ n : Nat, sm (fun _ => c) n = (n : Int) * c
  | 0 => by show (0 : Int) = ((0 : Nat) : Int) * c; simp
  | n + 1 => by
    rw [sm_s, sm_c n, show ((n + 1 : Nat) : Int) = (n : Int) + 1 from rfl, Int.add_mul, Int.one_mul]
theorem sm_sw {a : Nat → Nat → Int} (m : Nat) : ∀ n : Nat, sm (fun v => sm (a v) m) n = sm (fun p => sm (fun v => a v p) n) m
  | 0 => (sm_0 m (fun _ _ => rfl)).symm
  | n + 1 => by
    rw [sm_s, sm_sw m n, ← sm_add]
    rfl
theorem sm_pk {c x : Int} : ∀ n : Nat, 0 ≤ x → x < (n : Int) → sm (fun v => iw (x = (v : Int)) c) n = c
  | 0, h0, h1 => absurd h1 (by omega)
  | n + 1, h0, h1 => by
    rw [sm_s]
    by_cases e : x = (n : Int)
    · rw [iw_y e, sm_0 n (fun k hk => iw_n (by omega))]
      omega
    · rw [iw_n e, sm_pk n h0 (by omega)]
      omega
theorem sm_lt {r : Int} : ∀ n : Nat, 0 ≤ r → r ≤ (n : Int) → sm (fun v => iw ((v : Int) < r) 1) n = r
  | 0, h0, h1 => by show (0 : Int) = r; omega
  | n + 1, h0, h1 => by
    rw [sm_s]
    by_cases e : (n : Int) < r
    · rw [iw_y e, sm_eq (h := fun _ => 1) n (fun k hk => iw_y (by omega)), sm_c]
      omega
    · rw [iw_n e, sm_lt n h0 (by omega)]
      omega
theorem sm_cn {F : Nat → Int} {u c : Int} : ∀ m : Nat, sm (fun p => iw (F p = u) c) m = c * cn F u m
  | 0 => by show (0 : Int) = c * 0; simp
  | m + 1 => by
    rw [sm_s, sm_cn m]
    by_cases e : F m = u
    · rw [iw_y e, cn_hit e, Int.mul_add, Int.mul_one]
    · rw [iw_n e, cn_miss e]
      omega
/-- what u sends along each of its arcs -/
noncomputable def shr (F U : Nat → Int) (u : Nat) : Int := iw (cn F (u : Int) 160 ≠ 0) (U u * 85 / (100 * cn F (u : Int) 160))
noncomputable def ltr (F T U : Nat → Int) (v : Nat) : Int := sm (fun p => iw (T p = (v : Int)) (shr F U (F p).toNat)) 160
noncomputable def pot (F U : Nat → Int) (n : Nat) : Int := sm (fun u => U u - shr F U u * cn F (u : Int) 160) n
noncomputable def rnd (F T : Nat → Int) (n : Nat) (U : Nat → Int) (v : Nat) : Int := ltr F T U v + pot F U n / (n : Int) + iw ((v : Int) < pot F U n % (n : Int)) 1
noncomputable def RK (F T : Nat → Int) (n : Nat) : Nat → Nat → Int
  | 0, _ => 1000000000000
  | k + 1, v => rnd F T n (RK F T n k) v
def URG (n : Nat) (U : Nat → Int) : Prop := (∀ u, u < n → 0 ≤ U u) ∧ sm U n = (n : Int) * 1000000000000
/-- ends of arcs are nodes -/
def NDX (F T : Nat → Int) (n : Nat) : Prop := ∀ p, p < 160 → (F p = -1 ∧ T p = -1) ∨ (0 ≤ F p ∧ F p < (n : Int) ∧ 0 ≤ T p ∧ T p < (n : Int))
section RNK
variable {F T U : Nat → Int} {n : Nat}
theorem shr_b {u : Nat} (h : 0 ≤ U u) : 0 ≤ shr F U u ∧ shr F U u ≤ U u ∧ 0 ≤ U u - shr F U u * cn F (u : Int) 160 := by
  have o0 := cn_0 F (u : Int) 160
  unfold shr
  by_cases c : cn F (u : Int) 160 ≠ 0
  · rw [iw_y c]
    have q0 : 0 ≤ U u * 85 / (100 * cn F (u : Int) 160) := Int.ediv_nonneg (by omega) (by omega)
    have q1 := Int.ediv_mul_le (U u * 85) (b := 100 * cn F (u : Int) 160) (by omega)
    rw [Int.mul_left_comm] at q1
    have q2 : U u * 85 / (100 * cn F (u : Int) 160) * 1 ≤ U u * 85 / (100 * cn F (u : Int) 160) * cn F (u : Int) 160 := Int.mul_le_mul_of_nonneg_left (by omega) q0
    rw [Int.mul_one] at q2
    exact ⟨q0, by omega, by omega⟩
  · rw [iw_n c]
    exact ⟨Int.le_refl _, h, by rw [Int.zero_mul]; omega⟩
theorem snt_p (hN : NDX F T n) (hU : ∀ u, u < n → 0 ≤ U u) {p : Nat} (hp : p < 160) (h : 0 ≤ F p ∨ 0 ≤ T p) : 0 ≤ shr F U (F p).toNat ∧ shr F U (F p).toNat ≤ U (F p).toNat ∧ (F p).toNat < n := by
  rcases hN p hp with ⟨a, b⟩ | ⟨a, b, -⟩
  · omega
  · have l : (F p).toNat < n := by omega
    have q := shr_b (F := F) (hU _ l)
    exact ⟨q.1, q.2.1, l⟩
theorem snt_u (hN : NDX F T n) : sm (fun p => iw (0 ≤ F p) (shr F U (F p).toNat)) 160 = sm (fun u => shr F U u * cn F (u : Int) 160) n := by
  have e : sm (fun u => shr F U u * cn F (u : Int) 160) n = sm (fun u => sm (fun p => iw (F p = (u : Int)) (shr F U u)) 160) n := sm_eq n (fun u _ => (sm_cn 160).symm)
  rw [e, sm_sw 160 n]
  refine sm_eq 160 (fun p hp => ?_)
  rcases hN p hp with ⟨a, b⟩ | ⟨a, b, -⟩
  · rw [iw_n (by omega), sm_0 n (fun k _ => iw_n (by omega))]
  · rw [iw_y a]
    have e2 : sm (fun v => iw (F p = (v : Int)) (shr F U v)) n = sm (fun v => iw (F p = (v : Int)) (shr F U (F p).toNat)) n := sm_eq n (fun v _ => by
      by_cases c : F p = (v : Int)
      · rw [iw_y c, iw_y c, c]
        rfl
      · rw [iw_n c, iw_n c])
    rw [e2, sm_pk n a b]
theorem snt_t (hN : NDX F T n) : sm (ltr F T U) n = sm (fun p => iw (0 ≤ F p) (shr F U (F p).toNat)) 160 := by
  have e : sm (ltr F T U) n = sm (fun v => sm (fun p => iw (T p = (v : Int)) (shr F U (F p).toNat)) 160) n := rfl
  rw [e, sm_sw 160 n]
  refine sm_eq 160 (fun p hp => ?_)
  rcases hN p hp with ⟨a, b⟩ | ⟨a, -, b, c⟩
  · rw [iw_n (show ¬ 0 ≤ F p by omega), sm_0 n (fun k _ => iw_n (by omega))]
  · rw [iw_y a, sm_pk n b c]
theorem ltr_0 (hN : NDX F T n) (hU : ∀ u, u < n → 0 ≤ U u) {v : Nat} : 0 ≤ ltr F T U v := sm_n0 160 (fun p hp => by
  by_cases c : T p = (v : Int)
  · rw [iw_y c]
    exact (snt_p hN hU hp (Or.inr (by omega))).1
  · rw [iw_n c]
    exact Int.le_refl _)
theorem pot_0 (hU : ∀ u, u < n → 0 ≤ U u) {m : Nat} (hm : m ≤ n) : 0 ≤ pot F U m := sm_n0 m (fun u hu => (shr_b (hU u (by omega))).2.2)
theorem pot_e : pot F U n = sm U n - sm (fun u => shr F U u * cn F (u : Int) 160) n := sm_sub n
theorem rnd_ok (hN : NDX F T n) (h0 : 0 < n) (h : URG n U) : URG n (rnd F T n U) := by
  obtain ⟨hU, hS⟩ := h
  have p0 := pot_0 (F := F) hU (Nat.le_refl n)
  have q0 : 0 ≤ pot F U n / (n : Int) := Int.ediv_nonneg p0 (by omega)
  have r0 : 0 ≤ pot F U n % (n : Int) := Int.emod_nonneg _ (by omega)
  have r1 : pot F U n % (n : Int) < (n : Int) := Int.emod_lt_of_pos _ (by omega)
  refine ⟨fun u hu => ?_, ?_⟩
  · have a := ltr_0 hN hU (v := u)
    have b := (iw_b (P := (u : Int) < pot F U n % (n : Int)) (x := 1) (by decide)).1
    show 0 ≤ ltr F T U u + pot F U n / (n : Int) + iw ((u : Int) < pot F U n % (n : Int)) 1
    omega
  · have e : sm (rnd F T n U) n = sm (fun v => (ltr F T U v + pot F U n / (n : Int)) + iw ((v : Int) < pot F U n % (n : Int)) 1) n := rfl
    have d := Int.emod_def (pot F U n) (n : Int)
    rw [e, sm_add, sm_add, sm_c, sm_lt n r0 (by omega), snt_t hN, snt_u hN]
    have f := pot_e (F := F) (U := U) (n := n)
    omega
theorem urg_b {u : Nat} (h : URG n U) (hu : u < n) (n32 : n ≤ 32) : 0 ≤ U u ∧ U u ≤ 32000000000000 := by
  have a := sm_ge n hu h.1
  have b := h.1 u hu
  have c := h.2
  omega
theorem urg_k (hN : NDX F T n) (h0 : 0 < n) : ∀ k : Nat, URG n (RK F T n k)
  | 0 => ⟨fun _ _ => by show (0 : Int) ≤ 1000000000000; decide, sm_c n⟩
  | k + 1 => rnd_ok hN h0 (urg_k hN h0 k)
/-! the class's round -/
def RKA (F T U : Nat → Int) (r : Nat → Int64) (i : Nat) (d : Int) : Prop := ∀ v : Nat, v < 32 → (r v).toInt = sm (fun p => iw (T p = (v : Int) ∧ (F p < (i : Int) ∨ (F p = (i : Int) ∧ cn F (i : Int) p < d))) (shr F U (F p).toNat)) 160
theorem rka_0 {r : Nat → Int64} {i : Nat} {d : Int} (hN : NDX F T n) (hi : i = 0) (hd : d = 0) (h : ∀ v, v < 32 → r v = Int64.ofInt 0) : RKA F T U r i d := fun v hv => by
  refine (congrArg Int64.toInt (h v hv)).trans (Eq.trans ?_ (sm_0 160 (fun p hp => iw_n (fun z => ?_))).symm)
  · rfl
  · obtain ⟨z1, z2⟩ := z
    have c0 := cn_0 F (i : Int) p
    rcases hN p hp with ⟨a, b⟩ | ⟨a, -, -, -⟩
    · omega
    · rcases z2 with z2 | ⟨-, z2⟩
      · omega
      · omega
theorem rka_b {r : Nat → Int64} {i : Nat} {d : Int} (hN : NDX F T n) (hU : URG n U) (n32 : n ≤ 32) (h : RKA F T U r i d) {v : Nat} (hv : v < 32) : 0 ≤ (r v).toInt ∧ (r v).toInt ≤ 5120000000000000 := by
  rw [h v hv]
  have q := sm_le (f := fun p => iw (T p = (v : Int) ∧ (F p < (i : Int) ∨ (F p = (i : Int) ∧ cn F (i : Int) p < d))) (shr F U (F p).toNat)) (B := 32000000000000) 160 (fun p hp => by
    by_cases c : T p = (v : Int)
    · obtain ⟨a, b, l⟩ := snt_p hN hU.1 hp (Or.inr (by omega))
      have u := urg_b hU l n32
      have w := iw_b (P := T p = (v : Int) ∧ (F p < (i : Int) ∨ (F p = (i : Int) ∧ cn F (i : Int) p < d))) a
      omega
    · show 0 ≤ iw _ _ ∧ iw _ _ ≤ _
      rw [iw_n (fun z => c z.1)]
      exact ⟨by decide, by decide⟩)
  omega
theorem rka_s {r : Nat → Int64} {i p : Nat} {d e : Int} {w : Int32} {x z x2 : Int64} (hN : NDX F T n) (hU : URG n U) (n32 : n ≤ 32) (i32 : i < n) (h : RKA F T U r i d) (hp : p < 160) (hf : F p = (i : Int)) (ht : T p = w.toInt) (iw0 : In w 0 31) (hc : cn F (i : Int) p = d) (ex : x = r w.toNatClampNeg) (hz : z.toInt = shr F U i) (e2 : x2 = x + z) (he : e = d + 1) : RKA F T U (vp_updL r w.toNatClampNeg x2) i e := by
  have cw := clx iw0.1
  have w1 := iw0.2
  have w32 : w.toNatClampNeg < 32 := by omega
  have xb := rka_b hN hU n32 h w32
  have ub := urg_b hU i32 n32
  have sb := shr_b (F := F) ub.1
  have a2 : x2.toInt = (r w.toNatClampNeg).toInt + shr F U i := by
    rw [ladd_t e2 (by rw [ex, hz]; omega) (by rw [ex, hz]; omega), ex, hz]
  have fi : (F p).toNat = i := by rw [hf]; rfl
  have key : ∀ v q : Nat, (q ≠ p ∨ v ≠ w.toNatClampNeg) → iw (T q = (v : Int) ∧ (F q < (i : Int) ∨ (F q = (i : Int) ∧ cn F (i : Int) q < e))) (shr F U (F q).toNat) = iw (T q = (v : Int) ∧ (F q < (i : Int) ∨ (F q = (i : Int) ∧ cn F (i : Int) q < d))) (shr F U (F q).toNat) := fun v q hq => by
    refine iw_eq ⟨fun z => ⟨z.1, ?_⟩, fun z => ⟨z.1, z.2.imp id (fun y => ⟨y.1, by have := y.2; omega⟩)⟩⟩
    rcases z.2 with y | ⟨y1, y2⟩
    · exact Or.inl y
    · by_cases ce : cn F (i : Int) q = d
      · have qp : q = p := cn_inj y1 hf (by omega)
        rcases hq with hq | hq
        · exact absurd qp hq
        · have z1 := z.1
          rw [qp, ht] at z1
          omega
      · exact Or.inr ⟨y1, by omega⟩
  intro v hv
  by_cases cv : v = w.toNatClampNeg
  · have s1 : sm (fun p => iw (T p = (v : Int) ∧ (F p < (i : Int) ∨ (F p = (i : Int) ∧ cn F (i : Int) p < e))) (shr F U (F p).toNat)) 160 = sm (fun p => iw (T p = (v : Int) ∧ (F p < (i : Int) ∨ (F p = (i : Int) ∧ cn F (i : Int) p < d))) (shr F U (F p).toNat)) 160 + shr F U i := by
      refine sm_one (u := p) (d := shr F U i) 160 hp (fun k _ hk => key v k (Or.inl hk)) ?_
      show iw (T p = (v : Int) ∧ (F p < (i : Int) ∨ (F p = (i : Int) ∧ cn F (i : Int) p < e))) (shr F U (F p).toNat) = iw (T p = (v : Int) ∧ (F p < (i : Int) ∨ (F p = (i : Int) ∧ cn F (i : Int) p < d))) (shr F U (F p).toNat) + shr F U i
      rw [iw_y ⟨by rw [ht]; omega, Or.inr ⟨hf, by omega⟩⟩, iw_n (fun z => by
        rcases z.2 with y | ⟨-, y⟩
        · omega
        · omega), fi]
      omega
    rw [s1, ← h v hv, cv, ul_eq, a2]
  · rw [ul_ne cv, h v hv, sm_eq 160 (fun k _ => (key v k (Or.inr cv)).symm)]
theorem rka_n {r : Nat → Int64} {i j : Nat} {d e : Int} (h : RKA F T U r i d) (he : ∀ p, p < 160 → F p = (i : Int) → cn F (i : Int) p < d) (hj : j = i + 1) (h0 : e = 0) : RKA F T U r j e := fun v hv => by
  rw [h v hv]
  refine sm_eq 160 (fun p hp => iw_eq ⟨fun z => ⟨z.1, Or.inl ?_⟩, fun z => ⟨z.1, ?_⟩⟩)
  · rcases z.2 with y | ⟨y, -⟩
    · omega
    · omega
  · rcases z.2 with y | ⟨-, y⟩
    · by_cases c : F p = (i : Int)
      · exact Or.inr ⟨c, he p hp c⟩
      · exact Or.inl (by omega)
    · have := cn_0 F (j : Int) p
      omega
theorem rka_e {r : Nat → Int64} {i : Nat} {d : Int} (hN : NDX F T n) (h : RKA F T U r i d) (hi : n ≤ i) : ∀ v : Nat, v < 32 → (r v).toInt = ltr F T U v := fun v hv => by
  rw [h v hv]
  refine sm_eq 160 (fun p hp => iw_eq ⟨fun z => z.1, fun z => ⟨z, Or.inl ?_⟩⟩)
  rcases hN p hp with ⟨a, b⟩ | ⟨a, b, -, -⟩
  · omega
  · omega
theorem shr_v {u : Nat} {o : Int} {x y z a b : Int64} (hB : 0 ≤ U u ∧ U u ≤ 32000000000000) (hx : x.toInt = U u) (ho : o = cn F (u : Int) 160) (hne : o ≠ 0) (hy : y.toInt = o) (e1 : a = x * Int64.ofInt 85) (e2 : b = Int64.ofInt 100 * y) (e3 : z = a / b) : z.toInt = shr F U u := by
  have c0 := cn_0 F (u : Int) 160
  have c1 := cn_le F (u : Int) 160
  have k85 : (Int64.ofInt 85).toInt = 85 := rfl
  have k100 : (Int64.ofInt 100).toInt = 100 := rfl
  have a1 : a.toInt = U u * 85 := by
    rw [lmul_t e1 (by rw [hx, k85]; omega) (by rw [hx, k85]; omega), hx, k85]
  have b1 : b.toInt = 100 * o := by
    rw [lmul_t e2 (by rw [hy, k100]; omega) (by rw [hy, k100]; omega), hy, k100]
  have q := Int.ediv_le_self (a := U u * 85) (100 * o) (by omega)
  have q0 : 0 ≤ U u * 85 / (100 * o) := Int.ediv_nonneg (by omega) (by omega)
  have d : z.toInt = U u * 85 / (100 * o) := by
    rw [e3, Int64.toInt_div, a1, b1, Int.tdiv_eq_ediv_of_nonneg (by omega)]
    exact Int.bmod_eq_of_le (by omega) (by omega)
  unfold shr
  rw [iw_y (by rw [← ho]; exact hne), ← ho]
  exact d
theorem shr_z {u : Nat} {o : Int} {z : Int64} (ho : o = cn F (u : Int) 160) (h0 : o = 0) (hz : z.toInt = 0) : z.toInt = shr F U u := by
  unfold shr
  rw [iw_n (fun c => c (by omega)), hz]
/-! the pot -/
theorem pot_b (hU : URG n U) (n32 : n ≤ 32) {m : Nat} (hm : m ≤ n) : 0 ≤ pot F U m ∧ pot F U m ≤ 1024000000000000 := by
  have q := sm_le (f := fun u => U u - shr F U u * cn F (u : Int) 160) (B := 32000000000000) m (fun u hu => by
    have b := urg_b hU (show u < n by omega) n32
    have s := shr_b (F := F) b.1
    have c := cn_0 F (u : Int) 160
    have w : 0 ≤ shr F U u * cn F (u : Int) 160 := Int.mul_nonneg s.1 c
    show 0 ≤ U u - shr F U u * cn F (u : Int) 160 ∧ U u - shr F U u * cn F (u : Int) 160 ≤ 32000000000000
    omega)
  unfold pot
  omega
theorem pot_s {i : Nat} {o : Int} {x s y m q z p : Int64} (hU : URG n U) (n32 : n ≤ 32) (hi : i < n) (hp : p.toInt = pot F U i) (hx : x.toInt = U i) (hs : s.toInt = shr F U i) (hy : y.toInt = o) (ho : o = cn F (i : Int) 160) (e1 : m = s * y) (e2 : q = x - m) (e3 : z = p + q) : z.toInt = pot F U (i + 1) := by
  have ub := urg_b hU hi n32
  have sb := shr_b (F := F) ub.1
  have c0 := cn_0 F (i : Int) 160
  have w : 0 ≤ shr F U i * cn F (i : Int) 160 := Int.mul_nonneg sb.1 c0
  have pb := pot_b (F := F) hU n32 (show i ≤ n by omega)
  have m1 : m.toInt = shr F U i * cn F (i : Int) 160 := by
    rw [lmul_t e1 (by rw [hs, hy, ho]; omega) (by rw [hs, hy, ho]; omega), hs, hy, ho]
  have q1 : q.toInt = U i - shr F U i * cn F (i : Int) 160 := by
    rw [lsub_t e2 (by rw [hx, m1]; omega) (by rw [hx, m1]; omega), hx, m1]
  rw [ladd_t e3 (by rw [hp, q1]; omega) (by rw [hp, q1]; omega), hp, q1]
  rfl
/-! the pot is shared -/
def RKL (F T : Nat → Int) (n : Nat) (U : Nat → Int) (r : Nat → Int64) (y : Int) : Prop := ∀ v : Nat, v < 32 → ((v : Int) < y → (r v).toInt = rnd F T n U v) ∧ (y ≤ (v : Int) → (r v).toInt = ltr F T U v)
theorem rkl_0 {r : Nat → Int64} {y : Int} (hy : y = 0) (h : ∀ v : Nat, v < 32 → (r v).toInt = ltr F T U v) : RKL F T n U r y := fun v hv => ⟨fun z => by omega, fun _ => h v hv⟩
theorem ldiv_v {x y z : Int64} (e : z = x / y) (h0 : 0 ≤ x.toInt) (hy : 0 < y.toInt) : z.toInt = x.toInt / y.toInt := by
  have b := (l_rng x).2
  have q := Int.ediv_le_self (a := x.toInt) y.toInt h0
  have q0 : 0 ≤ x.toInt / y.toInt := Int.ediv_nonneg h0 (by omega)
  rw [e, Int64.toInt_div, Int.tdiv_eq_ediv_of_nonneg h0]
  exact Int.bmod_eq_of_le (by omega) (by omega)
theorem lrem_w {x y z : Int64} (e : z = x - x / y * y) (h0 : 0 ≤ x.toInt) (hx : x.toInt ≤ 4000000000000000000) (hy : 0 < y.toInt) : z.toInt = x.toInt % y.toInt := by
  obtain ⟨q, hq⟩ : ∃ q, q = x / y := ⟨_, rfl⟩
  obtain ⟨m, hm⟩ : ∃ m, m = q * y := ⟨_, rfl⟩
  have d := ldiv_v hq h0 hy
  have q1 := Int.ediv_mul_le x.toInt (b := y.toInt) (by omega)
  have q0 : 0 ≤ x.toInt / y.toInt := Int.ediv_nonneg h0 (by omega)
  have q2 : 0 ≤ x.toInt / y.toInt * y.toInt := Int.mul_nonneg q0 (by omega)
  have m1 : m.toInt = x.toInt / y.toInt * y.toInt := by
    rw [lmul_t hm (by rw [d]; omega) (by rw [d]; omega), d]
  rw [← hq, ← hm] at e
  rw [lsub_t e (by rw [m1]; omega) (by rw [m1]; omega), m1, Int.emod_def, Int.mul_comm y.toInt]
theorem rkl_s {r : Nat → Int64} {y z : Int32} {l p nn d m o a b : Int64} (hN : NDX F T n) (hU : URG n U) (n32 : n ≤ 32) (h : RKL F T n U r y.toInt) (iy : In y 0 31) (hl : y.toInt < (n : Int)) (el : l = r y.toNatClampNeg) (hp : p.toInt = pot F U n) (hn : nn.toInt = (n : Int)) (e1 : d = p / nn) (e2 : m = p - p / nn * nn) (ho : (o.toInt = 1 ∧ y.toInt < m.toInt) ∨ (o.toInt = 0 ∧ m.toInt ≤ y.toInt)) (e3 : a = d + o) (e4 : b = l + a) (hz : z.toInt = y.toInt + 1) : RKL F T n U (vp_updL r y.toNatClampNeg b) z.toInt := by
  have cy := clx iy.1
  have y1 := iy.2
  have y32 : y.toNatClampNeg < 32 := by omega
  have pb := pot_b (F := F) hU n32 (Nat.le_refl n)
  have d1 := ldiv_v e1 (by rw [hp]; omega) (by rw [hn]; omega)
  have m1 := lrem_w e2 (by rw [hp]; omega) (by rw [hp]; omega) (by rw [hn]; omega)
  rw [hp, hn] at d1 m1
  have q := Int.ediv_le_self (a := pot F U n) (n : Int) pb.1
  have q0 : 0 ≤ pot F U n / (n : Int) := Int.ediv_nonneg pb.1 (by omega)
  have l1 : l.toInt = ltr F T U y.toNatClampNeg := by rw [el]; exact (h _ y32).2 (by omega)
  have l0 := ltr_0 hN hU.1 (v := y.toNatClampNeg)
  have l2 : ltr F T U y.toNatClampNeg ≤ 5120000000000000 := by
    have g := sm_le (f := fun p => iw (T p = (y.toNatClampNeg : Int)) (shr F U (F p).toNat)) (B := 32000000000000) 160 (fun p hp => by
      by_cases c : T p = (y.toNatClampNeg : Int)
      · obtain ⟨a, b, l⟩ := snt_p hN hU.1 hp (Or.inr (by omega))
        have u := urg_b hU l n32
        show 0 ≤ iw _ _ ∧ iw _ _ ≤ _
        rw [iw_y c]
        omega
      · show 0 ≤ iw _ _ ∧ iw _ _ ≤ _
        rw [iw_n c]
        exact ⟨by decide, by decide⟩)
    unfold ltr
    omega
  have o1 : o.toInt = iw ((y.toNatClampNeg : Int) < pot F U n % (n : Int)) 1 := by
    rcases ho with ⟨w1, w2⟩ | ⟨w1, w2⟩
    · rw [w1, iw_y (by omega)]
    · rw [w1, iw_n (by omega)]
  have o2 : 0 ≤ o.toInt ∧ o.toInt ≤ 1 := by omega
  have a1 := ladd_t e3 (by omega) (by omega)
  have b1 := ladd_t e4 (by omega) (by omega)
  intro v hv
  by_cases c : v = y.toNatClampNeg
  · refine ⟨fun _ => ?_, fun k => by omega⟩
    rw [c, ul_eq, b1, a1, l1, d1, o1]
    unfold rnd
    omega
  · rw [ul_ne c]
    exact ⟨fun k => (h v hv).1 (by omega), fun k => (h v hv).2 (by omega)⟩
theorem rkl_e {r : Nat → Int64} {y : Int} (h : RKL F T n U r y) (hy : (n : Int) ≤ y) (n32 : n ≤ 32) : ∀ v : Nat, v < n → (r v).toInt = rnd F T n U v := fun v hv => (h v (by omega)).1 (by omega)
end RNK
theorem ndx_q {g : GVW} (h : NDQ g) {n : Nat} (hn : (n : Int) = g.2.2.2.2.2.2.1) : NDX (ARE g 0) (ARE g 1) n := fun p hp => by
  by_cases c : (g.2.1 p).toInt = -1
  · exact Or.inl ⟨are_no c, are_no c⟩
  · obtain ⟨⟨a0, a1⟩, b0, b1⟩ := h p hp c
    right
    rw [are_f hp rfl, are_t hp c (by decide), hn]
    exact ⟨a0, a1, b0, b1⟩
/-! what is kept of the ranks -/
def RKG (g : GVW) (k : Int) (r : Nat → Int64) : Prop := ∀ v : Nat, (v : Int) < g.2.2.2.2.2.2.1 → (r v).toInt = RK (ARE g 0) (ARE g 1) g.2.2.2.2.2.2.1.toNat k.toNat v
theorem rk_cg {F T F2 T2 : Nat → Int} {n : Nat} (h1 : F = F2) (h2 : T = T2) {k v : Nat} : RK F T n k v = RK F2 T2 n k v := by rw [h1, h2]
theorem urg_cg {n : Nat} {U V : Nat → Int} (h : URG n U) (e : ∀ u, u < n → V u = U u) : URG n V := ⟨fun u hu => by rw [e u hu]; exact h.1 u hu, (sm_eq n e).trans h.2⟩
theorem shr_cg {F U V : Nat → Int} {u : Nat} (e : U u = V u) : shr F U u = shr F V u := by
  unfold shr
  rw [e]
theorem rnd_cg {F T U V : Nat → Int} {n v : Nat} (hN : NDX F T n) (e : ∀ u, u < n → U u = V u) : rnd F T n U v = rnd F T n V v := by
  have a : ltr F T U v = ltr F T V v := sm_eq 160 (fun p hp => by
    rcases hN p hp with ⟨x, y⟩ | ⟨x, y, -, -⟩
    · rw [iw_n (by omega), iw_n (by omega)]
    · rw [shr_cg (e _ (by omega))])
  have b : pot F U n = pot F V n := sm_eq n (fun u hu => by rw [shr_cg (e u hu), e u hu])
  unfold rnd
  rw [a, b]
theorem rkg_0 {g : GVW} {k : Int} {r : Nat → Int64} (hk : k = 0) (h : ∀ v : Nat, (v : Int) < g.2.2.2.2.2.2.1 → r v = Int64.ofInt 1000000000000) : RKG g k r := fun v hv => by
  rw [h v hv, hk]
  rfl
theorem rkg_s {g : GVW} {j k : Int} {r r2 : Nat → Int64} {n : Nat} (hN : NDX (ARE g 0) (ARE g 1) n) (hn : n = g.2.2.2.2.2.2.1.toNat) (h : RKG g j r) (hj : 0 ≤ j) (hk : k = j + 1) (e : ∀ v : Nat, v < n → (r2 v).toInt = rnd (ARE g 0) (ARE g 1) n (fun u => (r u).toInt) v) : RKG g k r2 := fun v hv => by
  rw [e v (by omega), hk, show (j + 1).toNat = j.toNat + 1 by omega, ← hn]
  exact rnd_cg hN (fun u hu => by rw [h u (by omega), ← hn])
theorem rkg_u {g : GVW} {j : Int} {r : Nat → Int64} {n : Nat} (hN : NDX (ARE g 0) (ARE g 1) n) (hn : n = g.2.2.2.2.2.2.1.toNat) (h0 : 0 < n) (h : RKG g j r) : URG n (fun u => (r u).toInt) := urg_cg (urg_k hN h0 j.toNat) (fun u hu => by rw [h u (by omega), ← hn])
/-- what is kept of the ranks fits the graph g -/
def RKB (g : GVW) (s : GS) : Prop := (s.2.2.1 86 0).toInt = g.2.2.2.2.2.2.2 → RKG g (s.2.2.1 86 1).toInt (s.2.1 87)
def RKQ (g : GVW) (s : GS) : Prop := (s.2.2.1 86 0).toInt = g.2.2.2.2.2.2.2 ∧ RKG g (s.2.2.1 86 1).toInt (s.2.1 87)
def RKC (s : GS) : Prop := RKB (shC s) s
def RKS (g : GVW) (v : Nat) (k z : Int) : Prop := z = RK (ARE g 0) (ARE g 1) g.2.2.2.2.2.2.1.toNat k.toNat v
theorem rkg_e {g h : GVW} (q : GEW g h) {k : Int} {r : Nat → Int64} (z : RKG g k r) : RKG h k r := fun v hv => by
  rw [← q.2.2.2, z v (by rw [q.2.2.2]; exact hv), are_x q 0, are_x q 1]
theorem rks_u {g h : GVW} (q : GEW g h) {v : Nat} {k y z : Int} (a : RKS g v k y) (b : RKS h v k z) : y = z := by
  unfold RKS at a b
  rw [a, b, are_x q 0, are_x q 1, q.2.2.2]
theorem sws_a {s : GS} : (sws s).2.1 87 = s.2.1 88 := by simp [sws, sB]
/-! the reference -/
section RRF
variable {F T U : Nat → Int} {n : Nat}
/-- the arcs below m, each added to its end -/
noncomputable def ltp (F T U : Nat → Int) (m v : Nat) : Int := sm (fun p => iw (T p = (v : Int)) (shr F U (F p).toNat)) m
noncomputable def snp (F U : Nat → Int) (m : Nat) : Int := sm (fun p => iw (0 ≤ F p) (shr F U (F p).toNat)) m
def RRA (F T U : Nat → Int) (m : Nat) (r : Nat → Int64) (n : Nat) : Prop := ∀ v : Nat, v < n → (r v).toInt = ltp F T U m v
theorem ltp_b (hN : NDX F T n) (hU : URG n U) (n32 : n ≤ 32) {m v : Nat} (hm : m ≤ 160) : 0 ≤ ltp F T U m v ∧ ltp F T U m v ≤ 5120000000000000 := by
  have q := sm_le (f := fun p => iw (T p = (v : Int)) (shr F U (F p).toNat)) (B := 32000000000000) m (fun p hp => by
    by_cases c : T p = (v : Int)
    · obtain ⟨a, b, l⟩ := snt_p hN hU.1 (show p < 160 by omega) (Or.inr (by omega))
      have u := urg_b hU l n32
      show 0 ≤ iw _ _ ∧ iw _ _ ≤ _
      rw [iw_y c]
      omega
    · show 0 ≤ iw _ _ ∧ iw _ _ ≤ _
      rw [iw_n c]
      exact ⟨by decide, by decide⟩)
  unfold ltp
  omega
theorem snp_b (hN : NDX F T n) (hU : URG n U) (n32 : n ≤ 32) {m : Nat} (hm : m ≤ 160) : 0 ≤ snp F U m ∧ snp F U m ≤ 5120000000000000 := by
  have q := sm_le (f := fun p => iw (0 ≤ F p) (shr F U (F p).toNat)) (B := 32000000000000) m (fun p hp => by
    by_cases c : 0 ≤ F p
    · obtain ⟨a, b, l⟩ := snt_p hN hU.1 (show p < 160 by omega) (Or.inl c)
      have u := urg_b hU l n32
      show 0 ≤ iw _ _ ∧ iw _ _ ≤ _
      rw [iw_y c]
      omega
    · show 0 ≤ iw _ _ ∧ iw _ _ ≤ _
      rw [iw_n c]
      exact ⟨by decide, by decide⟩)
  unfold snp
  omega
theorem rra_n {m : Nat} {r : Nat → Int64} (h : RRA F T U m r n) (e : F m = -1 ∧ T m = -1) : RRA F T U (m + 1) r n ∧ snp F U (m + 1) = snp F U m := by
  refine ⟨fun v hv => ?_, ?_⟩
  · show (r v).toInt = ltp F T U m v + iw (T m = (v : Int)) (shr F U (F m).toNat)
    rw [h v hv, iw_n (by omega)]
    omega
  · show snp F U m + iw (0 ≤ F m) (shr F U (F m).toNat) = _
    rw [iw_n (by omega)]
    omega
theorem rra_s {m : Nat} {r : Nat → Int64} {f t : Int32} {x z x2 p p2 : Int64} (hN : NDX F T n) (hU : URG n U) (n32 : n ≤ 32) (hm : m < 160) (h : RRA F T U m r n) (hf : F m = f.toInt) (ht : T m = t.toInt) (i1 : In f 0 31) (i2 : In t 0 31) (ex : x = r t.toNatClampNeg) (hz : z.toInt = shr F U f.toNatClampNeg) (e2 : x2 = x + z) (hp : p.toInt = sm U n - snp F U m) (e3 : p2 = p - z) : RRA F T U (m + 1) (vp_updL r t.toNatClampNeg x2) n ∧ p2.toInt = sm U n - snp F U (m + 1) := by
  have cf := clx i1.1
  have ct := clx i2.1
  have ff : (F m).toNat = f.toNatClampNeg := by rw [hf]; rfl
  have tn : t.toNatClampNeg < n := by
    rcases hN m hm with ⟨a, b⟩ | ⟨-, -, -, b⟩
    · have := i2.1
      omega
    · omega
  have fn : f.toNatClampNeg < n := by
    rcases hN m hm with ⟨a, b⟩ | ⟨-, b, -, -⟩
    · have := i1.1
      omega
    · omega
  have lb := ltp_b hN hU n32 (m := m) (v := t.toNatClampNeg) (by omega)
  have sb := snp_b hN hU n32 (m := m) (by omega)
  have ub := urg_b hU fn n32
  have sh := shr_b (F := F) ub.1
  have sU := hU.2
  have x1 : x.toInt = ltp F T U m t.toNatClampNeg := by rw [ex]; exact h _ tn
  have a2 : x2.toInt = ltp F T U m t.toNatClampNeg + shr F U f.toNatClampNeg := by
    rw [ladd_t e2 (by rw [x1, hz]; omega) (by rw [x1, hz]; omega), x1, hz]
  have p1 : p2.toInt = sm U n - snp F U m - shr F U f.toNatClampNeg := by
    rw [lsub_t e3 (by rw [hp, hz]; omega) (by rw [hp, hz]; omega), hp, hz]
  refine ⟨fun v hv => ?_, ?_⟩
  · show _ = ltp F T U m v + iw (T m = (v : Int)) (shr F U (F m).toNat)
    rw [ff]
    by_cases c : v = t.toNatClampNeg
    · rw [c, ul_eq, a2, iw_y (by omega)]
    · rw [ul_ne c, h v hv, iw_n (by omega)]
      omega
  · rw [p1]
    show _ = sm U n - (snp F U m + iw (0 ≤ F m) (shr F U (F m).toNat))
    rw [iw_y (by rw [hf]; exact i1.1), ff]
    omega
theorem rra_e (hN : NDX F T n) {r : Nat → Int64} {p : Int64} (h : RRA F T U 160 r n) (hp : p.toInt = sm U n - snp F U 160) : (∀ v : Nat, v < n → (r v).toInt = ltr F T U v) ∧ p.toInt = pot F U n := by
  refine ⟨fun v hv => h v hv, ?_⟩
  have e : snp F U 160 = sm (fun u => shr F U u * cn F (u : Int) 160) n := snt_u hN
  rw [hp, pot_e, e]
theorem oin_0 {r : Nat → Int32} {m : Nat} (hm : m = 0) (h : ∀ u : Nat, u < n → (r u).toInt = 0) : ∀ u : Nat, u < n → (r u).toInt = cn F (u : Int) m := fun u hu => by
  rw [h u hu, hm]
  rfl
theorem oin_n {r : Nat → Int32} {m : Nat} (h : ∀ u : Nat, u < n → (r u).toInt = cn F (u : Int) m) (e : F m = -1) : ∀ u : Nat, u < n → (r u).toInt = cn F (u : Int) (m + 1) := fun u hu => by
  rw [cn_miss (by omega)]
  exact h u hu
theorem oin_s {r : Nat → Int32} {m : Nat} {f x x2 : Int32} (h : ∀ u : Nat, u < n → (r u).toInt = cn F (u : Int) m) (hf : F m = f.toInt) (i1 : In f 0 31) (ex : x = r f.toNatClampNeg) (hx : x2.toInt = x.toInt + 1) : ∀ u : Nat, u < n → (upd r f.toNatClampNeg x2 u).toInt = cn F (u : Int) (m + 1) := fun u hu => by
  have cf := clx i1.1
  by_cases c : u = f.toNatClampNeg
  · rw [cn_hit (show F m = (u : Int) by omega), ← h u hu, c, up_e, hx, ex]
  · rw [cn_miss (show F m ≠ (u : Int) by omega), up_n c]
    exact h u hu
/-- the new units: row a out of row b -/
def RRL (F T : Nat → Int) (n : Nat) (U : Nat → Int) (r : Nat → Int64) (y : Int) : Prop := ∀ v : Nat, (v : Int) < y → (r v).toInt = rnd F T n U v
theorem rrl_s {r : Nat → Int64} {y z : Int32} {l p nn d m o a b : Int64} (hN : NDX F T n) (hU : URG n U) (n32 : n ≤ 32) (h : RRL F T n U r y.toInt) (iy : In y 0 31) (hl : y.toInt < (n : Int)) (el : l.toInt = ltr F T U y.toNatClampNeg) (hp : p.toInt = pot F U n) (hn : nn.toInt = (n : Int)) (e1 : d = p / nn) (e2 : m = p - p / nn * nn) (ho : (o.toInt = 1 ∧ y.toInt < m.toInt) ∨ (o.toInt = 0 ∧ m.toInt ≤ y.toInt)) (e3 : a = l + d) (e4 : b = a + o) (hz : z.toInt = y.toInt + 1) : RRL F T n U (vp_updL r y.toNatClampNeg b) z.toInt := by
  have cy := clx iy.1
  have pb := pot_b (F := F) hU n32 (Nat.le_refl n)
  have d1 := ldiv_v e1 (by rw [hp]; omega) (by rw [hn]; omega)
  have m1 := lrem_w e2 (by rw [hp]; omega) (by rw [hp]; omega) (by rw [hn]; omega)
  rw [hp, hn] at d1 m1
  have q := Int.ediv_le_self (a := pot F U n) (n : Int) pb.1
  have q0 : 0 ≤ pot F U n / (n : Int) := Int.ediv_nonneg pb.1 (by omega)
  have lb : 0 ≤ ltr F T U y.toNatClampNeg ∧ ltr F T U y.toNatClampNeg ≤ 5120000000000000 := ltp_b hN hU n32 (Nat.le_refl 160)
  have o1 : o.toInt = iw ((y.toNatClampNeg : Int) < pot F U n % (n : Int)) 1 := by
    rcases ho with ⟨w1, w2⟩ | ⟨w1, w2⟩
    · rw [w1, iw_y (by omega)]
    · rw [w1, iw_n (by omega)]
  have o2 : 0 ≤ o.toInt ∧ o.toInt ≤ 1 := by omega
  have a1 := ladd_t e3 (by omega) (by omega)
  have b1 := ladd_t e4 (by omega) (by omega)
  intro v hv
  by_cases c : v = y.toNatClampNeg
  · rw [c, ul_eq, b1, a1, el, d1, o1]
    rfl
  · rw [ul_ne c]
    exact h v (by omega)
theorem sum_s {y : Nat} {p x z : Int64} (hU : URG n U) (n32 : n ≤ 32) (hy : y < n) (hp : p.toInt = sm U y) (hx : x.toInt = U y) (e : z = p + x) : z.toInt = sm U (y + 1) := by
  have a := sm_n0 (f := U) y (fun k hk => hU.1 k (by omega))
  have b := sm_le (f := U) (B := 32000000000000) y (fun k hk => urg_b hU (by omega) n32)
  have c := urg_b hU hy n32
  rw [ladd_t e (by rw [hp, hx]; omega) (by rw [hp, hx]; omega), hp, hx]
  rfl
end RRF
def RKR (s t : GS) (x y : Int32) (z : Int64) : Prop := ((t.2.2.1 109 0).toInt = 1 ∧ ¬ ((0 ≤ x.toInt ∧ x.toInt < (s.2.2.1 109 20).toInt) ∧ In y 0 40)) ∨ ((t.2.2.1 109 0).toInt = 0 ∧ ((0 ≤ x.toInt ∧ x.toInt < (s.2.2.1 109 20).toInt) ∧ In y 0 40) ∧ RKS (gvZ s) x.toNatClampNeg y.toInt z.toInt)
/-! SORTING -/
theorem cn_up {F G : Nat → Int} {i : Nat} {v : Int} (hn : ∀ k, k ≠ i → G k = F k) : ∀ n : Nat, (n ≤ i → cn G v n = cn F v n) ∧ (i < n → cn G v n + (if F i = v then 1 else 0) = cn F v n + (if G i = v then 1 else 0))
  | 0 => ⟨fun _ => rfl, fun h => absurd h (Nat.not_lt_zero i)⟩
  | n + 1 => by
    have ih := cn_up (v := v) hn n
    have st : ∀ H : Nat → Int, cn H v (n + 1) = cn H v n + (if H n = v then 1 else 0) := fun H => by
      by_cases c : H n = v
      · rw [cn_hit c, if_pos c]
      · rw [cn_miss c, if_neg c]; omega
    refine ⟨fun h => ?_, fun h => ?_⟩
    · rw [st G, st F, hn n (by omega), ih.1 (by omega)]
    · by_cases c : n = i
      · rw [st G, st F, ih.1 (by omega), c]; omega
      · have q := ih.2 (by omega)
        rw [st G, st F, hn n c]; omega
theorem cn_sw {F G : Nat → Int} {i j n : Nat} {v : Int} (hi : i < n) (hj : j < n) (gi : G i = F j) (gj : G j = F i) (ho : ∀ k, k ≠ i → k ≠ j → G k = F k) : cn G v n = cn F v n := by
  by_cases e : i = j
  · subst e
    exact cn_eq n (fun k _ => by
      by_cases c : k = i
      · rw [c]; exact gi
      · exact ho k c c)
  · have h1 := (cn_up (F := F) (G := fun k => if k = i then F j else F k) (i := i) (v := v) (fun k hk => if_neg hk) n).2 hi
    have h2 := (cn_up (F := fun k => if k = i then F j else F k) (G := G) (i := j) (v := v) (fun k hk => by
      by_cases c : k = i
      · rw [if_pos c, c]; exact gi
      · rw [if_neg c]; exact ho k c hk) n).2 hj
    have e1 : (if i = i then F j else F i) = F j := if_pos rfl
    have e2 : (if j = i then F j else F j) = F j := by split <;> rfl
    rw [e1] at h1
    rw [e2, gj] at h2
    omega
theorem cn_ab {F : Nat → Int} {v : Int} {k : Nat} : ∀ m : Nat, (∀ i, k ≤ i → i < k + m → F i ≠ v) → cn F v (k + m) = cn F v k
  | 0, _ => rfl
  | m + 1, h => by
    show cn F v (k + m + 1) = _
    rw [cn_miss (h (k + m) (by omega) (by omega))]
    exact cn_ab m (fun i a b => h i a (by omega))
def SRT (F : Nat → Int) (n : Nat) : Prop := ∀ p q : Nat, p < q → q < n → F p ≤ F q
/-- two sorted rows of the same values are the same -/
theorem srt_l {F G : Nat → Int} {n k : Nat} (hp : ∀ v, cn F v n = cn G v n) (hG : SRT G n) (hk : k < n) (hb : ∀ i, i < k → F i = G i) (hl : F k < G k) : False := by
  have a : cn G (F k) n = cn G (F k) k := by
    obtain ⟨m, rfl⟩ := Nat.exists_eq_add_of_le (Nat.le_of_lt hk)
    refine cn_ab m (fun i h1 h2 e => ?_)
    by_cases c : i = k
    · rw [c] at e; omega
    · have := hG k i (by omega) h2; omega
  have b : cn F (F k) k = cn G (F k) k := cn_eq k (fun i hi => hb i hi)
  have c : cn F (F k) (k + 1) = cn F (F k) k + 1 := cn_hit rfl
  have d := cn_mono F (F k) (show k + 1 ≤ n by omega)
  have e := hp (F k)
  omega
theorem srt_u {F G : Nat → Int} {n : Nat} (hp : ∀ v, cn F v n = cn G v n) (hF : SRT F n) (hG : SRT G n) : ∀ k, k < n → F k = G k := by
  intro k
  induction k using Nat.strongRecOn with
  | ind k ih =>
    intro hk
    rcases Int.lt_trichotomy (F k) (G k) with c | c | c
    · exact (srt_l hp hG hk (fun i hi => ih i hi (by omega)) c).elim
    · exact c
    · exact (srt_l (fun v => (hp v).symm) hF hk (fun i hi => (ih i hi (by omega)).symm) c).elim
/-! a value is put in, with a gap -/
def kvl (f : Nat → Int64) (k : Nat) : Int := (f k).toInt
def PRM (f g : Nat → Int64) (n : Nat) : Prop := ∀ v : Int, cn (kvl f) v n = cn (kvl g) v n
section INS
variable {f f0 : Nat → Int64} {n i j g : Nat} {key z : Int64}
theorem prm_r : PRM f f n := fun _ => rfl
theorem prm_t {h : Nat → Int64} (a : PRM f f0 n) (b : PRM f0 h n) : PRM f h n := fun v => (a v).trans (b v)
theorem vp_at {x : Int64} : vp_updL f j x j = x := if_pos rfl
theorem vp_ne {k : Nat} {x : Int64} (h : k ≠ j) : vp_updL f j x k = f k := if_neg h
theorem hol_0 (h : key = f i) : PRM (vp_updL f i key) f n := fun v => cn_eq n (fun k _ => by
  show (vp_updL f i key k).toInt = (f k).toInt
  by_cases c : k = i
  · rw [c, vp_at, h]
  · rw [vp_ne c])
theorem hol_s (h : PRM (vp_updL f j key) f0 n) (hj : j < n) (hi : i < n) (hij : i ≠ j) (hz : z = f i) : PRM (vp_updL (vp_updL f j z) i key) f0 n := fun v => by
  rw [← h v]
  refine cn_sw hi hj ?_ ?_ (fun k a b => ?_)
  · show (vp_updL (vp_updL f j z) i key i).toInt = (vp_updL f j key j).toInt
    rw [vp_at, vp_at]
  · show (vp_updL (vp_updL f j z) i key j).toInt = (vp_updL f j key i).toInt
    rw [vp_ne (fun e => hij e.symm), vp_at, vp_ne hij, hz]
  · show (vp_updL (vp_updL f j z) i key k).toInt = (vp_updL f j key k).toInt
    rw [vp_ne a, vp_ne b, vp_ne b]
/-- gap 1: the first i are sorted; while the i-th is put in, its place is j -/
def IN2 (f : Nat → Int64) (i j : Nat) (key : Int64) : Prop := (∀ p q : Nat, p < q → q ≤ i → p ≠ j → q ≠ j → (f p).toInt ≤ (f q).toInt) ∧ (∀ p : Nat, j < p → p ≤ i → key.toInt < (f p).toInt) ∧ j ≤ i
theorem in2_0 (h : SRT (kvl f) i) : IN2 f i i key := ⟨fun p q a b c d => h p q a (by omega), fun p a b => by omega, Nat.le_refl _⟩
theorem in2_s (h : IN2 f i (j + 1) key) (hz : z = f j) (hk : key.toInt < z.toInt) : IN2 (vp_updL f (j + 1) z) i j key := by
  obtain ⟨h1, h2, h3⟩ := h
  refine ⟨fun p q a b c d => ?_, fun p a b => ?_, by omega⟩
  · by_cases e : p = j + 1
    · rw [e, vp_at, vp_ne (by omega), hz]
      exact h1 j q (by omega) b (by omega) (by omega)
    · rw [vp_ne e]
      by_cases e2 : q = j + 1
      · rw [e2, vp_at, hz]
        exact h1 p j (by omega) (by omega) e (by omega)
      · rw [vp_ne e2]
        exact h1 p q a b e e2
  · by_cases e : p = j + 1
    · rw [e, vp_at]; exact hk
    · rw [vp_ne e]
      exact h2 p (by omega) b
theorem in2_e (h : IN2 f i j key) (hl : ∀ p : Nat, p + 1 = j → (f p).toInt ≤ key.toInt) : SRT (kvl (vp_updL f j key)) (i + 1) := by
  obtain ⟨h1, h2, h3⟩ := h
  intro p q a b
  show (vp_updL f j key p).toInt ≤ (vp_updL f j key q).toInt
  by_cases e : p = j
  · rw [e, vp_at, vp_ne (by omega)]
    exact Int.le_of_lt (h2 q (by omega) (by omega))
  · rw [vp_ne e]
    by_cases e2 : q = j
    · rw [e2, vp_at]
      have l := hl (j - 1) (by omega)
      by_cases e3 : p = j - 1
      · rw [e3]; exact l
      · have := h1 p (j - 1) (by omega) (by omega) e (by omega)
        omega
    · rw [vp_ne e2]
      exact h1 p q a (by omega) e e2
end INS

theorem sL_w {s : GS} {q j : Nat} {v : Int64} : (sL s q j v).2.1 q = vp_updL (s.2.1 q) j v := by simp [sL]
/-! the gaps -/
def GPS (g : Int) : Prop := g = 0 ∨ g = 1 ∨ g = 4 ∨ g = 13 ∨ g = 40 ∨ g = 121 ∨ g = 364 ∨ g = 1093
theorem gps_3 {g z : Int} (h : GPS g) (h0 : 0 < g) (hl : g < 700) (hz : z = 3 * g + 1) : GPS z := by
  unfold GPS at *
  omega
theorem gps_d {g z : Int} (h : GPS g) (hz : z = g / 3) : GPS z ∧ (z = 0 → g = 0 ∨ g = 1) := by
  unfold GPS at *
  omega
theorem srt_m {F : Nat → Int} {n m : Nat} (h : SRT F n) (hm : m ≤ n) : SRT F m := fun p q a b => h p q a (by omega)
theorem srt_1 {F : Nat → Int} {n : Nat} (h : n ≤ 1) : SRT F n := fun p q a b => by omega
theorem srt_x {f g : Nat → Int64} {n : Nat} (e : f = g) (h : SRT (kvl g) n) : SRT (kvl f) n := e ▸ h

/-! two sorted pieces become one -/
section MRG
variable {V : Int → Int} {F M G : Nat → Int} {fs hf en a b k n sz : Nat} {x : Int}
/-- sorted by V from p to q -/
def SRV (V : Int → Int) (F : Nat → Int) (p q : Nat) : Prop := ∀ i j : Nat, p ≤ i → i < j → j < q → V (F i) ≤ V (F j)
/-- how often v stands from p to q -/
def cnr (F : Nat → Int) (v : Int) (p q : Nat) : Int := cn F v q - cn F v p
theorem cnr_s {v : Int} (h : fs ≤ k) : cnr F v fs (k + 1) = cnr F v fs k + (if F k = v then 1 else 0) := by
  unfold cnr
  by_cases c : F k = v
  · rw [cn_hit c, if_pos c]; omega
  · rw [cn_miss c, if_neg c]; omega
theorem cnr_0 {v : Int} : cnr F v k k = 0 := by unfold cnr; omega
theorem cnr_cg {v : Int} (hk : fs ≤ k) (h : ∀ i, fs ≤ i → i < k → F i = G i) : cnr F v fs k = cnr G v fs k := by
  obtain ⟨m, rfl⟩ := Nat.exists_eq_add_of_le hk
  clear hk
  induction m with
  | zero => rw [Nat.add_zero, cnr_0, cnr_0]
  | succ m ih =>
    have e := ih (fun i p q => h i p (by omega))
    show cnr F v fs (fs + m + 1) = cnr G v fs (fs + m + 1)
    rw [cnr_s (by omega), cnr_s (by omega), e, h (fs + m) (by omega) (by omega)]
/-- M from fs to k: what F has from fs to a and from hf to b, in order; nothing that is left is smaller -/
def MRI (V : Int → Int) (F M : Nat → Int) (fs hf en a b k : Nat) : Prop := (∀ v, cnr M v fs k = cnr F v fs a + cnr F v hf b) ∧ SRV V M fs k ∧ (∀ i j : Nat, fs ≤ i → i < k → a ≤ j → j < hf → V (M i) ≤ V (F j)) ∧ (∀ i j : Nat, fs ≤ i → i < k → b ≤ j → j < en → V (M i) ≤ V (F j))
theorem mri_0 : MRI V F M fs hf en fs hf fs := ⟨fun v => by rw [cnr_0, cnr_0, cnr_0]; rfl, fun i j p q r => by omega, fun i j p q => by omega, fun i j p q => by omega⟩
theorem mri_p {N : Nat → Int} (h : MRI V F M fs hf en a b k) (hk : fs ≤ k) (hN : N k = x) (ho : ∀ i, i ≠ k → N i = M i) (hx : ∀ i : Nat, fs ≤ i → i < k → V (M i) ≤ V x) : SRV V N fs (k + 1) := fun i j p q r => by
  by_cases e : j = k
  · rw [e, hN, ho i (by omega)]; exact hx i p (by omega)
  · rw [ho i (by omega), ho j e]; exact h.2.1 i j p q (by omega)
theorem mri_a {N : Nat → Int} (h : MRI V F M fs hf en a b k) (hk : fs ≤ k) (ha : fs ≤ a) (hah : a < hf) (hs : SRV V F fs hf) (hN : N k = F a) (ho : ∀ i, i ≠ k → N i = M i) (hb : ∀ j : Nat, b ≤ j → j < en → V (F a) ≤ V (F j)) : MRI V F N fs hf en (a + 1) b (k + 1) := by
  have cg : ∀ v, cnr N v fs k = cnr M v fs k := fun v => cnr_cg hk (fun i p q => ho i (by omega))
  refine ⟨fun v => ?_, mri_p h hk hN ho (fun i p q => h.2.2.1 i a p q (Nat.le_refl _) hah), fun i j p q r t => ?_, fun i j p q r t => ?_⟩
  · rw [cnr_s hk, cnr_s ha, cg v, h.1 v, hN]; omega
  · by_cases e : i = k
    · rw [e, hN]; exact hs a j ha (by omega) t
    · rw [ho i e]; exact h.2.2.1 i j p (by omega) (by omega) t
  · by_cases e : i = k
    · rw [e, hN]; exact hb j r t
    · rw [ho i e]; exact h.2.2.2 i j p (by omega) r t
theorem mri_b {N : Nat → Int} (h : MRI V F M fs hf en a b k) (hk : fs ≤ k) (hb : hf ≤ b) (hbe : b < en) (hs : SRV V F hf en) (hN : N k = F b) (ho : ∀ i, i ≠ k → N i = M i) (ha : ∀ j : Nat, a ≤ j → j < hf → V (F b) ≤ V (F j)) : MRI V F N fs hf en a (b + 1) (k + 1) := by
  have cg : ∀ v, cnr N v fs k = cnr M v fs k := fun v => cnr_cg hk (fun i p q => ho i (by omega))
  refine ⟨fun v => ?_, mri_p h hk hN ho (fun i p q => h.2.2.2 i b p q (Nat.le_refl _) hbe), fun i j p q r t => ?_, fun i j p q r t => ?_⟩
  · rw [cnr_s hk, cnr_s hb, cg v, h.1 v, hN]; omega
  · by_cases e : i = k
    · rw [e, hN]; exact ha j r t
    · rw [ho i e]; exact h.2.2.1 i j p (by omega) r t
  · by_cases e : i = k
    · rw [e, hN]; exact hs b j hb (by omega) t
    · rw [ho i e]; exact h.2.2.2 i j p (by omega) (by omega) t
/-- pieces of sz are sorted -/
def BLS (V : Int → Int) (F : Nat → Int) (sz n : Nat) : Prop := ∀ m : Nat, SRV V F (m * sz) (min ((m + 1) * sz) n)
theorem bls_1 (n : Nat) : BLS V F 1 n := fun m i j p q r => by
  have : min ((m + 1) * 1) n ≤ m + 1 := by omega
  omega
theorem bls_e (h : BLS V F sz n) (hn : n ≤ sz) : SRV V F 0 n := fun i j p q r => h 0 i j (by omega) q (by
  have : min ((0 + 1) * sz) n = n := by rw [Nat.zero_add, Nat.one_mul]; omega
  omega)
/-- what is merged so far: pieces of twice the size, the same values -/
def MGB (V : Int → Int) (F M : Nat → Int) (sz n m : Nat) : Prop := (∀ q, q < m → SRV V M (q * (2 * sz)) (min ((q + 1) * (2 * sz)) n)) ∧ ∀ v, cn M v (min (m * (2 * sz)) n) = cn F v (min (m * (2 * sz)) n)
theorem mgb_0 : MGB V F M sz n 0 := ⟨fun q hq => by omega, fun v => by rw [Nat.zero_mul, Nat.zero_min]; rfl⟩
end MRG

section MG2
variable {V : Int → Int} {F M N : Nat → Int} {fs hf en n sz m : Nat}
theorem srv_cg {p q : Nat} (h : SRV V M p q) (e : ∀ i, p ≤ i → i < q → N i = M i) : SRV V N p q := fun i j a b c => by
  rw [e i a (by omega), e j (by omega) c]
  exact h i j a b c
theorem mgb_s (h : MGB V F M sz n m) (hfs : fs = m * (2 * sz)) (hfn : fs < n) (hhf : hf = min (fs + sz) n) (hen : en = min (fs + 2 * sz) n) (hN : ∀ i, i < fs → N i = M i) (hm : MRI V F N fs hf en hf en en) : MGB V F N sz n (m + 1) := by
  have e1 : (m + 1) * (2 * sz) = fs + 2 * sz := by rw [Nat.succ_mul, hfs]
  have e2 : min (m * (2 * sz)) n = fs := by rw [← hfs]; omega
  refine ⟨fun q hq => ?_, fun v => ?_⟩
  · by_cases c : q = m
    · rw [c, e1, ← hfs, ← hen]
      exact hm.2.1
    · have k : (q + 1) * (2 * sz) ≤ m * (2 * sz) := Nat.mul_le_mul_right _ (by omega)
      exact srv_cg (h.1 q (by omega)) (fun i a b => hN i (by omega))
  · rw [e1, ← hen]
    have a := hm.1 v
    have b : cn N v fs = cn M v fs := cn_eq fs (fun i hi => hN i hi)
    have c := h.2 v
    rw [e2] at c
    unfold cnr at a
    omega
theorem mgb_e (h : MGB V F M sz n m) (hm : n ≤ m * (2 * sz)) : BLS V M (2 * sz) n ∧ ∀ v, cn M v n = cn F v n := by
  refine ⟨fun q => ?_, fun v => ?_⟩
  · by_cases c : q < m
    · exact h.1 q c
    · have k : m * (2 * sz) ≤ q * (2 * sz) := Nat.mul_le_mul_right _ (by omega)
      exact fun i j a b d => by omega
  · have c := h.2 v
    rw [show min (m * (2 * sz)) n = n by omega] at c
    exact c
theorem bls_h (h : BLS V F sz n) (hfs : fs = m * (2 * sz)) (hhf : hf = min (fs + sz) n) (hen : en = min (fs + 2 * sz) n) : SRV V F fs hf ∧ SRV V F hf en := by
  have e1 : (2 * m) * sz = fs := by rw [hfs, Nat.mul_comm 2 m, Nat.mul_assoc]
  have e2 : (2 * m + 1) * sz = fs + sz := by rw [Nat.succ_mul, e1]
  have e3 : (2 * m + 1 + 1) * sz = fs + 2 * sz := by rw [Nat.succ_mul, e2]; omega
  have a := h (2 * m)
  have b := h (2 * m + 1)
  rw [e1, e2, ← hhf] at a
  rw [e2, e3, ← hen] at b
  refine ⟨a, fun i j p q r => ?_⟩
  by_cases c : fs + sz ≤ n
  · exact b i j (by omega) q r
  · omega
end MG2

/-! which way is before which -/
def shE (s : GS) (x i : Nat) : Int := (s.1 134 (5 * x + i)).toInt
def shW (s : GS) (x : Nat) : Int := (s.2.1 135 x).toInt
def KYV (s : GS) (x : Int) : Int := shW s x.toNat * 34359738368 + shE s x.toNat 0 * 4294967296 + shE s x.toNat 1 * 16777216 + shE s x.toNat 2 * 65536 + shE s x.toNat 3 * 256 + shE s x.toNat 4
/-- a way of one to four arcs, nothing behind them -/
def SOK (s : GS) (x : Nat) : Prop := (1 ≤ shE s x 0 ∧ shE s x 0 ≤ 4) ∧ ∀ i : Nat, i ≤ 4 → shE s x 0 < (i : Int) → shE s x i = 0
def SHQR (s : GS) (x : Nat) : Prop := ∀ i : Nat, i ≤ 4 → 0 ≤ shE s x i ∧ shE s x i ≤ 159
section KY
variable {s : GS} {x y : Int32}
theorem shr_i (hI : Inv s) (h : In x 0 2000) : SHQR s x.toInt.toNat := fun i hi => by
  have a := h.1
  have b := h.2
  exact hI.1.1 134 (5 * x.toInt.toNat + i) (by show 5 * x.toInt.toNat + i < 10005; omega)
theorem kyv_w (hx : SHQR s x.toInt.toNat) (hy : SHQR s y.toInt.toNat) (ox : SOK s x.toInt.toNat) (oy : SOK s y.toInt.toNat) (h : shW s x.toInt.toNat < shW s y.toInt.toNat) : KYV s x.toInt < KYV s y.toInt := by
  have a1 := hx 1 (by omega); have a2 := hx 2 (by omega); have a3 := hx 3 (by omega); have a4 := hx 4 (by omega)
  have b1 := hy 1 (by omega); have b2 := hy 2 (by omega); have b3 := hy 3 (by omega); have b4 := hy 4 (by omega)
  have a0 := ox.1; have b0 := oy.1
  unfold KYV
  omega
theorem kyv_l (hx : SHQR s x.toInt.toNat) (hy : SHQR s y.toInt.toNat) (hw : shW s x.toInt.toNat = shW s y.toInt.toNat) (h : shE s x.toInt.toNat 0 < shE s y.toInt.toNat 0) : KYV s x.toInt < KYV s y.toInt := by
  have a1 := hx 1 (by omega); have a2 := hx 2 (by omega); have a3 := hx 3 (by omega); have a4 := hx 4 (by omega)
  have b1 := hy 1 (by omega); have b2 := hy 2 (by omega); have b3 := hy 3 (by omega); have b4 := hy 4 (by omega)
  unfold KYV
  omega
theorem kyv_i {i : Nat} (hx : SHQR s x.toInt.toNat) (hy : SHQR s y.toInt.toNat) (hw : shW s x.toInt.toNat = shW s y.toInt.toNat) (h0 : shE s x.toInt.toNat 0 = shE s y.toInt.toNat 0) (i1 : 1 ≤ i) (i4 : i ≤ 4) (hj : ∀ j : Nat, 1 ≤ j → j < i → shE s x.toInt.toNat j = shE s y.toInt.toNat j) (h : shE s x.toInt.toNat i < shE s y.toInt.toNat i) : KYV s x.toInt < KYV s y.toInt := by
  have a1 := hx 1 (by omega); have a2 := hx 2 (by omega); have a3 := hx 3 (by omega); have a4 := hx 4 (by omega)
  have b1 := hy 1 (by omega); have b2 := hy 2 (by omega); have b3 := hy 3 (by omega); have b4 := hy 4 (by omega)
  unfold KYV
  match i, i1, i4, hj, h with
  | 0, i1, _, _, _ => omega
  | 1, _, _, _, h => omega
  | 2, _, _, hj, h => have c1 := hj 1 (by omega) (by omega); omega
  | 3, _, _, hj, h => have c1 := hj 1 (by omega) (by omega); have c2 := hj 2 (by omega) (by omega); omega
  | 4, _, _, hj, h => have c1 := hj 1 (by omega) (by omega); have c2 := hj 2 (by omega) (by omega); have c3 := hj 3 (by omega) (by omega); omega
  | k + 5, _, i4, _, _ => omega
theorem kyv_e {i : Int} (ox : SOK s x.toInt.toNat) (oy : SOK s y.toInt.toNat) (hw : shW s x.toInt.toNat = shW s y.toInt.toNat) (h0 : shE s x.toInt.toNat 0 = shE s y.toInt.toNat 0) (hi : shE s x.toInt.toNat 0 < i) (hj : ∀ j : Nat, 1 ≤ j → (j : Int) < i → shE s x.toInt.toNat j = shE s y.toInt.toNat j) : KYV s x.toInt = KYV s y.toInt := by
  have e : ∀ j : Nat, 1 ≤ j → j ≤ 4 → shE s x.toInt.toNat j = shE s y.toInt.toNat j := fun j h1 h4 => by
    by_cases c : (j : Int) < i
    · exact hj j h1 c
    · rw [ox.2 j h4 (by omega), oy.2 j h4 (by omega)]
  have e1 := e 1 (by omega) (by omega)
  have e2 := e 2 (by omega) (by omega)
  have e3 := e 3 (by omega) (by omega)
  have e4 := e 4 (by omega) (by omega)
  unfold KYV
  omega
theorem iff_y {z : Int32} {P : Prop} (hz : z.toInt ≠ 0) (h : P) : z.toInt ≠ 0 ↔ P := ⟨fun _ => h, fun _ => hz⟩
theorem iff_n {z : Int32} {P : Prop} (hz : z.toInt = 0) (h : ¬ P) : z.toInt ≠ 0 ↔ P := ⟨fun k => absurd hz k, fun k => absurd k h⟩
end KY

/-! rows of places -/
def oi (f : Nat → Int32) (k : Nat) : Int := (f k).toInt
def PRI (f : Nat → Int32) (n : Nat) : Prop := ∀ v : Int, cn (oi f) v n = cn (fun k => (k : Int)) v n
def RNO (f : Nat → Int32) (n : Nat) : Prop := ∀ k : Nat, k < n → 0 ≤ (f k).toInt ∧ (f k).toInt < (n : Int)
def SOA (s : GS) : Prop := ∀ x : Nat, (x : Int) < (s.2.2.1 109 40).toInt → SOK s x
section OI
variable {s t : GS} {f g : Nat → Int32} {n sz j k : Nat} {z : Int32} {V : Int → Int} {L : FM}
theorem oi_at : oi (upd f j z) j = z.toInt := congrArg Int32.toInt ug_at
theorem oi_ne (h : k ≠ j) : oi (upd f j z) k = oi f k := congrArg Int32.toInt (ug_ne h)
theorem bls_x (h : BLS V (oi g) sz n) (e : ∀ k, k < n → f k = g k) : BLS V (oi f) sz n := fun m => srv_cg (h m) (fun i _ b => congrArg Int32.toInt (e i (by omega)))
theorem pri_x (h : PRI g n) (e : ∀ k, k < n → f k = g k) : PRI f n := fun v => (cn_eq n (fun i hi => congrArg Int32.toInt (e i hi))).trans (h v)
theorem rno_x (h : RNO g n) (e : ∀ k, k < n → f k = g k) : RNO f n := fun k hk => by rw [e k hk]; exact h k hk
theorem pri_0 (h : ∀ k : Nat, k < n → (f k).toInt = (k : Int)) : PRI f n := fun v => cn_eq n (fun i hi => h i hi)
theorem rno_0 (h : ∀ k : Nat, k < n → (f k).toInt = (k : Int)) : RNO f n := fun k hk => by have := h k hk; omega
theorem sok_fr {x : Nat} (h : SOK s x) (hF : Fr L s t) (hk : qI L.1 134 = true) : SOK t x := by
  unfold SOK shE at *
  rw [hF.1 134 hk]
  exact h
theorem kyv_fr {x : Int} (hF : Fr L s t) (hk : (qI L.1 134 && qI L.2.1 135) = true) : KYV t x = KYV s x := by
  rw [Bool.and_eq_true] at hk
  unfold KYV shE shW
  rw [hF.1 134 hk.1, hF.2.1 135 hk.2]
end OI
/-! DETERMINANTS -/
def dsk (i r : Nat) : Nat := if r < i then r else r + 1
def dsg (i : Nat) : Int := if i % 2 = 0 then 1 else -1
theorem dsg_s (i : Nat) : dsg (i + 1) = -dsg i := by
  unfold dsg
  by_cases c : i % 2 = 0
  · rw [if_pos c, if_neg (by omega)]
  · rw [if_neg c, if_pos (by omega)]
    rfl
theorem dsk_l {i r : Nat} (h : r < i) : dsk i r = r := if_pos h
theorem dsk_g {i r : Nat} (h : i ≤ r) : dsk i r = r + 1 := if_neg (by omega)
theorem dsk_lt {i r n : Nat} (h : r < n) : dsk i r < n + 1 := by
  unfold dsk
  split <;> omega
theorem dsk_ne {i r : Nat} : dsk i r ≠ i := by
  unfold dsk
  split <;> omega
def dtm : Nat → (Nat → Nat → Int) → Int
  | 0, _ => 1
  | n + 1, M => sm (fun i => dsg i * M i 0 * dtm n (fun r c => M (dsk i r) (c + 1))) (n + 1)
theorem dtm_s {n : Nat} {M : Nat → Nat → Int} : dtm (n + 1) M = sm (fun i => dsg i * M i 0 * dtm n (fun r c => M (dsk i r) (c + 1))) (n + 1) := rfl
theorem dtm_eq : ∀ (n : Nat) {M N : Nat → Nat → Int}, (∀ r c, r < n → c < n → M r c = N r c) → dtm n M = dtm n N
  | 0, _, _, _ => rfl
  | n + 1, M, N, h => by
    rw [dtm_s, dtm_s]
    refine sm_eq (n + 1) (fun i hi => ?_)
    rw [h i 0 hi (by omega), dtm_eq n (M := fun r c => M (dsk i r) (c + 1)) (N := fun r c => N (dsk i r) (c + 1)) (fun r c hr hc => h _ _ (dsk_lt hr) (by omega))]
/-! a row is linear -/
def rpl (M : Nat → Nat → Int) (r : Nat) (v : Nat → Int) : Nat → Nat → Int := fun i c => if i = r then v c else M i c
theorem rpl_e {M : Nat → Nat → Int} {r c : Nat} {v : Nat → Int} : rpl M r v r c = v c := if_pos rfl
theorem rpl_n {M : Nat → Nat → Int} {r i c : Nat} {v : Nat → Int} (h : i ≠ r) : rpl M r v i c = M i c := if_neg h
theorem sm_lin {f g : Nat → Int} {a b : Int} : ∀ n : Nat, sm (fun i => a * f i + b * g i) n = a * sm f n + b * sm g n
  | 0 => by
    show (0 : Int) = a * 0 + b * 0
    rw [Int.mul_zero, Int.mul_zero]
    rfl
  | n + 1 => by
    show sm (fun i => a * f i + b * g i) n + (a * f n + b * g n) = a * (sm f n + f n) + b * (sm g n + g n)
    rw [sm_lin n, Int.mul_add, Int.mul_add]
    omega
theorem dsm_k {f : Nat → Int} {a : Int} : ∀ n : Nat, sm (fun i => a * f i) n = a * sm f n
  | 0 => (Int.mul_zero a).symm
  | n + 1 => by
    show sm (fun i => a * f i) n + a * f n = a * (sm f n + f n)
    rw [dsm_k n, Int.mul_add]
theorem drg_1 {s a b x y : Int} : s * (a * x + b * y) = a * (s * x) + b * (s * y) := by
  rw [Int.mul_add, Int.mul_left_comm s a x, Int.mul_left_comm s b y]
theorem drg_2 {s a b u v d : Int} : s * (a * u + b * v) * d = a * (s * u * d) + b * (s * v * d) := by
  rw [drg_1, Int.add_mul, Int.mul_assoc a, Int.mul_assoc b]
def dsr (i r : Nat) : Nat := if r < i then r else r - 1
theorem dsk_iff {i r x : Nat} (h : i ≠ r) : dsk i x = r ↔ x = dsr i r := by
  unfold dsk dsr
  split <;> split <;> omega
theorem dsr_lt {i r n : Nat} (h : i ≠ r) (hi : i < n + 1) (hr : r < n + 1) : dsr i r < n := by
  unfold dsr
  split <;> omega
theorem rpl_min {M : Nat → Nat → Int} {i r : Nat} {v : Nat → Int} (h : i ≠ r) : (fun x c => rpl M r v (dsk i x) (c + 1)) = rpl (fun x c => M (dsk i x) (c + 1)) (dsr i r) (fun c => v (c + 1)) := by
  funext x c
  by_cases e : x = dsr i r
  · rw [(dsk_iff h).mpr e, rpl_e, e, rpl_e]
  · rw [rpl_n (fun k => e ((dsk_iff h).mp k)), rpl_n e]
theorem rpl_mis {M : Nat → Nat → Int} {r : Nat} {v : Nat → Int} : (fun x c => rpl M r v (dsk r x) (c + 1)) = (fun x c => M (dsk r x) (c + 1)) := by
  funext x c
  exact rpl_n dsk_ne
theorem dtm_lin : ∀ (n : Nat) {M : Nat → Nat → Int} {r : Nat} {u v : Nat → Int} {a b : Int}, r < n → dtm n (rpl M r (fun c => a * u c + b * v c)) = a * dtm n (rpl M r u) + b * dtm n (rpl M r v)
  | 0, _, _, _, _, _, _, h => by omega
  | n + 1, M, r, u, v, a, b, h => by
    rw [dtm_s, dtm_s, dtm_s, ← sm_lin]
    refine sm_eq (n + 1) (fun i hi => ?_)
    by_cases e : i = r
    · subst e
      show dsg i * rpl M i (fun c => a * u c + b * v c) i 0 * dtm n (fun x c => rpl M i (fun c => a * u c + b * v c) (dsk i x) (c + 1)) = a * (dsg i * rpl M i u i 0 * dtm n (fun x c => rpl M i u (dsk i x) (c + 1))) + b * (dsg i * rpl M i v i 0 * dtm n (fun x c => rpl M i v (dsk i x) (c + 1)))
      rw [rpl_mis, rpl_mis, rpl_mis, rpl_e, rpl_e, rpl_e]
      exact drg_2
    · show dsg i * rpl M r (fun c => a * u c + b * v c) i 0 * dtm n (fun x c => rpl M r (fun c => a * u c + b * v c) (dsk i x) (c + 1)) = a * (dsg i * rpl M r u i 0 * dtm n (fun x c => rpl M r u (dsk i x) (c + 1))) + b * (dsg i * rpl M r v i 0 * dtm n (fun x c => rpl M r v (dsk i x) (c + 1)))
      rw [rpl_min e, rpl_min e, rpl_min e, rpl_n e, rpl_n e, rpl_n e, dtm_lin n (dsr_lt e hi h)]
      exact drg_1
theorem dtm_add {n r : Nat} {M : Nat → Nat → Int} {u v : Nat → Int} (h : r < n) : dtm n (rpl M r (fun c => u c + v c)) = dtm n (rpl M r u) + dtm n (rpl M r v) := by
  have e := dtm_lin n (M := M) (u := u) (v := v) (a := 1) (b := 1) h
  rw [Int.one_mul, Int.one_mul] at e
  rw [← e]
  exact dtm_eq n (fun i c _ _ => by
    by_cases k : i = r
    · rw [k, rpl_e, rpl_e, Int.one_mul, Int.one_mul]
    · rw [rpl_n k, rpl_n k])
theorem dtm_mul {n r : Nat} {M : Nat → Nat → Int} {u : Nat → Int} {a : Int} (h : r < n) : dtm n (rpl M r (fun c => a * u c)) = a * dtm n (rpl M r u) := by
  have e := dtm_lin n (M := M) (u := u) (v := u) (a := a) (b := 0) h
  rw [Int.zero_mul, Int.add_zero] at e
  rw [← e]
  exact dtm_eq n (fun i c _ _ => by
    by_cases k : i = r
    · rw [k, rpl_e, rpl_e, Int.zero_mul, Int.add_zero]
    · rw [rpl_n k, rpl_n k])
theorem rpl_id {M : Nat → Nat → Int} {r : Nat} : rpl M r (M r) = M := by
  funext i c
  by_cases k : i = r
  · rw [k, rpl_e]
  · rw [rpl_n k]
theorem dtm_zr {n r : Nat} {M : Nat → Nat → Int} (h : r < n) (hz : ∀ c, c < n → M r c = 0) : dtm n M = 0 := by
  have e := dtm_mul (n := n) (M := M) (u := M r) (a := 0) h
  rw [Int.zero_mul] at e
  rw [← e]
  exact dtm_eq n (fun i c _ hc => by
    by_cases k : i = r
    · rw [k, rpl_e, Int.zero_mul, hz c hc]
    · rw [rpl_n k])
/-! equal rows -/
theorem sm_two {f : Nat → Int} {r : Nat} (h2 : f r + f (r + 1) = 0) : ∀ m : Nat, (∀ k, k < r + 2 + m → k ≠ r → k ≠ r + 1 → f k = 0) → sm f (r + 2 + m) = 0
  | 0, h => by
    show sm f r + f r + f (r + 1) = 0
    rw [sm_0 r (fun k hk => h k (by omega) (by omega) (by omega))]
    omega
  | m + 1, h => by
    show sm f (r + 2 + m) + f (r + 2 + m) = 0
    rw [sm_two h2 m (fun k hk a b => h k (by omega) a b), h (r + 2 + m) (by omega) (by omega) (by omega)]
    rfl
theorem dtm_adj : ∀ (n : Nat) {M : Nat → Nat → Int} {r : Nat}, r + 1 < n → (∀ c, c < n → M r c = M (r + 1) c) → dtm n M = 0
  | 0, _, _, h, _ => by omega
  | n + 1, M, r, h, he => by
    obtain ⟨m, hm⟩ : ∃ m, n + 1 = r + 2 + m := ⟨n + 1 - (r + 2), by omega⟩
    rw [dtm_s, hm]
    refine sm_two ?_ m (fun k hk a b => ?_)
    · show dsg r * M r 0 * dtm n (fun x c => M (dsk r x) (c + 1)) + dsg (r + 1) * M (r + 1) 0 * dtm n (fun x c => M (dsk (r + 1) x) (c + 1)) = 0
      have e : dtm n (fun x c => M (dsk r x) (c + 1)) = dtm n (fun x c => M (dsk (r + 1) x) (c + 1)) := dtm_eq n (fun x c hx hc => by
        by_cases k : x = r
        · rw [k, dsk_g (Nat.le_refl r), dsk_l (Nat.lt_succ_self r)]
          exact (he (c + 1) (by omega)).symm
        · rw [show dsk r x = dsk (r + 1) x by unfold dsk; split <;> split <;> omega])
      rw [e, dsg_s, he 0 (by omega), Int.neg_mul, Int.neg_mul]
      omega
    · show dsg k * M k 0 * dtm n (fun x c => M (dsk k x) (c + 1)) = 0
      have e : dtm n (fun x c => M (dsk k x) (c + 1)) = 0 := by
        by_cases c : k < r
        · refine dtm_adj n (r := r - 1) (by omega) (fun j hj => ?_)
          show M (dsk k (r - 1)) (j + 1) = M (dsk k (r - 1 + 1)) (j + 1)
          rw [dsk_g (show k ≤ r - 1 by omega), dsk_g (show k ≤ r - 1 + 1 by omega), show r - 1 + 1 = r by omega]
          exact he (j + 1) (by omega)
        · refine dtm_adj n (r := r) (by omega) (fun j hj => ?_)
          show M (dsk k r) (j + 1) = M (dsk k (r + 1)) (j + 1)
          rw [dsk_l (show r < k by omega), dsk_l (show r + 1 < k by omega)]
          exact he (j + 1) (by omega)
      rw [e, Int.mul_zero]
theorem rpl_cm {M : Nat → Nat → Int} {i j : Nat} {x y : Nat → Int} (h : i ≠ j) : rpl (rpl M i x) j y = rpl (rpl M j y) i x := by
  funext k c
  by_cases a : k = i
  · rw [a, rpl_n h, rpl_e, rpl_e]
  · by_cases b : k = j
    · rw [b, rpl_e, rpl_n (fun z => h z.symm), rpl_e]
    · rw [rpl_n b, rpl_n a, rpl_n a, rpl_n b]
theorem dtm_swp {n i j : Nat} (hi : i < n) (hj : j < n) (hij : i ≠ j) (alt : ∀ M : Nat → Nat → Int, (∀ c, c < n → M i c = M j c) → dtm n M = 0) (M : Nat → Nat → Int) (u v : Nat → Int) : dtm n (rpl (rpl M i v) j u) = -dtm n (rpl (rpl M i u) j v) := by
  have az : ∀ x : Nat → Int, dtm n (rpl (rpl M i x) j x) = 0 := fun x => alt _ (fun c _ => by rw [rpl_n hij, rpl_e, rpl_e])
  have e := az (fun c => u c + v c)
  rw [dtm_add hj, rpl_cm hij, rpl_cm hij, dtm_add hi, dtm_add hi, ← rpl_cm hij, ← rpl_cm hij, ← rpl_cm hij, ← rpl_cm hij, az u, az v] at e
  omega
theorem dtm_alt : ∀ (d n : Nat) {M : Nat → Nat → Int} {i : Nat}, i + d + 1 < n → (∀ c, c < n → M i c = M (i + d + 1) c) → dtm n M = 0
  | 0, n, M, i, h, he => dtm_adj n h he
  | d + 1, n, M, i, h, he => by
    have sw := dtm_swp (n := n) (i := i + d + 1) (j := i + d + 2) (by omega) (by omega) (by omega) (fun N hN => dtm_adj n (by omega) hN) M (M (i + d + 1)) (M (i + d + 2))
    have z : dtm n (rpl (rpl M (i + d + 1) (M (i + d + 2))) (i + d + 2) (M (i + d + 1))) = 0 := dtm_alt d n (i := i) (by omega) (fun c hc => by
      rw [rpl_n (show i ≠ i + d + 2 by omega), rpl_n (show i ≠ i + d + 1 by omega), rpl_n (show i + d + 1 ≠ i + d + 2 by omega), rpl_e]
      exact he c hc)
    have id : rpl (rpl M (i + d + 1) (M (i + d + 1))) (i + d + 2) (M (i + d + 2)) = M := by
      rw [rpl_id]
      exact rpl_id
    rw [z, id] at sw
    omega
theorem dtm_al {n i j : Nat} {M : Nat → Nat → Int} (hij : i < j) (hj : j < n) (he : ∀ c, c < n → M i c = M j c) : dtm n M = 0 := by
  obtain ⟨d, rfl⟩ : ∃ d, j = i + d + 1 := ⟨j - i - 1, by omega⟩
  exact dtm_alt d n hj he
/-! elimination -/
theorem dtm_ra {n r : Nat} {M : Nat → Nat → Int} {t : Int} (h0 : 0 < r) (hr : r < n) : dtm n (rpl M r (fun c => M r c + t * M 0 c)) = dtm n M := by
  rw [dtm_add hr, dtm_mul hr, rpl_id, dtm_al (i := 0) (j := r) (M := rpl M r (M 0)) h0 hr (fun c _ => by rw [rpl_n (by omega), rpl_e]), Int.mul_zero, Int.add_zero]
def elm (M : Nat → Nat → Int) (t : Nat → Int) (k : Nat) : Nat → Nat → Int := fun i c => if 0 < i ∧ i < k then M i c + t i * M 0 c else M i c
theorem elm_d {M : Nat → Nat → Int} {t : Nat → Int} {n : Nat} : ∀ k : Nat, k ≤ n → dtm n (elm M t k) = dtm n M
  | 0, _ => dtm_eq n (fun i c _ _ => if_neg (by omega))
  | k + 1, h => by
    refine Eq.trans ?_ (elm_d (M := M) (t := t) (n := n) k (by omega))
    by_cases z : k = 0
    · subst z
      exact dtm_eq n (fun i c _ _ => by
        show (if 0 < i ∧ i < 0 + 1 then _ else M i c) = (if 0 < i ∧ i < 0 then _ else M i c)
        rw [if_neg (by omega), if_neg (by omega)])
    · rw [← dtm_ra (M := elm M t k) (t := t k) (show 0 < k by omega) (show k < n by omega)]
      refine dtm_eq n (fun i c _ _ => ?_)
      by_cases e : i = k
      · rw [e, rpl_e]
        show (if 0 < k ∧ k < k + 1 then M k c + t k * M 0 c else M k c) = (if 0 < k ∧ k < k then M k c + t k * M 0 c else M k c) + t k * (if 0 < 0 ∧ 0 < k then M 0 c + t 0 * M 0 c else M 0 c)
        rw [if_pos (by omega), if_neg (by omega), if_neg (by omega)]
      · rw [rpl_n e]
        show (if 0 < i ∧ i < k + 1 then M i c + t i * M 0 c else M i c) = (if 0 < i ∧ i < k then M i c + t i * M 0 c else M i c)
        by_cases q : 0 < i ∧ i < k
        · rw [if_pos q, if_pos (by omega)]
        · rw [if_neg q, if_neg (by omega)]
/-! modulo the prime -/
def MC (a b : Int) : Prop := a % 1000000007 = b % 1000000007
theorem mc_r {a : Int} : MC a a := rfl
theorem mc_t {a b c : Int} (h : MC a b) (k : MC b c) : MC a c := Eq.trans h k
theorem mc_y {a b : Int} (h : MC a b) : MC b a := Eq.symm h
theorem mc_a {a b c d : Int} (h : MC a b) (k : MC c d) : MC (a + c) (b + d) := by
  unfold MC at *
  omega
theorem mc_n {a b : Int} (h : MC a b) : MC (-a) (-b) := by
  unfold MC at *
  omega
theorem mc_m {a b c d : Int} (h : MC a b) (k : MC c d) : MC (a * c) (b * d) := by
  unfold MC at *
  rw [Int.mul_emod a c, h, k, ← Int.mul_emod]
theorem mc_0 {a : Int} (h : MC a 0) : ∃ k, a = 1000000007 * k := by
  unfold MC at h
  exact ⟨a / 1000000007, by omega⟩
theorem mc_sm {f g : Nat → Int} : ∀ n : Nat, (∀ i, i < n → MC (f i) (g i)) → MC (sm f n) (sm g n)
  | 0, _ => rfl
  | n + 1, h => mc_a (mc_sm n (fun i hi => h i (by omega))) (h n (by omega))
theorem mc_d : ∀ (n : Nat) {M N : Nat → Nat → Int}, (∀ r c, r < n → c < n → MC (M r c) (N r c)) → MC (dtm n M) (dtm n N)
  | 0, _, _, _ => rfl
  | n + 1, M, N, h => by
    rw [dtm_s, dtm_s]
    refine mc_sm (n + 1) (fun i hi => mc_m (mc_m mc_r (h i 0 hi (by omega))) (mc_d n (fun r c hr hc => h _ _ (dsk_lt hr) (by omega))))
theorem mc_s0 {f : Nat → Int} : ∀ n : Nat, (∀ i, 0 < i → i < n + 1 → MC (f i) 0) → MC (sm f (n + 1)) (f 0)
  | 0, _ => by
    show MC (0 + f 0) (f 0)
    rw [Int.zero_add]
    exact mc_r
  | n + 1, h => by
    have a := mc_a (mc_s0 n (fun i h0 hi => h i h0 (by omega))) (h (n + 1) (by omega) (by omega))
    rw [Int.add_zero] at a
    exact a
theorem mc_c0 {n : Nat} {M : Nat → Nat → Int} (h : ∀ i, 0 < i → i < n + 1 → MC (M i 0) 0) : MC (dtm (n + 1) M) (M 0 0 * dtm n (fun r c => M (r + 1) (c + 1))) := by
  rw [dtm_s]
  have a := mc_s0 (f := fun i => dsg i * M i 0 * dtm n (fun r c => M (dsk i r) (c + 1))) n (fun i h0 hi => by
    have q := mc_m (mc_m (mc_r (a := dsg i)) (h i h0 hi)) (mc_r (a := dtm n (fun r c => M (dsk i r) (c + 1))))
    rw [Int.mul_zero, Int.zero_mul] at q
    exact q)
  refine mc_t a ?_
  show MC (1 * M 0 0 * dtm n (fun r c => M (dsk 0 r) (c + 1))) _
  rw [Int.one_mul]
  exact mc_r
/-- one step: row r becomes the first, the column below it is cleared -/
def dsw (M : Nat → Nat → Int) (r : Nat) : Nat → Nat → Int := if r = 0 then M else rpl (rpl M 0 (M r)) r (M 0)
theorem dsw_d {n r : Nat} {M : Nat → Nat → Int} (hr : r < n + 1) : dtm (n + 1) (dsw M r) = (if r = 0 then 1 else -1) * dtm (n + 1) M := by
  unfold dsw
  by_cases c : r = 0
  · rw [if_pos c, if_pos c, Int.one_mul]
  · rw [if_neg c, if_neg c]
    have s := dtm_swp (n := n + 1) (i := 0) (j := r) (by omega) hr (by omega) (fun N hN => dtm_al (by omega) hr hN) M (M 0) (M r)
    rw [s, rpl_id, rpl_id]
    omega
theorem dsw_0 {r c : Nat} {M : Nat → Nat → Int} : dsw M r 0 c = M r c := by
  unfold dsw
  by_cases k : r = 0
  · rw [if_pos k, k]
  · rw [if_neg k, rpl_n (fun e => k e.symm), rpl_e]
theorem dtm_piv {n r : Nat} {M N : Nat → Nat → Int} {t : Nat → Int} (hr : r < n + 1) (hz : ∀ i, 0 < i → i < n + 1 → MC (dsw M r i 0 + t i * M r 0) 0) (hN : ∀ i c, i < n → c < n → MC (N i c) (dsw M r (i + 1) (c + 1) + t (i + 1) * M r (c + 1))) : MC (dtm (n + 1) M) ((if r = 0 then 1 else -1) * M r 0 * dtm n N) := by
  have e := elm_d (M := dsw M r) (t := t) (n := n + 1) (n + 1) (Nat.le_refl _)
  have ev : ∀ i c, 0 < i → i < n + 1 → elm (dsw M r) t (n + 1) i c = dsw M r i c + t i * M r c := fun i c h0 hi => by
    show (if 0 < i ∧ i < n + 1 then _ else _) = _
    rw [if_pos ⟨h0, hi⟩, dsw_0]
  have a := mc_c0 (n := n) (M := elm (dsw M r) t (n + 1)) (fun i h0 hi => by rw [ev i 0 h0 hi]; exact hz i h0 hi)
  rw [e, dsw_d hr, show elm (dsw M r) t (n + 1) 0 0 = M r 0 from (if_neg (by omega)).trans dsw_0] at a
  have b : MC (dtm n (fun x c => elm (dsw M r) t (n + 1) (x + 1) (c + 1))) (dtm n N) := mc_d n (fun i c hi hc => by
    show MC (elm (dsw M r) t (n + 1) (i + 1) (c + 1)) (N i c)
    rw [ev _ _ (by omega) (by omega)]
    exact mc_y (hN i c hi hc))
  have s : (if r = 0 then (1 : Int) else -1) * (if r = 0 then 1 else -1) = 1 := by split <;> rfl
  have k := mc_m (mc_r (a := (if r = 0 then (1 : Int) else -1))) (mc_t a (mc_m mc_r b))
  rw [← Int.mul_assoc, s, Int.one_mul, ← Int.mul_assoc] at k
  exact k
/-! POWERS AND THE PRIME -/
def pwr (x : Int) : Nat → Int
  | 0 => 1
  | n + 1 => pwr x n * x
theorem pwr_a {x : Int} (m : Nat) : ∀ n : Nat, pwr x (m + n) = pwr x m * pwr x n
  | 0 => by
    show pwr x m = pwr x m * 1
    rw [Int.mul_one]
  | n + 1 => by
    show pwr x (m + n) * x = pwr x m * (pwr x n * x)
    rw [pwr_a m n, Int.mul_assoc]
theorem pwr_q {x : Int} : ∀ n : Nat, pwr (x * x) n = pwr x (2 * n)
  | 0 => rfl
  | n + 1 => by
    rw [show 2 * (n + 1) = 2 * n + 1 + 1 by omega]
    show pwr (x * x) n * (x * x) = pwr x (2 * n) * x * x
    rw [pwr_q n, Int.mul_assoc]
theorem mc_pw {x y : Int} (h : MC x y) : ∀ n : Nat, MC (pwr x n) (pwr y n)
  | 0 => mc_r
  | n + 1 => mc_m (mc_pw h n) h
theorem pwr_0 : ∀ n : Nat, 0 < n → pwr 0 n = 0
  | 0, h => by omega
  | n + 1, _ => Int.mul_zero _
def bic : Nat → Nat → Nat
  | _, 0 => 1
  | 0, _ + 1 => 0
  | n + 1, k + 1 => bic n k + bic n (k + 1)
theorem bic_0 (n : Nat) : bic n 0 = 1 := by cases n <;> rfl
theorem bic_g : ∀ n k : Nat, n < k → bic n k = 0
  | _, 0, h => by omega
  | 0, _ + 1, _ => rfl
  | n + 1, k + 1, h => by
    show bic n k + bic n (k + 1) = 0
    rw [bic_g n k (by omega), bic_g n (k + 1) (by omega)]
theorem bic_n : ∀ n : Nat, bic n n = 1
  | 0 => rfl
  | n + 1 => by
    show bic n n + bic n (n + 1) = 1
    rw [bic_n n, bic_g n (n + 1) (by omega)]
theorem bic_a : ∀ n k : Nat, (k + 1) * bic (n + 1) (k + 1) = (n + 1) * bic n k
  | 0, 0 => rfl
  | 0, k + 1 => by
    show (k + 1 + 1) * (bic 0 (k + 1) + bic 0 (k + 1 + 1)) = (0 + 1) * bic 0 (k + 1)
    rw [bic_g 0 (k + 1) (by omega), bic_g 0 (k + 1 + 1) (by omega)]
    rfl
  | n + 1, 0 => by
    have e := bic_a n 0
    rw [bic_0] at e
    show (0 + 1) * (bic (n + 1) 0 + bic (n + 1) (0 + 1)) = (n + 1 + 1) * bic (n + 1) 0
    rw [bic_0]
    omega
  | n + 1, k + 1 => by
    have e1 := bic_a n k
    have e2 := bic_a n (k + 1)
    have p : bic (n + 1) (k + 1) = bic n k + bic n (k + 1) := rfl
    show (k + 1 + 1) * (bic (n + 1) (k + 1) + bic (n + 1) (k + 1 + 1)) = (n + 1 + 1) * bic (n + 1) (k + 1)
    have d1 : (k + 1 + 1) * (bic (n + 1) (k + 1) + bic (n + 1) (k + 1 + 1)) = (k + 1) * bic (n + 1) (k + 1) + bic (n + 1) (k + 1) + (k + 1 + 1) * bic (n + 1) (k + 1 + 1) := by
      rw [Nat.mul_add, Nat.succ_mul (k + 1)]
    have d2 : (n + 1 + 1) * bic (n + 1) (k + 1) = (n + 1) * bic n k + (n + 1) * bic n (k + 1) + bic (n + 1) (k + 1) := by
      rw [Nat.succ_mul (n + 1), p, Nat.mul_add]
    rw [d1, d2, e1, e2]
    omega
theorem sm_sh {f : Nat → Int} : ∀ n : Nat, sm f (n + 1) = f 0 + sm (fun k => f (k + 1)) n
  | 0 => by
    show 0 + f 0 = f 0 + 0
    omega
  | n + 1 => by
    show sm f (n + 1) + f (n + 1) = f 0 + (sm (fun k => f (k + 1)) n + f (n + 1))
    rw [sm_sh n]
    omega
theorem bic_t {a : Int} : ∀ n : Nat, pwr (a + 1) n = sm (fun k => (bic n k : Int) * pwr a k) (n + 1)
  | 0 => rfl
  | n + 1 => by
    have ih := bic_t (a := a) n
    have s1 : sm (fun k => (bic (n + 1) k : Int) * pwr a k) (n + 1 + 1) = 1 + sm (fun k => (bic n k : Int) * pwr a k * a + (bic n (k + 1) : Int) * pwr a (k + 1)) (n + 1) := by
      rw [sm_sh (n + 1)]
      show ((bic (n + 1) 0 : Nat) : Int) * 1 + _ = _
      rw [bic_0]
      refine congrArg (fun z => (1 : Int) + z) (sm_eq (n + 1) (fun k _ => ?_))
      show ((bic n k + bic n (k + 1) : Nat) : Int) * (pwr a k * a) = (bic n k : Int) * pwr a k * a + (bic n (k + 1) : Int) * (pwr a k * a)
      rw [Int.natCast_add, Int.add_mul, Int.mul_assoc]
    have s2 : sm (fun k => (bic n k : Int) * pwr a k * a + (bic n (k + 1) : Int) * pwr a (k + 1)) (n + 1) = sm (fun k => (bic n k : Int) * pwr a k * a) (n + 1) + sm (fun k => (bic n (k + 1) : Int) * pwr a (k + 1)) (n + 1) := sm_add (n + 1)
    have s3 : sm (fun k => (bic n k : Int) * pwr a k) (n + 1 + 1) = 1 + sm (fun k => (bic n (k + 1) : Int) * pwr a (k + 1)) (n + 1) := by
      rw [sm_sh (n + 1)]
      show ((bic n 0 : Nat) : Int) * 1 + _ = _
      rw [bic_0]
      rfl
    have s4 : sm (fun k => (bic n k : Int) * pwr a k) (n + 1 + 1) = sm (fun k => (bic n k : Int) * pwr a k) (n + 1) := by
      show sm (fun k => (bic n k : Int) * pwr a k) (n + 1) + (bic n (n + 1) : Int) * pwr a (n + 1) = _
      rw [bic_g n (n + 1) (by omega)]
      show _ + (0 : Int) * _ = _
      rw [Int.zero_mul, Int.add_zero]
    have s5 : ∀ m : Nat, sm (fun k => (bic n k : Int) * pwr a k * a) m = sm (fun k => (bic n k : Int) * pwr a k) m * a := fun m => by
      induction m with
      | zero => exact (Int.zero_mul a).symm
      | succ m im =>
        show sm (fun k => (bic n k : Int) * pwr a k * a) m + (bic n m : Int) * pwr a m * a = (sm (fun k => (bic n k : Int) * pwr a k) m + (bic n m : Int) * pwr a m) * a
        rw [im, Int.add_mul]
    show pwr (a + 1) n * (a + 1) = _
    rw [s1, s2, s5, ih, Int.mul_add, Int.mul_one]
    omega
theorem fer_n {p : Nat} (hp : (p : Int) = 1000000007) (hc : ∀ k, 0 < k → k < p → Nat.Coprime p k) : ∀ a : Nat, MC (pwr (a : Int) p) (a : Int)
  | 0 => by
    rw [show ((0 : Nat) : Int) = 0 from rfl, pwr_0 p (by omega)]
    exact mc_r
  | a + 1 => by
    obtain ⟨q, rfl⟩ : ∃ q, p = q + 1 := ⟨p - 1, by omega⟩
    rw [show ((a + 1 : Nat) : Int) = (a : Int) + 1 from Int.natCast_add a 1, bic_t]
    show MC (sm (fun k => (bic (q + 1) k : Int) * pwr (a : Int) k) (q + 1) + (bic (q + 1) (q + 1) : Int) * pwr (a : Int) (q + 1)) _
    have z := mc_s0 (f := fun k => (bic (q + 1) k : Int) * pwr (a : Int) k) q (fun k h0 hk => by
      have d : q + 1 ∣ bic (q + 1) k := by
        obtain ⟨j, rfl⟩ : ∃ j, k = j + 1 := ⟨k - 1, by omega⟩
        exact Nat.Coprime.dvd_of_dvd_mul_left (hc (j + 1) h0 hk) ⟨bic q j, bic_a q j⟩
      obtain ⟨m, hm⟩ := d
      show MC ((bic (q + 1) k : Int) * pwr (a : Int) k) 0
      rw [hm, Int.natCast_mul, hp, Int.mul_assoc]
      unfold MC
      omega)
    have y := mc_a z (mc_m (mc_r (a := ((bic (q + 1) (q + 1) : Nat) : Int))) (fer_n hp hc a))
    refine mc_t y ?_
    rw [bic_n]
    show MC (((bic (q + 1) 0 : Nat) : Int) * 1 + 1 * (a : Int)) ((a : Int) + 1)
    rw [bic_0, Int.one_mul]
    show MC (1 * 1 + (a : Int)) ((a : Int) + 1)
    rw [Int.add_comm]
    exact mc_r
/-! the prime -/
noncomputable def dti (b N : Nat) : Bool := Nat.rec true (fun n ih => bif Nat.beq (1000000007 % (b + n)) 0 then false else ih) N
noncomputable def dto (N : Nat) : Bool := Nat.rec true (fun m ih => bif dti (100 * m + 2) 100 then ih else false) N
theorem dti_ok {b : Nat} : ∀ N : Nat, dti b N = true → ∀ n, n < N → 1000000007 % (b + n) ≠ 0
  | 0, _, n, h => by omega
  | N + 1, h, n, hn => by
    have h2 : (bif Nat.beq (1000000007 % (b + N)) 0 then false else dti b N) = true := h
    cases c : Nat.beq (1000000007 % (b + N)) 0 with
    | true =>
      rw [c] at h2
      cases h2
    | false =>
      rw [c] at h2
      by_cases e : n = N
      · rw [e]
        intro z
        rw [z] at c
        cases c
      · exact dti_ok N h2 n (by omega)
theorem dto_ok : ∀ N : Nat, dto N = true → ∀ d, 2 ≤ d → d < 100 * N + 2 → 1000000007 % d ≠ 0
  | 0, _, d, h, k => by omega
  | N + 1, h, d, hd, hn => by
    have h2 : (bif dti (100 * N + 2) 100 then dto N else false) = true := h
    cases c : dti (100 * N + 2) 100 with
    | false =>
      rw [c] at h2
      cases h2
    | true =>
      rw [c] at h2
      by_cases e : d < 100 * N + 2
      · exact dto_ok N h2 d hd e
      · have q := dti_ok 100 c (d - (100 * N + 2)) (by omega)
        rw [show 100 * N + 2 + (d - (100 * N + 2)) = d by omega] at q
        exact q
theorem dto_p : dto 317 = true := by decide +kernel
theorem prm_c (k : Nat) (h0 : 0 < k) (hk : k < 1000000007) : Nat.Coprime 1000000007 k := by
  show Nat.gcd 1000000007 k = 1
  have d1 : Nat.gcd 1000000007 k ∣ 1000000007 := Nat.gcd_dvd_left _ _
  have g0 : 0 < Nat.gcd 1000000007 k := Nat.gcd_pos_of_pos_right _ h0
  have gk : Nat.gcd 1000000007 k ≤ k := Nat.gcd_le_right _ h0
  generalize Nat.gcd 1000000007 k = g at *
  refine Classical.byContradiction fun ne => ?_
  obtain ⟨m, hm⟩ := d1
  have sm1 : ∀ d e : Nat, 1000000007 = d * e → 1 < d → d < 31702 → False := fun d e h h1 h2 => dto_ok 317 dto_p d (by omega) (by omega) (by
    rw [h]
    exact Nat.mul_mod_right d e)
  by_cases c : g < 31702
  · exact sm1 g m hm (by omega) c
  · by_cases c2 : m < 31702
    · have m1 : 1 < m := by
        rcases m with _ | _ | m
        · omega
        · omega
        · omega
      exact sm1 m g (by rw [Nat.mul_comm]; exact hm) m1 c2
    · have b := Nat.mul_le_mul (show 31702 ≤ g by omega) (show 31702 ≤ m by omega)
      rw [← hm] at b
      exact absurd b (by decide)
theorem mc_tn (x : Int) : MC x (((x % 1000000007).toNat : Nat) : Int) := by
  unfold MC
  omega
theorem mc_can {x y : Int} (hx : ¬ MC x 0) (h : MC (x * y) 0) : MC y 0 := by
  have e := mc_t (mc_y (mc_m (mc_tn x) (mc_tn y))) h
  rw [← Int.natCast_mul] at e
  have a0 : 0 < (x % 1000000007).toNat := by
    unfold MC at hx
    omega
  have ap : (x % 1000000007).toNat < 1000000007 := by omega
  have bp : (y % 1000000007).toNat < 1000000007 := by omega
  have d : 1000000007 ∣ (x % 1000000007).toNat * (y % 1000000007).toNat := by
    unfold MC at e
    exact Nat.dvd_of_mod_eq_zero (by omega)
  have d2 : 1000000007 ∣ (y % 1000000007).toNat := Nat.Coprime.dvd_of_dvd_mul_left (prm_c _ a0 ap) d
  have z : (y % 1000000007).toNat = 0 := Nat.eq_zero_of_dvd_of_lt d2 bp
  unfold MC
  omega
theorem fer_i {p : Nat} (hp : (p : Int) = 1000000007) (x : Int) : MC (pwr x p) x := by
  have hc : ∀ k, 0 < k → k < p → Nat.Coprime p k := fun k h0 hk => by
    have e : p = 1000000007 := by omega
    subst e
    exact prm_c k h0 hk
  exact mc_t (mc_pw (mc_tn x) p) (mc_t (fer_n hp hc _) (mc_y (mc_tn x)))
theorem inv_m {p e : Nat} (hp : (p : Int) = 1000000007) (he : p = e + 2) {x : Int} (hx : ¬ MC x 0) : MC (x * pwr x e) 1 := by
  have f := fer_i hp x
  rw [he] at f
  have f2 : MC (pwr x e * x * x) x := f
  have g : MC (x * (x * pwr x e + -1)) 0 := by
    rw [Int.mul_add, show x * (x * pwr x e) = pwr x e * x * x by rw [Int.mul_comm x (x * pwr x e), Int.mul_comm x (pwr x e)]]
    have k := mc_a f2 (mc_r (a := x * -1))
    refine mc_t k ?_
    rw [show x + x * -1 = 0 by omega]
    exact mc_r
  have c := mc_a (mc_can hx g) (mc_r (a := 1))
  rw [show x * pwr x e + -1 + 1 = x * pwr x e by omega, Int.zero_add] at c
  exact c
theorem inv_x {x : Int} (hx : ¬ MC x 0) : ∃ w, MC (x * w) 1 := by
  obtain ⟨p, hp⟩ : ∃ p : Nat, p = 1000000007 := ⟨_, rfl⟩
  exact ⟨pwr x (p - 2), inv_m (p := p) (by omega) (by omega) hx⟩
/-! all rows sum up to nothing -/
theorem mc_cz {n : Nat} {M : Nat → Nat → Int} (h : ∀ i, i < n + 1 → MC (M i 0) 0) : MC (dtm (n + 1) M) 0 := by
  have a := mc_c0 (n := n) (M := M) (fun i _ hi => h i hi)
  have b := mc_m (h 0 (by omega)) (mc_r (a := dtm n (fun r c => M (r + 1) (c + 1))))
  rw [Int.zero_mul] at b
  exact mc_t a b
theorem dsw_r {n r : Nat} {M : Nat → Nat → Int} (hr : r < n) {Q : (Nat → Int) → Prop} (h : ∀ i, i < n → Q (M i)) : ∀ i, i < n → Q (dsw M r i) := fun i hi => by
  by_cases k : r = 0
  · have e : dsw M r = M := if_pos k
    rw [e]
    exact h i hi
  · have e : dsw M r = rpl (rpl M 0 (M r)) r (M 0) := if_neg k
    by_cases a : i = r
    · have e2 : dsw M r i = M 0 := by
        rw [e, a]
        funext c
        exact rpl_e
      rw [e2]
      exact h 0 (by omega)
    · by_cases b : i = 0
      · have e2 : dsw M r i = M r := by
          rw [e, b]
          funext c
          rw [rpl_n (by omega), rpl_e]
        rw [e2]
        exact h r hr
      · have e2 : dsw M r i = M i := by
          rw [e]
          funext c
          rw [rpl_n a, rpl_n b]
        rw [e2]
        exact h i hi
theorem dtm_z : ∀ (n : Nat) {M : Nat → Nat → Int}, (∀ i, i < n + 1 → MC (sm (M i) (n + 1)) 0) → MC (dtm (n + 1) M) 0
  | 0, M, h => mc_cz (fun i hi => by
    have q := h i hi
    have e : sm (M i) (0 + 1) = 0 + M i 0 := rfl
    rw [e, Int.zero_add] at q
    exact q)
  | n + 1, M, h => by
    by_cases c : ∀ i, i < n + 2 → MC (M i 0) 0
    · exact mc_cz c
    · obtain ⟨r, hr, hn⟩ : ∃ r, r < n + 2 ∧ ¬ MC (M r 0) 0 := Classical.byContradiction fun z => c (fun i hi => Classical.byContradiction fun y => z ⟨i, hi, y⟩)
      obtain ⟨w, hw⟩ := inv_x hn
      have hs : ∀ i, i < n + 2 → MC (sm (dsw M r i) (n + 2)) 0 := dsw_r (Q := fun v => MC (sm v (n + 2)) 0) hr h
      have z0 : ∀ i, MC (dsw M r i 0 + -(dsw M r i 0 * w) * M r 0) 0 := fun i => by
        have k := mc_m (mc_r (a := -(dsw M r i 0))) hw
        have e : -(dsw M r i 0 * w) * M r 0 = -(dsw M r i 0) * (M r 0 * w) := by
          rw [Int.neg_mul, Int.neg_mul, Int.mul_assoc, Int.mul_comm w]
        rw [e]
        refine mc_t (mc_a mc_r k) ?_
        rw [Int.mul_one, show dsw M r i 0 + -(dsw M r i 0) = 0 by omega]
        exact mc_r
      have p := dtm_piv (n := n + 1) (M := M) (N := fun i c => dsw M r (i + 1) (c + 1) + -(dsw M r (i + 1) 0 * w) * M r (c + 1)) (t := fun i => -(dsw M r i 0 * w)) hr (fun i _ _ => z0 i) (fun i c _ _ => mc_r)
      have q := dtm_z n (M := fun i c => dsw M r (i + 1) (c + 1) + -(dsw M r (i + 1) 0 * w) * M r (c + 1)) (fun i hi => by
        have e : sm (fun c => dsw M r (i + 1) (c + 1) + -(dsw M r (i + 1) 0 * w) * M r (c + 1)) (n + 1) = sm (fun c => dsw M r (i + 1) (c + 1)) (n + 1) + -(dsw M r (i + 1) 0 * w) * sm (fun c => M r (c + 1)) (n + 1) := by
          have l := sm_lin (f := fun c => dsw M r (i + 1) (c + 1)) (g := fun c => M r (c + 1)) (a := 1) (b := -(dsw M r (i + 1) 0 * w)) (n + 1)
          rw [Int.one_mul] at l
          rw [← l]
          exact sm_eq (n + 1) (fun k _ => by rw [Int.one_mul])
        rw [e]
        have s1 := hs (i + 1) (by omega)
        have s2 := h r hr
        rw [sm_sh (n + 1)] at s1 s2
        have s3 := mc_a s1 (mc_m (mc_r (a := -(dsw M r (i + 1) 0 * w))) s2)
        rw [Int.mul_zero, Int.add_zero, Int.mul_add] at s3
        have s4 := mc_a s3 (mc_n (z0 (i + 1)))
        rw [Int.neg_zero, Int.add_zero] at s4
        refine mc_t ?_ s4
        unfold MC
        refine congrArg (fun z => z % 1000000007) ?_
        omega)
      have k := mc_m (mc_r (a := (if r = 0 then 1 else -1) * M r 0)) q
      rw [Int.mul_zero] at k
      exact mc_t p k
/-! a Laplacian's minors -/
def eun (k c : Nat) : Int := if c = k then 1 else 0
theorem dtm_la : ∀ (n : Nat) {M : Nat → Nat → Int}, (∀ c, c < n → M n c = 0) → M n n = 1 → dtm (n + 1) M = dtm n M
  | 0, M, _, h => by
    show 0 + 1 * M 0 0 * 1 = 1
    rw [h]
    rfl
  | n + 1, M, h0, h1 => by
    rw [dtm_s, dtm_s]
    show sm (fun i => dsg i * M i 0 * dtm (n + 1) (fun r c => M (dsk i r) (c + 1))) (n + 1) + dsg (n + 1) * M (n + 1) 0 * _ = _
    rw [h0 0 (by omega), Int.mul_zero, Int.zero_mul, Int.add_zero]
    refine sm_eq (n + 1) (fun i hi => ?_)
    have e : dtm (n + 1) (fun r c => M (dsk i r) (c + 1)) = dtm n (fun r c => M (dsk i r) (c + 1)) := dtm_la n (M := fun r c => M (dsk i r) (c + 1)) (fun c hc => by
      show M (dsk i n) (c + 1) = 0
      rw [dsk_g (show i ≤ n by omega)]
      exact h0 (c + 1) (by omega)) (by
      show M (dsk i n) (n + 1) = 1
      rw [dsk_g (show i ≤ n by omega)]
      exact h1)
    rw [e]
theorem dtm_fi {n : Nat} {M : Nat → Nat → Int} (h0 : ∀ c, 0 < c → c < n + 1 → M 0 c = 0) (h1 : M 0 0 = 1) : dtm (n + 1) M = dtm n (fun i j => M (i + 1) (j + 1)) := by
  rw [dtm_s, sm_sh n, sm_0 n (fun k hk => ?_)]
  · show 1 * M 0 0 * dtm n (fun r c => M (dsk 0 r) (c + 1)) + 0 = _
    rw [h1, Int.one_mul, Int.one_mul, Int.add_zero]
    rfl
  · show dsg (k + 1) * M (k + 1) 0 * dtm n (fun r c => M (dsk (k + 1) r) (c + 1)) = 0
    rw [dtm_zr (M := fun r c => M (dsk (k + 1) r) (c + 1)) (r := 0) (by omega) (fun c hc => by
      show M (dsk (k + 1) 0) (c + 1) = 0
      rw [dsk_l (by omega)]
      exact h0 (c + 1) (by omega) (by omega)), Int.mul_zero]
theorem dtm_sb {n r : Nat} {X : Nat → Nat → Int} {v : Nat → Int} (hr : r < n) : ∀ k : Nat, k ≤ r → dtm n (rpl X r (fun c => v c + -(sm (fun i => if i = 0 then 0 else X i c) k))) = dtm n (rpl X r v)
  | 0, _ => dtm_eq n (fun i c _ _ => by
    by_cases e : i = r
    · rw [e, rpl_e, rpl_e]
      show v c + -(0 : Int) = v c
      omega
    · rw [rpl_n e, rpl_n e])
  | k + 1, h => by
    refine Eq.trans ?_ (dtm_sb (X := X) (v := v) hr k (by omega))
    by_cases z : k = 0
    · refine dtm_eq n (fun i c _ _ => ?_)
      by_cases e : i = r
      · rw [e, rpl_e, rpl_e]
        show v c + -(sm (fun i => if i = 0 then 0 else X i c) k + (if k = 0 then 0 else X k c)) = _
        rw [if_pos z, Int.add_zero]
      · rw [rpl_n e, rpl_n e]
    · have a := dtm_lin n (M := X) (u := fun c => v c + -(sm (fun i => if i = 0 then 0 else X i c) k)) (v := X k) (a := 1) (b := -1) hr
      rw [dtm_al (i := k) (j := r) (M := rpl X r (X k)) (by omega) hr (fun c _ => by rw [rpl_n (by omega), rpl_e]), Int.mul_zero, Int.add_zero, Int.one_mul] at a
      rw [← a]
      refine dtm_eq n (fun i c _ _ => ?_)
      by_cases e : i = r
      · rw [e, rpl_e, rpl_e]
        show v c + -(sm (fun i => if i = 0 then 0 else X i c) k + (if k = 0 then 0 else X k c)) = 1 * (v c + -(sm (fun i => if i = 0 then 0 else X i c) k)) + -1 * X k c
        rw [if_neg z, Int.one_mul]
        omega
      · rw [rpl_n e, rpl_n e]
theorem lap_m {n : Nat} {L : Nat → Nat → Int} (hr : ∀ i, i < n + 1 → MC (sm (L i) (n + 1)) 0) (hc : ∀ c, c < n + 1 → MC (sm (fun i => L i c) (n + 1)) 0) : MC (dtm n L) (dtm n (fun i j => L (i + 1) (j + 1))) := by
  rcases n with _ | n
  · exact mc_r
  · have a : dtm (n + 2) (rpl L (n + 1) (eun (n + 1))) = dtm (n + 1) L := by
      rw [dtm_la (n + 1) (M := rpl L (n + 1) (eun (n + 1))) (fun c hc => by rw [rpl_e]; exact if_neg (by omega)) (by rw [rpl_e]; exact if_pos rfl)]
      exact dtm_eq (n + 1) (fun i c hi _ => rpl_n (by omega))
    have b : dtm (n + 2) (rpl L 0 (eun 0)) = dtm (n + 1) (fun i j => L (i + 1) (j + 1)) := by
      rw [dtm_fi (M := rpl L 0 (eun 0)) (fun c h0 _ => by rw [rpl_e]; exact if_neg (by omega)) (by rw [rpl_e]; exact if_pos rfl)]
      exact dtm_eq (n + 1) (fun i c _ _ => rpl_n (by omega))
    have c1 : MC (dtm (n + 2) (rpl L 0 (eun 0))) (dtm (n + 2) (rpl (rpl L 0 (eun 0)) (n + 1) (fun c => -1 * L 0 c + -(sm (fun i => if i = 0 then 0 else rpl L 0 (eun 0) i c) (n + 1))))) := mc_d (n + 2) (fun i c hi hcc => by
      by_cases e : i = n + 1
      · rw [e, rpl_e, rpl_n (by omega)]
        have s := hc c hcc
        rw [sm_s, sm_sh n] at s
        have s2 : sm (fun i => if i = 0 then 0 else rpl L 0 (eun 0) i c) (n + 1) = sm (fun k => L (k + 1) c) n := by
          rw [sm_sh n]
          show 0 + sm (fun k => if k + 1 = 0 then 0 else rpl L 0 (eun 0) (k + 1) c) n = _
          rw [Int.zero_add]
          exact sm_eq n (fun k _ => by rw [if_neg (by omega), rpl_n (by omega)])
        rw [s2]
        unfold MC at s ⊢
        omega
      · rw [rpl_n e]
        exact mc_r)
    rw [dtm_sb (by omega) (n + 1) (Nat.le_refl _), dtm_mul (by omega)] at c1
    have d : dtm (n + 2) (rpl (rpl L 0 (eun 0)) (n + 1) (L 0)) = -dtm (n + 2) (rpl (rpl L 0 (L 0)) (n + 1) (eun 0)) := dtm_swp (by omega) (by omega) (by omega) (fun N hN => dtm_al (by omega) (by omega) hN) L (L 0) (eun 0)
    rw [rpl_id] at d
    have e := dtm_lin (n + 2) (M := L) (r := n + 1) (u := eun 0) (v := eun (n + 1)) (a := 1) (b := -1) (by omega)
    have z : MC (dtm (n + 2) (rpl L (n + 1) (fun c => 1 * eun 0 c + -1 * eun (n + 1) c))) 0 := dtm_z (n + 1) (fun i hi => by
      by_cases k : i = n + 1
      · have q : rpl L (n + 1) (fun c => 1 * eun 0 c + -1 * eun (n + 1) c) i = fun c => 1 * eun 0 c + -1 * eun (n + 1) c := by
          funext c
          rw [k, rpl_e]
        rw [q, sm_lin, sm_sh (n + 1), sm_0 (n + 1) (f := fun k => eun 0 (k + 1)) (fun k _ => if_neg (by omega)), sm_s, sm_0 (n + 1) (f := eun (n + 1)) (fun k hk => if_neg (by omega))]
        show MC (1 * (1 + 0) + -1 * (0 + (if n + 1 = n + 1 then 1 else 0))) 0
        rw [if_pos rfl]
        exact mc_r
      · have q : rpl L (n + 1) (fun c => 1 * eun 0 c + -1 * eun (n + 1) c) i = L i := by
          funext c
          rw [rpl_n k]
        rw [q]
        exact hr i hi)
    rw [e, a] at z
    rw [b, d] at c1
    unfold MC at z c1 ⊢
    omega
/-! SPANNING TREES COUNTED -/
/-- a power by squares: v x^k is what is sought -/
def PWX (b e v x k : Int) : Prop := (0 ≤ v ∧ v < 1000000007) ∧ (0 ≤ x ∧ x < 1000000007) ∧ 0 ≤ k ∧ MC (v * pwr x k.toNat) (pwr b e.toNat)
section PW
variable {b e v x k v2 x2 k2 : Int}
theorem pwi_0 (hb : 0 ≤ b ∧ b < 1000000007) (he : 0 ≤ e) : PWX b e 1 b e := ⟨by omega, hb, he, by rw [Int.one_mul]; exact mc_r⟩
theorem mc_e (a : Int) : MC (a % 1000000007) a := by
  unfold MC
  omega
theorem pwi_a (h : PWX b e v x k) (hk : 0 < k) (h1 : k % 2 = 1) (hv : v2 = v * x % 1000000007) (hx : x2 = x * x % 1000000007) (h2 : k2 = k / 2) : PWX b e v2 x2 k2 := by
  obtain ⟨a1, a2, a3, a4⟩ := h
  refine ⟨by omega, by omega, by omega, mc_t ?_ a4⟩
  rw [hv, hx, show k.toNat = 2 * k2.toNat + 1 by omega]
  refine mc_t (mc_m (mc_e _) (mc_pw (mc_e _) _)) ?_
  rw [pwr_q]
  show MC (v * x * pwr x (2 * k2.toNat)) (v * (pwr x (2 * k2.toNat) * x))
  rw [Int.mul_assoc, Int.mul_comm x]
  exact mc_r
theorem pwi_b (h : PWX b e v x k) (hk : 0 < k) (h1 : k % 2 = 0) (hx : x2 = x * x % 1000000007) (h2 : k2 = k / 2) : PWX b e v x2 k2 := by
  obtain ⟨a1, a2, a3, a4⟩ := h
  refine ⟨a1, by omega, by omega, mc_t ?_ a4⟩
  rw [hx, show k.toNat = 2 * k2.toNat by omega]
  refine mc_t (mc_m mc_r (mc_pw (mc_e _) _)) ?_
  rw [pwr_q]
  exact mc_r
theorem pwi_e (h : PWX b e v x k) (hk : k ≤ 0) : (0 ≤ v ∧ v < 1000000007) ∧ MC v (pwr b e.toNat) := by
  obtain ⟨a1, a2, a3, a4⟩ := h
  rw [show k.toNat = 0 by omega] at a4
  have e1 : v * pwr x 0 = v := Int.mul_one v
  rw [e1] at a4
  exact ⟨a1, a4⟩
end PW
theorem mul_b {a b : Int} (ha : 0 ≤ a ∧ a ≤ 1000000007) (hb : 0 ≤ b ∧ b ≤ 1000000007) : 0 ≤ a * b ∧ a * b ≤ 1000000014000000049 := by
  refine ⟨Int.mul_nonneg ha.1 hb.1, ?_⟩
  have h1 := Int.mul_le_mul_of_nonneg_right ha.2 hb.1
  have h2 : (1000000007 : Int) * b ≤ 1000000007 * 1000000007 := Int.mul_le_mul_of_nonneg_left hb.2 (by omega)
  omega
theorem inv_w {x w : Int} {y : Int64} (hy : y.toInt = 1000000005) (hx : ¬ MC x 0) (h : MC w (pwr x y.toInt.toNat)) : MC (x * w) 1 := mc_t (mc_m mc_r h) (inv_m (p := y.toInt.toNat + 2) (by omega) rfl hx)
theorem mc_nz {x : Int} (h : x ≠ 0) (h0 : 0 ≤ x ∧ x < 1000000007) : ¬ MC x 0 := by
  unfold MC
  omega
/-- the product so far -/
theorem cnt_s {v u v2 a b D : Int} (h : MC (v * a) D) (hp : MC a (u * b)) (h2 : v2 = v * u % 1000000007) : MC (v2 * b) D := by
  refine mc_t (mc_m (show MC v2 (v * u) by rw [h2]; exact mc_e _) mc_r) ?_
  rw [Int.mul_assoc]
  exact mc_t (mc_m mc_r (mc_y hp)) h
theorem cnt_0 {v a D : Int} (h : MC (v * a) D) (hv : v = 0) : MC v D := by
  rw [hv, Int.zero_mul] at h
  rw [hv]
  exact h
/-! floors -/
theorem xor_np {x z : Int64} (e : z = x ^^^ Int64.ofInt 1000000007) : z.toInt < 0 ↔ x.toInt < 0 := by
  have h1 := BitVec.msb_eq_toInt (x := z.toBitVec)
  have h2 := BitVec.msb_eq_toInt (x := x.toBitVec)
  have h3 : z.toBitVec.msb = x.toBitVec.msb := by
    rw [e, Int64.toBitVec_xor, BitVec.msb_xor, show (Int64.ofInt 1000000007).toBitVec.msb = false from rfl, Bool.xor_false]
  rw [h1, h2] at h3
  have h4 : (z.toInt < 0) = (x.toInt < 0) := by
    have a : decide (z.toInt < 0) = decide (x.toInt < 0) := h3
    exact decide_eq_decide.mp a |> propext
  rw [h4]
theorem rem_p {x z : Int64} (e : z = x - x / Int64.ofInt 1000000007 * Int64.ofInt 1000000007) (h0 : x.toInt < 0) (h1 : -4000000000000000000 ≤ x.toInt) : MC z.toInt x.toInt ∧ -1000000007 < z.toInt ∧ z.toInt ≤ 0 := by
  have k : (Int64.ofInt 1000000007).toInt = 1000000007 := rfl
  have d : (x / Int64.ofInt 1000000007).toInt = -((-x.toInt) / 1000000007) := by
    obtain ⟨a, ha⟩ : ∃ a : Int, x.toInt = -a := ⟨-x.toInt, by omega⟩
    rw [Int64.toInt_div, k, ha, Int.neg_tdiv, Int.tdiv_eq_ediv_of_nonneg (by omega), Int.neg_neg]
    exact Int.bmod_eq_of_le (by omega) (by omega)
  have m : (x / Int64.ofInt 1000000007 * Int64.ofInt 1000000007).toInt = -((-x.toInt) / 1000000007) * 1000000007 := by
    rw [lmul_t rfl (by rw [d, k]; omega) (by rw [d, k]; omega), d, k]
  have s := lsub_t e (by rw [m]; omega) (by rw [m]; omega)
  rw [m] at s
  unfold MC
  omega
theorem flm_1 {x z w : Int64} (e : z = x - x / Int64.ofInt 1000000007 * Int64.ofInt 1000000007) (ew : w = x ^^^ Int64.ofInt 1000000007) (hw : 0 ≤ w.toInt) (h1 : x.toInt ≤ 4000000000000000000) : MC z.toInt x.toInt ∧ 0 ≤ z.toInt ∧ z.toInt < 1000000007 := by
  have n : ¬ x.toInt < 0 := fun q => by
    have := (xor_np ew).mpr q
    omega
  have v := lrem_v e (by omega) h1
  refine ⟨by rw [v]; exact mc_e _, by omega, by omega⟩
theorem flm_2 {x z w : Int64} (e : z = x - x / Int64.ofInt 1000000007 * Int64.ofInt 1000000007) (ew : w = x ^^^ Int64.ofInt 1000000007) (hw : w.toInt < 0) (h1 : -4000000000000000000 ≤ x.toInt) (hz : z.toInt = 0) : MC z.toInt x.toInt ∧ 0 ≤ z.toInt ∧ z.toInt < 1000000007 := by
  have v := rem_p e ((xor_np ew).mp hw) h1
  exact ⟨v.1, by omega, by omega⟩
theorem flm_3 {x z w y : Int64} (e : z = x - x / Int64.ofInt 1000000007 * Int64.ofInt 1000000007) (ew : w = x ^^^ Int64.ofInt 1000000007) (hw : w.toInt < 0) (h1 : -4000000000000000000 ≤ x.toInt) (hz : z.toInt ≠ 0) (ey : y = z + Int64.ofInt 1000000007) : MC y.toInt x.toInt ∧ 0 ≤ y.toInt ∧ y.toInt < 1000000007 := by
  have v := rem_p e ((xor_np ew).mp hw) h1
  have k : (Int64.ofInt 1000000007).toInt = 1000000007 := rfl
  have t := ladd_t ey (by omega) (by omega)
  rw [k] at t
  have v1 := v.1
  refine ⟨?_, by omega, by omega⟩
  unfold MC at v1 ⊢
  omega
theorem lsr_1 {x z : Int64} (hz : z = x >>> ((Int32.ofInt 1).toInt64 &&& 63)) : z.toInt = x.toInt / 2 := by
  rw [hz]
  show (x.toBitVec.sshiftRight' (((Int32.ofInt 1).toInt64 &&& 63).toBitVec.smod 64#64)).toInt = x.toBitVec.toInt / 2
  rw [show (((Int32.ofInt 1).toInt64 &&& 63).toBitVec.smod 64#64) = 1#64 from (by decide +kernel), BitVec.sshiftRight_eq', BitVec.toInt_sshiftRight, Int.shiftRight_eq_div_pow]
  rfl
theorem lan_2 {z w : Int64} (hw : w = z &&& Int64.ofInt 1) : w.toInt = z.toInt % 2 := by
  have e : w.toBitVec.toNat = z.toBitVec.toNat % 2 := by
    rw [hw]
    show (z.toBitVec &&& (Int64.ofInt 1).toBitVec).toNat = _
    rw [BitVec.toNat_and, show (Int64.ofInt 1).toBitVec.toNat = 2 ^ 1 - 1 from (by decide +kernel), Nat.and_two_pow_sub_one_eq_mod]
  have a := BitVec.toInt_eq_toNat_cond z.toBitVec
  have b := BitVec.toInt_eq_toNat_cond w.toBitVec
  rw [e, if_pos (by omega)] at b
  show w.toBitVec.toInt = z.toBitVec.toInt % 2
  rw [b, a]
  split <;> omega
/-! rows of 32 -/
def gat (f : Nat → Int64) (i j : Nat) : Int := (f (32 * i + j)).toInt
def tmx (f : Nat → Int64) (a : Nat) : Nat → Nat → Int := fun i j => gat f (a + i) (a + j)
def GRD (f : Nat → Int64) : Prop := ∀ k, k < 1024 → 0 ≤ (f k).toInt ∧ (f k).toInt < 1000000007
def swf (f : Nat → Int64) (a b : Nat) : Nat → Int64 := fun k => if k / 32 = a then f (32 * b + k % 32) else if k / 32 = b then f (32 * a + k % 32) else f k
theorem grd_u {f : Nat → Int64} {k : Nat} {z : Int64} (h : GRD f) (hz : 0 ≤ z.toInt ∧ z.toInt < 1000000007) : GRD (vp_updL f k z) := fun j hj => by
  by_cases c : j = k
  · rw [c, vp_at]; exact hz
  · rw [vp_ne c]; exact h j hj
theorem grd_g {f : Nat → Int64} (h : GRD f) {i j : Nat} (hi : i < 32) (hj : j < 32) : 0 ≤ gat f i j ∧ gat f i j < 1000000007 := h _ (by omega)
section SW
variable {f : Nat → Int64} {a b i j : Nat}
theorem swf_i (hj : j < 32) : gat (swf f a b) i j = if i = a then gat f b j else if i = b then gat f a j else gat f i j := by
  show (swf f a b (32 * i + j)).toInt = _
  unfold swf
  rw [show (32 * i + j) / 32 = i by omega, show (32 * i + j) % 32 = j by omega]
  by_cases c : i = a
  · rw [if_pos c, if_pos c]; rfl
  · rw [if_neg c, if_neg c]
    by_cases d : i = b
    · rw [if_pos d, if_pos d]; rfl
    · rw [if_neg d, if_neg d]; rfl
theorem grd_w (h : GRD f) (ha : a < 32) (hb : b < 32) : GRD (swf f a b) := fun k hk => by
  unfold swf
  split
  · exact h _ (by omega)
  · split
    · exact h _ (by omega)
    · exact h k hk
theorem swf_s (h : a = b) : swf f a b = f := by
  funext k
  unfold swf
  by_cases c : k / 32 = a
  · rw [if_pos c, show 32 * b + k % 32 = k by omega]
  · rw [if_neg c, if_neg (by omega)]
theorem gat_cg {g : Nat → Int64} (h : ∀ k, k < 1024 → g k = f k) (hi : i < 32) (hj : j < 32) : gat g i j = gat f i j := congrArg Int64.toInt (h _ (by omega))
theorem grd_cg {g : Nat → Int64} (h : ∀ k, k < 1024 → g k = f k) (hf : GRD f) : GRD g := fun k hk => by rw [h k hk]; exact hf k hk
/-- while two rows change places: below column m they have -/
def SWI (f0 f : Nat → Int64) (a b m : Nat) : Prop := ∀ k, k < 1024 → f k = if k % 32 < m then swf f0 a b k else f0 k
theorem swi_0 : SWI f f a b 0 := fun k _ => (if_neg (by omega)).symm
theorem swi_e {g : Nat → Int64} {n : Nat} (h : SWI f g a b n) (hn : 32 ≤ n) : ∀ k, k < 1024 → g k = swf f a b k := fun k hk => (h k hk).trans (if_pos (by omega))
theorem swi_s {g : Nat → Int64} {m p q : Nat} {x y : Int64} (h : SWI f g a b m) (hm : m < 32) (ha : a < 32) (hb : b < 32) (hab : a ≠ b) (hp : p = 32 * a + m) (hq : q = 32 * b + m) (hx : x = g p) (hy : y = g q) : SWI f (vp_updL (vp_updL g p y) q x) a b (m + 1) := fun k hk => by
  have ep : x = f (32 * a + m) := by rw [hx, h p (by omega), if_neg (by omega), hp]
  have eq : y = f (32 * b + m) := by rw [hy, h q (by omega), if_neg (by omega), hq]
  by_cases c1 : k = q
  · rw [c1, vp_at, if_pos (by omega)]
    unfold swf
    rw [if_neg (by omega), if_pos (by omega), ep]
    exact congrArg f (by omega)
  · rw [vp_ne c1]
    by_cases c2 : k = p
    · rw [c2, vp_at, if_pos (by omega)]
      unfold swf
      rw [if_pos (by omega), eq]
      exact congrArg f (by omega)
    · rw [vp_ne c2, h k hk]
      by_cases c3 : k % 32 < m
      · rw [if_pos c3, if_pos (by omega)]
      · rw [if_neg c3]
        by_cases c4 : k % 32 < m + 1
        · rw [if_pos c4]
          unfold swf
          rw [if_neg (by omega), if_neg (by omega)]
        · rw [if_neg c4]
/-- the matrix from row and column c on, with row r put first -/
theorem dsw_t {c r : Nat} (hr : c ≤ r) (hc : c + j < 32) : dsw (tmx f c) (r - c) i j = gat (swf f r c) (c + i) (c + j) := by
  rw [swf_i hc]
  unfold dsw
  by_cases e : r - c = 0
  · rw [if_pos e]
    show gat f (c + i) (c + j) = _
    by_cases d : c + i = r
    · rw [if_pos d]
      exact congrArg (fun z => gat f z (c + j)) (show c + i = c by omega)
    · rw [if_neg d, if_neg (by omega)]
  · rw [if_neg e]
    by_cases d : c + i = r
    · rw [if_pos d, show i = r - c by omega, rpl_e]
      rfl
    · rw [if_neg d, rpl_n (by omega)]
      by_cases d2 : c + i = c
      · rw [if_pos d2, show i = 0 by omega, rpl_e]
        exact congrArg (fun z => gat f z (c + j)) (by omega)
      · rw [if_neg d2, rpl_n (by omega)]
        rfl
end SW
/-! one step of the elimination -/
def tms (f : Nat → Int64) (w : Int) (c i : Nat) : Int := (1000000007 - gat f i c) * w % 1000000007
def PVC (c z r y i j : Nat) : Prop := (c < i ∧ i < r ∧ c ≤ j ∧ j < z) ∨ (i = r ∧ c ≤ j ∧ j < y)
def PVJ (f1 f : Nat → Int64) (c z r y : Nat) (w : Int) : Prop := ∀ i j, i < 32 → j < 32 → (PVC c z r y i j → MC (gat f i j) (gat f1 i j + tms f1 w c i * gat f1 c j)) ∧ (¬ PVC c z r y i j → gat f i j = gat f1 i j)
section PV
variable {f1 f : Nat → Int64} {c z r y : Nat} {w : Int}
theorem pvj_0 (hr : r = c + 1) (hf : ∀ k, k < 1024 → f k = f1 k) : PVJ f1 f c z r c w := fun i j hi hj => ⟨fun h => by unfold PVC at h; omega, fun _ => gat_cg hf hi hj⟩
theorem pvj_s {k : Nat} {x : Int64} (h : PVJ f1 f c z r y w) (hc : c < r) (hr : r < 32) (hy : y < 32) (hcy : c ≤ y) (hk : k = 32 * r + y) (hx : MC x.toInt (gat f r y + tms f1 w c r * gat f c y)) : PVJ f1 (vp_updL f k x) c z r (y + 1) w := fun i j hi hj => by
  have e1 : gat f r y = gat f1 r y := (h r y hr hy).2 (by unfold PVC; omega)
  have e2 : gat f c y = gat f1 c y := (h c y (by omega) hy).2 (by unfold PVC; omega)
  by_cases q : i = r ∧ j = y
  · obtain ⟨rfl, rfl⟩ := q
    have e3 : gat (vp_updL f k x) i j = x.toInt := by
      show (vp_updL f k x (32 * i + j)).toInt = _
      rw [← hk, vp_at]
    rw [e1, e2] at hx
    rw [e3]
    exact ⟨fun _ => hx, fun n => absurd (show PVC c z i (j + 1) i j by unfold PVC; omega) n⟩
  · have e3 : gat (vp_updL f k x) i j = gat f i j := congrArg Int64.toInt (vp_ne (by omega))
    rw [e3]
    have g := h i j hi hj
    exact ⟨fun p => g.1 (by unfold PVC at *; omega), fun p => g.2 (by unfold PVC at *; omega)⟩
theorem pvj_e {r2 : Nat} (h : PVJ f1 f c z r y w) (hc : c < r) (hy : c ≤ y) (hyz : y ≤ z) (he : y = z ∨ tms f1 w c r = 0) (h2 : r2 = r + 1) : PVJ f1 f c z r2 c w := fun i j hi hj => by
  have g := h i j hi hj
  refine ⟨fun p => ?_, fun p => g.2 (by unfold PVC at *; omega)⟩
  by_cases q : PVC c z r y i j
  · exact g.1 q
  · rcases he with he | he
    · exact absurd (by unfold PVC at *; omega) q
    · have e : i = r := by unfold PVC at *; omega
      rw [g.2 q, e, he, Int.zero_mul, Int.add_zero]
      exact mc_r
/-- the step's end -/
theorem pvj_d {f0 : Nat → Int64} {q : Nat} (h : PVJ f1 f c z r c w) (hr : z ≤ r) (hz : z ≤ 32) (hcz : c < z) (hq : c ≤ q) (hqz : q < z) (e1 : ∀ i j, i < 32 → j < z → gat f1 i j = gat (swf f0 q c) i j) (hw : MC (gat f1 c c * w) 1) : MC (dtm (z - c) (tmx f0 c)) ((if q - c = 0 then 1 else -1) * gat f1 c c * dtm (z - c - 1) (tmx f (c + 1))) := by
  have t0 : tmx f0 c (q - c) 0 = gat f1 c c := by
    rw [e1 c c (by omega) (by omega), swf_i (by omega)]
    show gat f0 (c + (q - c)) (c + 0) = _
    by_cases k : c = q
    · rw [if_pos k]
      exact congrArg (fun x => gat f0 x c) (by omega)
    · rw [if_neg k, if_pos rfl]
      exact congrArg (fun x => gat f0 x c) (by omega)
  have tj : ∀ j, c + j < z → tmx f0 c (q - c) j = gat f1 c (c + j) := fun j hj => by
    rw [e1 c (c + j) (by omega) hj, swf_i (by omega)]
    show gat f0 (c + (q - c)) (c + j) = _
    by_cases k : c = q
    · rw [if_pos k]
      exact congrArg (fun x => gat f0 x (c + j)) (by omega)
    · rw [if_neg k, if_pos rfl]
      exact congrArg (fun x => gat f0 x (c + j)) (by omega)
  have d1 : ∀ i j, c + i < 32 → c + j < z → dsw (tmx f0 c) (q - c) i j = gat f1 (c + i) (c + j) := fun i j hi hj => by
    rw [dsw_t hq (by omega)]
    exact (e1 (c + i) (c + j) hi hj).symm
  have p := dtm_piv (n := z - c - 1) (r := q - c) (M := tmx f0 c) (N := tmx f (c + 1)) (t := fun i => tms f1 w c (c + i)) (by omega) (fun i h0 hi => by
    show MC (dsw (tmx f0 c) (q - c) i 0 + tms f1 w c (c + i) * tmx f0 c (q - c) 0) 0
    rw [d1 i 0 (by omega) (by omega), t0, Nat.add_zero]
    have k1 : MC (tms f1 w c (c + i) * gat f1 c c) (-(gat f1 (c + i) c)) := by
      refine mc_t (mc_m (mc_t (mc_e _) (mc_m (show MC (1000000007 - gat f1 (c + i) c) (-(gat f1 (c + i) c)) by unfold MC; omega) mc_r)) mc_r) ?_
      rw [Int.mul_assoc, Int.mul_comm w]
      have k2 := mc_m (mc_r (a := -(gat f1 (c + i) c))) hw
      rw [Int.mul_one] at k2
      exact k2
    refine mc_t (mc_a mc_r k1) ?_
    rw [show gat f1 (c + i) c + -(gat f1 (c + i) c) = 0 by omega]
    exact mc_r) (fun i j hi hj => by
    show MC (gat f (c + 1 + i) (c + 1 + j)) (dsw (tmx f0 c) (q - c) (i + 1) (j + 1) + tms f1 w c (c + (i + 1)) * tmx f0 c (q - c) (j + 1))
    rw [d1 (i + 1) (j + 1) (by omega) (by omega), tj (j + 1) (by omega), show c + (i + 1) = c + 1 + i by omega, show c + (j + 1) = c + 1 + j by omega]
    exact (h _ _ (by omega) (by omega)).1 (by unfold PVC; omega))
  rw [show z - c - 1 + 1 = z - c by omega, t0] at p
  exact p
theorem tms_y {i : Nat} {v : Int} (h : v = gat f1 i c * w % 1000000007) : MC (1000000007 - v) (tms f1 w c i) := by
  unfold tms
  rw [h, Int.sub_mul]
  unfold MC
  omega
/-- two rows have changed places, as far as column n -/
def swg (f : Nat → Int64) (a b n : Nat) : Nat → Int64 := fun k => if k % 32 < n then swf f a b k else f k
theorem swg_c {f0 : Nat → Int64} {a b n i j : Nat} (hj : j < n) (h32 : n ≤ 32) : gat (swg f0 a b n) i j = gat (swf f0 a b) i j := by
  show (swg f0 a b n (32 * i + j)).toInt = (swf f0 a b (32 * i + j)).toInt
  unfold swg
  rw [if_pos (by omega)]
theorem swg_i {f0 : Nat → Int64} {a b n : Nat} (h : SWI f0 f a b n) : ∀ k, k < 1024 → f k = swg f0 a b n k := h
theorem swg_s {f0 : Nat → Int64} {a b n m : Nat} (h : SWI f0 f a b m) (e : a = b) : ∀ k, k < 1024 → f k = swg f0 a b n k := fun k hk => by
  have q := h k hk
  unfold swg
  rw [swf_s e] at q ⊢
  rw [q]
  split <;> split <;> rfl
theorem grd_v {f0 : Nat → Int64} {a b n : Nat} (h : GRD f0) (ha : a < 32) (hb : b < 32) : GRD (swg f0 a b n) := fun k hk => by
  unfold swg
  split
  · exact grd_w h ha hb k hk
  · exact h k hk
/-- the reference's product behind a step -/
theorem pvj_p {f0 : Nat → Int64} {q : Nat} {u v D : Int} (h : PVJ (swg f0 q c z) f c z r c w) (hr : z ≤ r) (hz : z ≤ 32) (hcz : c < z) (hq : c ≤ q) (hqz : q < z) (hw : MC (gat (swg f0 q c z) c c * w) 1) (hu : MC (u * dtm (z - c) (tmx f0 c)) D) (hv : MC v (u * ((if q - c = 0 then 1 else -1) * gat (swg f0 q c z) c c))) : MC (v * dtm (z - c - 1) (tmx f (c + 1))) D := by
  have d := pvj_d h hr hz hcz hq hqz (fun i j _ hj => swg_c hj hz) hw
  refine mc_t (mc_m hv mc_r) ?_
  rw [Int.mul_assoc]
  exact mc_t (mc_m mc_r (mc_y d)) hu
theorem prd_1 {u v g : Int} {q c : Nat} (e : q = c) (h : v = u * g % 1000000007) : MC v (u * ((if q - c = 0 then 1 else -1) * g)) := by
  rw [if_pos (by omega), Int.one_mul, h]
  exact mc_e _
theorem prd_2 {u v x g : Int} {q c : Nat} (e : ¬ q = c) (hq : c ≤ q) (hx : x = (1000000007 - u) % 1000000007) (h : v = x * g % 1000000007) : MC v (u * ((if q - c = 0 then 1 else -1) * g)) := by
  rw [if_neg (by omega), h, show u * (-1 * g) = -u * g by rw [Int.neg_mul, Int.neg_mul, Int.one_mul, Int.mul_neg]]
  refine mc_t (mc_e _) (mc_m ?_ mc_r)
  rw [hx]
  unfold MC
  omega
theorem pvz_0 {f0 : Nat → Int64} {u D : Int} (hcz : c < z) (h : ∀ i : Nat, c ≤ i → i < z → gat f0 i c = 0) (hu : MC (u * dtm (z - c) (tmx f0 c)) D) : MC 0 D := by
  have a : MC (dtm (z - c) (tmx f0 c)) 0 := by
    rw [show z - c = z - c - 1 + 1 by omega]
    exact mc_cz (fun i hi => by
      show MC (gat f0 (c + i) (c + 0)) 0
      rw [Nat.add_zero, h (c + i) (by omega) (by omega)]
      exact mc_r)
  have b := mc_m (mc_r (a := u)) a
  rw [Int.mul_zero] at b
  exact mc_t (mc_y b) hu
/-- what a step leaves -/
def PVP (f0 f : Nat → Int64) (c z : Nat) (v : Int) : Prop := GRD f ∧ (0 ≤ v ∧ v ≤ 1000000007) ∧ MC (dtm (z - c) (tmx f0 c)) (v * dtm (z - c - 1) (tmx f (c + 1)))
theorem pvp_0 {f0 : Nat → Int64} (hg : GRD f) (hcz : c < z) (h : ∀ i : Nat, c ≤ i → i < z → gat f0 i c = 0) : PVP f0 f c z 0 := by
  refine ⟨hg, by omega, ?_⟩
  rw [Int.zero_mul, show z - c = z - c - 1 + 1 by omega]
  exact mc_cz (fun i hi => by
    show MC (gat f0 (c + i) (c + 0)) 0
    rw [Nat.add_zero, h (c + i) (by omega) (by omega)]
    exact mc_r)
theorem pvp_y {f0 : Nat → Int64} {q : Nat} {v : Int} (hg : GRD f) (h : PVJ f1 f c z r c w) (hr : z ≤ r) (hz : z ≤ 32) (hcz : c < z) (hq : c ≤ q) (hqz : q < z) (e1 : ∀ i j, i < 32 → j < z → gat f1 i j = gat (swf f0 q c) i j) (hw : MC (gat f1 c c * w) 1) (hv : 0 ≤ v ∧ v ≤ 1000000007) (hs : (q = c ∧ v = gat f1 c c) ∨ (q ≠ c ∧ v = 1000000007 - gat f1 c c)) : PVP f0 f c z v := by
  refine ⟨hg, hv, mc_t (pvj_d h hr hz hcz hq hqz e1 hw) (mc_m ?_ mc_r)⟩
  rcases hs with ⟨a, b⟩ | ⟨a, b⟩
  · rw [if_pos (by omega), Int.one_mul, b]
    exact mc_r
  · rw [if_neg (by omega), b]
    unfold MC
    omega
end PV
/-! the Laplacian -/
def jvq (g : GVW) (p i : Nat) : Int := (if ARE g 0 p = (i : Int) then 1 else 0) - (if ARE g 1 p = (i : Int) then 1 else 0)
def lpx (g : GVW) (m i j : Nat) : Int := sm (fun p => jvq g p i * jvq g p j) m
def LPX (g : GVW) (f : Nat → Int64) (m : Nat) : Prop := ∀ i j, i < 32 → j < 32 → MC (gat f i j) (lpx g m i j) ∧ -(1000000007 * (m : Int)) ≤ gat f i j ∧ gat f i j ≤ 1000000007 * (m : Int)
section LP
variable {g : GVW} {f : Nat → Int64} {m a b : Nat}
theorem jvq_v {p i : Nat} (h0 : ARE g 0 p = (a : Int)) (h1 : ARE g 1 p = (b : Int)) : jvq g p i = (if i = a then 1 else 0) - (if i = b then 1 else 0) := by
  unfold jvq
  rw [h0, h1]
  by_cases c : i = a <;> by_cases d : i = b
  · rw [if_pos (by omega), if_pos (by omega), if_pos c, if_pos d]
  · rw [if_pos (by omega), if_neg (by omega), if_pos c, if_neg d]
  · rw [if_neg (by omega), if_pos (by omega), if_neg c, if_pos d]
  · rw [if_neg (by omega), if_neg (by omega), if_neg c, if_neg d]
theorem lpx_n (h : LPX g f m) (hj : ∀ i : Nat, i < 32 → jvq g m i = 0) : LPX g f (m + 1) := fun i j hi hj2 => by
  obtain ⟨q1, q2, q3⟩ := h i j hi hj2
  refine ⟨?_, by omega, by omega⟩
  show MC (gat f i j) (lpx g m i j + jvq g m i * jvq g m j)
  rw [hj i hi, Int.zero_mul, Int.add_zero]
  exact q1
theorem lpx_0 (h : ∀ k, k < 1024 → (f k).toInt = 0) : LPX g f 0 := fun i j hi hj => by
  have e : gat f i j = 0 := h _ (by omega)
  rw [e]
  exact ⟨mc_r, by omega, by omega⟩
theorem lpx_s {z1 z2 z3 z4 : Int64} {n1 n2 n3 n4 : Nat} {d : Int} (h : LPX g f m) (h0 : ARE g 0 m = (a : Int)) (h1 : ARE g 1 m = (b : Int)) (ha : a < 32) (hb : b < 32) (hab : a ≠ b) (k1 : n1 = 32 * a + a) (k2 : n2 = 32 * b + b) (k3 : n3 = 32 * a + b) (k4 : n4 = 32 * b + a) (e1 : z1.toInt = (f n1).toInt + 1) (e2 : z2.toInt = (f n2).toInt + 1) (e3 : z3.toInt = (f n3).toInt + d) (e4 : z4.toInt = (f n4).toInt + d) (hd : MC d (-1)) (hd2 : -1000000007 ≤ d ∧ d ≤ 1000000007) : LPX g (vp_updL (vp_updL (vp_updL (vp_updL f n1 z1) n2 z2) n3 z3) n4 z4) (m + 1) := fun i j hi hj => by
  obtain ⟨q1, q2, q3⟩ := h i j hi hj
  show MC (vp_updL (vp_updL (vp_updL (vp_updL f n1 z1) n2 z2) n3 z3) n4 z4 (32 * i + j)).toInt (lpx g m i j + jvq g m i * jvq g m j) ∧ _ ≤ (vp_updL (vp_updL (vp_updL (vp_updL f n1 z1) n2 z2) n3 z3) n4 z4 (32 * i + j)).toInt ∧ (vp_updL (vp_updL (vp_updL (vp_updL f n1 z1) n2 z2) n3 z3) n4 z4 (32 * i + j)).toInt ≤ _
  have gij : gat f i j = (f (32 * i + j)).toInt := rfl
  rw [gij] at q1 q2 q3
  rw [jvq_v h0 h1, jvq_v h0 h1]
  by_cases c4 : 32 * i + j = n4
  · have ci : i = b := by omega
    have cj : j = a := by omega
    rw [c4] at q1 q2 q3
    rw [c4, vp_at, e4, if_neg (by omega), if_pos ci, if_pos cj, if_neg (by omega)]
    exact ⟨mc_a q1 hd, by omega, by omega⟩
  · rw [vp_ne c4]
    by_cases c3 : 32 * i + j = n3
    · have ci : i = a := by omega
      have cj : j = b := by omega
      rw [c3] at q1 q2 q3
      rw [c3, vp_at, e3, if_pos ci, if_neg (by omega), if_neg (by omega), if_pos cj]
      exact ⟨mc_a q1 hd, by omega, by omega⟩
    · rw [vp_ne c3]
      by_cases c2 : 32 * i + j = n2
      · have ci : i = b := by omega
        have cj : j = b := by omega
        rw [c2] at q1 q2 q3
        rw [c2, vp_at, e2, if_neg (by omega), if_pos ci, if_neg (by omega), if_pos cj]
        exact ⟨mc_a q1 (show MC 1 ((0 - 1) * (0 - 1)) from rfl), by omega, by omega⟩
      · rw [vp_ne c2]
        by_cases c1 : 32 * i + j = n1
        · have ci : i = a := by omega
          have cj : j = a := by omega
          rw [c1] at q1 q2 q3
          rw [c1, vp_at, e1, if_pos ci, if_neg (by omega), if_pos cj, if_neg (by omega)]
          exact ⟨mc_a q1 (show MC 1 ((1 - 0) * (1 - 0)) from rfl), by omega, by omega⟩
        · rw [vp_ne c1]
          have z : ((if i = a then (1 : Int) else 0) - (if i = b then 1 else 0)) * ((if j = a then 1 else 0) - (if j = b then 1 else 0)) = 0 := by
            by_cases ia : i = a
            · rw [if_neg (show ¬ j = a by omega), if_neg (show ¬ j = b by omega)]
              exact Int.mul_zero _
            · by_cases ib : i = b
              · rw [if_neg (show ¬ j = a by omega), if_neg (show ¬ j = b by omega)]
                exact Int.mul_zero _
              · rw [if_neg ia, if_neg ib]
                exact Int.zero_mul _
          rw [z, Int.add_zero]
          exact ⟨q1, by omega, by omega⟩
theorem jvq_s {p n : Nat} (hn : (g.2.2.2.2.2.2.1).toNat = n) (hN : NDQ g) (hp : p < 160) : sm (fun j => jvq g p j) n = 0 := by
  have one : ∀ x : Int, (0 ≤ x ∧ x < (n : Int)) → ∀ m : Nat, m ≤ n → sm (fun j => if x = (j : Int) then (1 : Int) else 0) m = if x < (m : Int) then 1 else 0 := fun x hx m => by
    induction m with
    | zero => intro _; exact (if_neg (by omega)).symm
    | succ m ih =>
      intro hm
      show sm (fun j => if x = (j : Int) then (1 : Int) else 0) m + (if x = (m : Int) then 1 else 0) = _
      rw [ih (by omega)]
      by_cases c : x = (m : Int)
      · rw [if_neg (by omega), if_pos c, if_pos (by omega)]; rfl
      · rw [if_neg c]
        by_cases d : x < (m : Int)
        · rw [if_pos d, if_pos (by omega)]; rfl
        · rw [if_neg d, if_neg (by omega)]; rfl
  have e : sm (fun j => jvq g p j) n = sm (fun j => if ARE g 0 p = (j : Int) then (1 : Int) else 0) n - sm (fun j => if ARE g 1 p = (j : Int) then (1 : Int) else 0) n := sm_sub n
  rw [e]
  by_cases c : (g.2.1 p).toInt = -1
  · rw [sm_0 n (fun k _ => if_neg (by rw [are_no c]; omega)), sm_0 n (fun k _ => if_neg (by rw [are_no c]; omega))]
    rfl
  · obtain ⟨a1, a2⟩ := hN p hp c
    rw [one _ (by rw [are_f hp rfl]; omega) n (Nat.le_refl _), one _ (by rw [are_t hp c (by decide)]; omega) n (Nat.le_refl _), if_pos (by rw [are_f hp rfl]; omega), if_pos (by rw [are_t hp c (by decide)]; omega)]
    rfl
theorem lpx_r {n i : Nat} (hn : (g.2.2.2.2.2.2.1).toNat = n) (hN : NDQ g) : ∀ m : Nat, m ≤ 160 → sm (lpx g m i) n = 0
  | 0, _ => sm_0 n (fun _ _ => rfl)
  | m + 1, hm => by
    have e : sm (lpx g (m + 1) i) n = sm (fun j => lpx g m i j + jvq g m i * jvq g m j) n := rfl
    rw [e, sm_add n]
    have e2 : sm (fun j => lpx g m i j) n = 0 := lpx_r hn hN m (by omega)
    have e3 : sm (fun j => jvq g m i * jvq g m j) n = 0 := by
      rw [dsm_k n, jvq_s hn hN (by omega), Int.mul_zero]
    rw [e2, e3]
    rfl
theorem lpx_y {i j : Nat} (m : Nat) : lpx g m i j = lpx g m j i := sm_eq m (fun p _ => Int.mul_comm _ _)
theorem jvq_0 {p i : Nat} (h : ARE g 0 p = ARE g 1 p) : jvq g p i = 0 := by
  unfold jvq
  rw [h]
  omega
theorem lpx_t {k : Nat} (h : ∀ q, k ≤ q → q < 160 → (g.2.1 q).toInt = -1) (hk : k ≤ 160) {i j : Nat} : lpx g 160 i j = lpx g k i j := by
  have e : ∀ m : Nat, k + m ≤ 160 → lpx g (k + m) i j = lpx g k i j := fun m => by
    induction m with
    | zero => intro _; rfl
    | succ m ih =>
      intro hm
      show lpx g (k + m) i j + jvq g (k + m) i * jvq g (k + m) j = _
      have z := h (k + m) (by omega) (by omega)
      rw [ih (by omega), jvq_0 (p := k + m) (i := i) (by rw [are_no z, are_no z]), Int.zero_mul, Int.add_zero]
  have e2 := e (160 - k) (by omega)
  rw [show k + (160 - k) = 160 by omega] at e2
  exact e2
/-- while the values are brought below the prime -/
def LPM (g : GVW) (f : Nat → Int64) (m : Nat) : Prop := ∀ k, k < 1024 → MC (f k).toInt (lpx g 160 (k / 32) (k % 32)) ∧ (k < m → 0 ≤ (f k).toInt ∧ (f k).toInt < 1000000007) ∧ -(1000000007 * 160) ≤ (f k).toInt ∧ (f k).toInt ≤ 1000000007 * 160
theorem lpm_0 {k : Nat} (h : LPX g f k) (hk : k ≤ 160) (hq : ∀ q, k ≤ q → q < 160 → (g.2.1 q).toInt = -1) : LPM g f 0 := fun n hn => by
  obtain ⟨a1, a2, a3⟩ := h (n / 32) (n % 32) (by omega) (by omega)
  have e : gat f (n / 32) (n % 32) = (f n).toInt := congrArg (fun z => (f z).toInt) (show 32 * (n / 32) + n % 32 = n by omega)
  rw [e] at a1 a2 a3
  rw [lpx_t hq hk]
  exact ⟨a1, fun z => by omega, by omega, by omega⟩
theorem lpm_s {m : Nat} {z : Int64} (h : LPM g f m) (hm : m < 1024) (hz : MC z.toInt (f m).toInt) (hr : 0 ≤ z.toInt ∧ z.toInt < 1000000007) : LPM g (vp_updL f m z) (m + 1) := fun k hk => by
  obtain ⟨a1, a2, a3⟩ := h k hk
  by_cases c : k = m
  · rw [c] at a1 ⊢
    rw [vp_at]
    exact ⟨mc_t hz a1, fun _ => hr, by omega, by omega⟩
  · rw [vp_ne c]
    exact ⟨a1, fun q => a2 (by omega), a3⟩
theorem lpm_w {m : Nat} (h : LPM g f m) (hm : 1024 ≤ m) : LPM g f 1024 := fun k hk => ⟨(h k hk).1, fun _ => (h k hk).2.1 (by omega), (h k hk).2.2⟩
theorem lpm_g (h : LPM g f 1024) : GRD f := fun k hk => (h k hk).2.1 hk
theorem lpm_t (h : LPM g f 1024) {c n : Nat} (hn : c + n ≤ 32) : MC (dtm n (tmx f c)) (dtm n (fun i j => lpx g 160 (c + i) (c + j))) := mc_d n (fun i j hi hj => by
  have q := (h (32 * (c + i) + (c + j)) (by omega)).1
  rw [show (32 * (c + i) + (c + j)) / 32 = c + i by omega, show (32 * (c + i) + (c + j)) % 32 = c + j by omega] at q
  exact q)
/-- the number of trees -/
def TRV (g : GVW) (z : Int) : Prop := (g.2.2.2.2.2.2.1 = 0 ∧ z = 0) ∨ (0 < g.2.2.2.2.2.2.1 ∧ (0 ≤ z ∧ z < 1000000007) ∧ MC z (dtm (g.2.2.2.2.2.2.1.toNat - 1) (lpx g 160)))
theorem trv_u {h : GVW} (q : GEW g h) {y z : Int} (a : TRV g y) (b : TRV h z) : y = z := by
  have en : g.2.2.2.2.2.2.1 = h.2.2.2.2.2.2.1 := q.2.2.2
  have el : lpx g 160 = lpx h 160 := by
    funext i j
    unfold lpx jvq
    rw [are_x q 0, are_x q 1]
  unfold TRV at a b
  rw [en, el] at a
  rcases a with ⟨a1, a2⟩ | ⟨a1, a2, a3⟩
  · rcases b with ⟨b1, b2⟩ | ⟨b1, b2, b3⟩
    · omega
    · omega
  · rcases b with ⟨b1, b2⟩ | ⟨b1, b2, b3⟩
    · omega
    · have e := mc_t a3 (mc_y b3)
      unfold MC at e
      omega
/-- the reference leaves the first node out -/
theorem trv_r {z : Int} (hN : NDQ g) (h1 : 0 < g.2.2.2.2.2.2.1) (h2 : 0 ≤ z ∧ z < 1000000007) (h3 : MC z (dtm (g.2.2.2.2.2.2.1.toNat - 1) (fun i j => lpx g 160 (1 + i) (1 + j)))) : TRV g z := by
  refine Or.inr ⟨h1, h2, mc_t h3 ?_⟩
  obtain ⟨n, hn⟩ : ∃ n, g.2.2.2.2.2.2.1.toNat = n + 1 := ⟨g.2.2.2.2.2.2.1.toNat - 1, by omega⟩
  have l := lap_m (n := n) (L := lpx g 160) (fun i _ => by rw [lpx_r hn hN 160 (Nat.le_refl _)]; exact mc_r) (fun c _ => by
    have e : sm (fun i => lpx g 160 i c) (n + 1) = sm (lpx g 160 c) (n + 1) := sm_eq (n + 1) (fun k _ => lpx_y 160)
    rw [e, lpx_r hn hN 160 (Nat.le_refl _)]
    exact mc_r)
  rw [hn, show n + 1 - 1 = n by omega]
  refine mc_t ?_ (mc_y l)
  exact mc_d n (fun i j _ _ => by rw [Nat.add_comm 1 i, Nat.add_comm 1 j]; exact mc_r)
end LP
theorem arz_q {s : GS} (hI : Inv s) {p : Nat} {x : Int32} (e : x = s.1 112 (bs s + p)) (h : x.toInt = 0) : ARE (gvZ s) 0 p = ARE (gvZ s) 1 p := by
  have k2 : (s.2.2.1 109 19).toInt = 160 * (s.2.2.1 109 18).toInt := hI.2.2.2.2.2.2.2.2.2.1
  have i18 := inv_F hI (z := s.2.2.1 109 18) 0 1 rfl rfl
  have eb : bs s = 160 * (s.2.2.1 109 18).toNatClampNeg := by
    show (s.2.2.1 109 19).toInt.toNat = 160 * (s.2.2.1 109 18).toInt.toNat
    have := i18.1
    omega
  have z := tg_no (g := (s.2.2.1 109 18).toNatClampNeg) (x := x) (by rw [e, eb]) h
  exact (are_no z).trans (are_no z).symm
def CNB (g : GVW) (s : GS) : Prop := (s.2.2.1 76 9).toInt = g.2.2.2.2.2.2.2 → TRV g (s.2.2.1 76 10).toInt
def CNG (g : GVW) (s : GS) : Prop := (s.2.2.1 76 9).toInt = g.2.2.2.2.2.2.2 ∧ TRV g (s.2.2.1 76 10).toInt
def CNC (s : GS) : Prop := CNB (shC s) s
theorem trv_e {g h : GVW} (q : GEW g h) {z : Int} (a : TRV g z) : TRV h z := by
  have en : g.2.2.2.2.2.2.1 = h.2.2.2.2.2.2.1 := q.2.2.2
  have el : lpx g 160 = lpx h 160 := by
    funext i j
    unfold lpx jvq
    rw [are_x q 0, are_x q 1]
  unfold TRV at a ⊢
  rw [en, el] at a
  exact a
/-! LONGS AS SETS -/
def blt (x : Int64) (k : Nat) : Bool := x.toBitVec.getLsbD k
theorem sm64 : ∀ k : Fin 64, (((Int32.ofNat k.val).toInt64 &&& 63).toBitVec.smod 64#64) = BitVec.ofNat 64 k.val := by decide +kernel
theorem shl64 : ∀ k : Fin 64, (Int64.ofInt 1 <<< ((Int32.ofNat k.val).toInt64 &&& 63)).toBitVec = BitVec.twoPow 64 k.val := by decide +kernel
theorem i_n64 {u : Int32} (hu : In u 0 63) : ∃ j : Nat, j < 64 ∧ u = Int32.ofNat j ∧ u.toNatClampNeg = j ∧ u.toInt = (j : Int) := by
  have h0 := hu.1
  have h1 := hu.2
  refine ⟨u.toInt.toNat, by omega, ?_, rfl, by omega⟩
  refine i_eq.mpr ?_
  rw [Int32.toInt_ofNat_of_lt (by omega)]
  omega
section LB
variable {x y z z1 : Int64} {u : Int32} {k : Nat}
theorem blx_lt (h : blt x k = true) : k < 64 := by
  unfold blt at h
  exact Nat.lt_of_not_le fun c => by rw [BitVec.getLsbD_of_ge _ _ c] at h; cases h
theorem blx_and (e : z = x &&& y) : blt z k = (blt x k && blt y k) := by
  unfold blt
  rw [e, show (x &&& y).toBitVec = x.toBitVec &&& y.toBitVec from rfl, BitVec.getLsbD_and]
theorem blx_or (e : z = x ||| y) : blt z k = (blt x k || blt y k) := by
  unfold blt
  rw [e, show (x ||| y).toBitVec = x.toBitVec ||| y.toBitVec from rfl, BitVec.getLsbD_or]
theorem blx_not (e : z = x ^^^ Int64.ofInt (-1)) (hk : k < 64) : blt z k = !(blt x k) := by
  unfold blt
  rw [e, show (x ^^^ Int64.ofInt (-1)).toBitVec = x.toBitVec ^^^ BitVec.allOnes 64 from rfl, BitVec.getLsbD_xor, BitVec.getLsbD_allOnes]
  simp [hk]
theorem blx_z : blt (Int64.ofInt 0) k = false := by
  unfold blt
  rw [show (Int64.ofInt 0).toBitVec = 0#64 from rfl, BitVec.getLsbD_zero]
theorem blx_0 (h : x.toInt = 0) : blt x k = false := by
  rw [show x = Int64.ofInt 0 from Int64.toInt_inj.mp h]
  exact blx_z
theorem blx_nz (h : blt x k = true) : x.toInt ≠ 0 := fun e => by
  rw [blx_0 e] at h
  cases h
theorem blx_one (e : z = Int64.ofInt 1 <<< (u.toInt64 &&& 63)) (hu : In u 0 63) : blt z k = decide (k = u.toNatClampNeg) := by
  obtain ⟨j, h1, h2, h3, -⟩ := i_n64 hu
  unfold blt
  rw [h3, e, h2, shl64 ⟨j, h1⟩, BitVec.getLsbD_twoPow]
  by_cases c : j = k
  · subst c; simp [h1]
  · have c2 : ¬ k = j := fun w => c w.symm
    simp [c, c2]
theorem blx_set (e1 : z1 = Int64.ofInt 1 <<< (u.toInt64 &&& 63)) (e : z = x ||| z1) (hu : In u 0 63) : blt z k = (blt x k || decide (k = u.toNatClampNeg)) := by
  rw [blx_or e, blx_one e1 hu]
theorem blx_sh (e1 : z1 = x >>> (u.toInt64 &&& 63)) (hu : In u 0 63) : blt z1 0 = blt x u.toNatClampNeg := by
  obtain ⟨j, h1, h2, h3, -⟩ := i_n64 hu
  unfold blt
  rw [h3, e1, h2]
  show (x.toBitVec.sshiftRight' (((Int32.ofNat j).toInt64 &&& 63).toBitVec.smod 64#64)).getLsbD 0 = x.toBitVec.getLsbD j
  rw [sm64 ⟨j, h1⟩, BitVec.sshiftRight_eq', BitVec.getLsbD_sshiftRight]
  simp [h1, Nat.mod_eq_of_lt h1, Nat.mod_eq_of_lt (show j < 18446744073709551616 by omega)]
theorem blx_ask (e1 : z1 = x >>> (u.toInt64 &&& 63)) (e : z = z1 &&& Int64.ofInt 1) (hu : In u 0 63) : z.toInt = if blt x u.toNatClampNeg then 1 else 0 := by
  have h01 := inl_and2 e (l_c 1 rfl) rfl
  have hb : blt z 0 = blt x u.toNatClampNeg := by
    rw [blx_and e, blx_sh e1 hu, show blt (Int64.ofInt 1) 0 = true from rfl, Bool.and_true]
  rw [← hb]
  have a := h01.1
  have b := h01.2
  rcases (show z.toInt = 0 ∨ z.toInt = 1 by omega) with c | c
  · rw [blx_0 c, c]
    rfl
  · rw [show z = Int64.ofInt 1 from Int64.toInt_inj.mp c]
    rfl
/-! the lowest one -/
def lowL (x : Int64) (k : Nat) : Prop := x &&& -x = Int64.ofBitVec (BitVec.twoPow 64 k)
theorem low64x {x : Int64} (hx : x.toInt ≠ 0) : ∃ k : Nat, k < 64 ∧ x.toBitVec.getLsbD k = true ∧ lowL x k ∧ (bcL ((x &&& -x) - Int64.ofInt 1)).toInt = (k : Int) := by
  have hb : x.toBitVec ≠ 0#64 := fun e => hx (by
    show x.toBitVec.toInt = 0
    rw [e]
    rfl)
  obtain ⟨k, h1, h2, h3⟩ := bv_low x.toBitVec hb
  have e : x &&& -x = Int64.ofBitVec (BitVec.twoPow 64 k) := by
    rw [← h3]
    rfl
  refine ⟨k, h1, h2, e, ?_⟩
  rw [e]
  exact bcL_all ⟨k, h1⟩
theorem lowL_clr (h : lowL x k) (e1 : z1 = x - Int64.ofInt 1) (e : z = x &&& z1) {j : Nat} : blt z j = (blt x j && !(decide (j = k))) := by
  have hn : (-x).toBitVec = ~~~(x.toBitVec - 1#64) := by
    show -x.toBitVec = _
    rw [BitVec.not_sub_one_eq_not_add_one, BitVec.neg_eq_not_add]
  have h2 : x.toBitVec &&& ~~~(x.toBitVec - 1#64) = BitVec.twoPow 64 k := by
    rw [← hn]
    exact congrArg Int64.toBitVec h
  have h3 := congrArg (fun b => b.getLsbD j) h2
  simp only [BitVec.getLsbD_and, BitVec.getLsbD_not, BitVec.getLsbD_twoPow] at h3
  rw [blx_and e]
  have hz : blt z1 j = (x.toBitVec - 1#64).getLsbD j := by rw [e1]; rfl
  rw [hz]
  by_cases hj : j < 64
  · have hb : blt x j = x.toBitVec.getLsbD j := rfl
    rw [hb]
    by_cases c : j = k
    · subst c
      simp [hj] at h3 ⊢
      exact fun _ => h3.2
    · have c2 : ¬ k = j := fun w => c w.symm
      simp [hj, c2] at h3
      cases hx : x.toBitVec.getLsbD j with
      | false => simp
      | true =>
        have h4 : (x.toBitVec - 1#64).getLsbD j = true := by
          rw [BitVec.getLsbD_eq_getElem hj] at hx ⊢
          exact h3 hx
        simp [c, h4]
  · have hb : blt x j = false := BitVec.getLsbD_of_ge _ _ (by omega)
    rw [hb]
    rfl
end LB
theorem k_265m {Z : AmZ} {d : Nat} {ws : va_W} {X : AmX} {x0 : Int64} (j : Nat) (hd : 2 ≤ d) (hx : x0.toInt ≠ 0) (hj : j ≤ 63) (h0 : InL x0 0 (2 ^ j - 1)) : GC Z d 265 [.long x0] ws 0 0 (fun v u => ∃ z : Int32, v = some (.int z) ∧ u = ws ∧ In z 0 (j - 1) ∧ blt x0 z.toNatClampNeg = true ∧ lowL x0 z.toNatClampNeg) X := by
  intro post xp hP hX
  obtain ⟨k, h1, h2, h4, h3⟩ := low64x hx
  refine x_265 hd post xp (fun v u h => hP v u ⟨_, h.1, h.2, ⟨by omega, ?_⟩, by rw [clamp_eq h3]; exact h2, by rw [clamp_eq h3]; exact h4⟩) hX
  rw [h3]
  have hge : 2 ^ k ≤ x0.toBitVec.toNat := Nat.ge_two_pow_of_testBit h2
  have hlt : x0.toBitVec.toNat < 2 ^ j := by
    obtain ⟨g1, g2⟩ := h0
    have g1 : 0 ≤ x0.toBitVec.toInt := g1
    have g2 : x0.toBitVec.toInt ≤ 2 ^ j - 1 := g2
    have hl : 2 * x0.toBitVec.toNat < 2 ^ 64 := by
      rw [BitVec.toInt_eq_toNat_cond] at g1
      split at g1
      · assumption
      · have := x0.toBitVec.isLt
        omega
    rw [BitVec.toInt_eq_toNat_of_lt hl] at g2
    have : ((2 ^ j : Nat) : Int) = 2 ^ j := by norm_cast
    omega
  have hkj : k < j := by
    refine Nat.lt_of_not_le fun c => ?_
    have := Nat.pow_le_pow_right (show 0 < 2 by decide) c
    omega
  omega
/-! PATTERNS: which are good -/
def ptA (c : Int) : Prop := c = 46 ∨ (97 ≤ c ∧ c ≤ 122)
def ptR (c : Int) : Prop := c = 42 ∨ c = 43 ∨ c = 63
/-- what is wrong with c (0: nothing): b, it stands behind an atom; d, how deep it lies -/
def ptJ (c b d f : Int) : Prop := (ptR c ∧ ((b ≠ 0 ∧ f = 0) ∨ (b = 0 ∧ f = 2))) ∨ (c = 40 ∧ ((d < 10 ∧ f = 0) ∨ (10 ≤ d ∧ f = 3))) ∨ (c = 41 ∧ ((0 < d ∧ f = 0) ∨ (d ≤ 0 ∧ f = 2))) ∨ (c = 124 ∧ f = 0) ∨ (ptA c ∧ f = 0) ∨ (¬ ptR c ∧ c ≠ 40 ∧ c ≠ 41 ∧ c ≠ 124 ∧ ¬ ptA c ∧ f = 1)
section PTJ
variable {c b d f g : Int}
theorem pj_r0 (hc : c = 42 ∨ c = 43 ∨ c = 63) (hb : b ≠ 0) : ptJ c b d 0 := Or.inl ⟨hc, Or.inl ⟨hb, rfl⟩⟩
theorem pj_r2 (hc : c = 42 ∨ c = 43 ∨ c = 63) (hb : b = 0) : ptJ c b d 2 := Or.inl ⟨hc, Or.inr ⟨hb, rfl⟩⟩
theorem pj_o0 (hc : c = 40) (hd : d < 10) : ptJ c b d 0 := Or.inr (Or.inl ⟨hc, Or.inl ⟨hd, rfl⟩⟩)
theorem pj_o3 (hc : c = 40) (hd : 10 ≤ d) : ptJ c b d 3 := Or.inr (Or.inl ⟨hc, Or.inr ⟨hd, rfl⟩⟩)
theorem pj_c0 (hc : c = 41) (hd : 0 < d) : ptJ c b d 0 := Or.inr (Or.inr (Or.inl ⟨hc, Or.inl ⟨hd, rfl⟩⟩))
theorem pj_c2 (hc : c = 41) (hd : d ≤ 0) : ptJ c b d 2 := Or.inr (Or.inr (Or.inl ⟨hc, Or.inr ⟨hd, rfl⟩⟩))
theorem pj_b (hc : c = 124) : ptJ c b d 0 := Or.inr (Or.inr (Or.inr (Or.inl ⟨hc, rfl⟩)))
theorem pj_a (hc : ptA c) : ptJ c b d 0 := Or.inr (Or.inr (Or.inr (Or.inr (Or.inl ⟨hc, rfl⟩))))
theorem pj_1 (h1 : c ≠ 42) (h2 : c ≠ 43) (h3 : c ≠ 63) (h4 : c ≠ 40) (h5 : c ≠ 41) (h6 : c ≠ 124) (h7 : c ≠ 46) (h8 : c < 97 ∨ 122 < c) : ptJ c b d 1 := Or.inr (Or.inr (Or.inr (Or.inr (Or.inr ⟨by unfold ptR; omega, h4, h5, h6, by unfold ptA; omega, rfl⟩))))
theorem pj_u (h : ptJ c b d f) (k : ptJ c b d g) : f = g := by
  unfold ptJ ptR ptA at h k
  rcases h with ⟨h1, h2⟩ | ⟨h1, h2⟩ | ⟨h1, h2⟩ | ⟨h1, h2⟩ | ⟨h1, h2⟩ | ⟨h1, h2, h3, h4, h5, h6⟩ <;> rcases k with ⟨k1, k2⟩ | ⟨k1, k2⟩ | ⟨k1, k2⟩ | ⟨k1, k2⟩ | ⟨k1, k2⟩ | ⟨k1, k2, k3, k4, k5, k6⟩ <;> omega
end PTJ
/-- the first k characters are good: d, how deep it is there; b, whether an atom stands before -/
def PTS (T : Nat → Int32) : Nat → Int → Int → Prop
  | 0, d, b => d = 0 ∧ b = 0
  | k + 1, d, b => ∃ d0 b0, PTS T k d0 b0 ∧ ptJ (T k).toInt b0 d0 0 ∧ ((T k).toInt = 40 → d = d0 + 1) ∧ ((T k).toInt = 41 → d = d0 - 1) ∧ ((T k).toInt ≠ 40 → (T k).toInt ≠ 41 → d = d0) ∧ (((T k).toInt = 41 ∨ ptA (T k).toInt) → b = 1) ∧ (¬ ((T k).toInt = 41 ∨ ptA (T k).toInt) → b = 0)
section PTS
variable {T U : Nat → Int32} {k m n : Nat} {d b d2 b2 : Int}
theorem pts_s {c : Int32} (h : PTS T k d b) (hc : c = T k) (hj : ptJ c.toInt b d 0) (h1 : c.toInt = 40 → d2 = d + 1) (h2 : c.toInt = 41 → d2 = d - 1) (h3 : c.toInt ≠ 40 → c.toInt ≠ 41 → d2 = d) (h4 : (c.toInt = 41 ∨ ptA c.toInt) → b2 = 1) (h5 : ¬ (c.toInt = 41 ∨ ptA c.toInt) → b2 = 0) : PTS T (k + 1) d2 b2 := by
  subst hc
  exact ⟨d, b, h, hj, h1, h2, h3, h4, h5⟩
theorem pts_u : ∀ (k : Nat) {d b d2 b2 : Int}, PTS T k d b → PTS T k d2 b2 → d = d2 ∧ b = b2
  | 0, _, _, _, _, h, g => ⟨h.1.trans g.1.symm, h.2.trans g.2.symm⟩
  | k + 1, _, _, _, _, ⟨d0, b0, h0, _, h1, h2, h3, h4, h5⟩, ⟨e0, c0, g0, _, g1, g2, g3, g4, g5⟩ => by
    obtain ⟨e, e'⟩ := pts_u k h0 g0
    subst e
    refine ⟨?_, ?_⟩
    · by_cases q : (T k).toInt = 40
      · rw [h1 q, g1 q]
      · by_cases r : (T k).toInt = 41
        · rw [h2 r, g2 r]
        · rw [h3 q r, g3 q r]
    · by_cases q : (T k).toInt = 41 ∨ ptA (T k).toInt
      · rw [h4 q, g4 q]
      · rw [h5 q, g5 q]
theorem pts_cg : ∀ (k : Nat) {d b : Int}, (∀ i, i < k → T i = U i) → PTS T k d b → PTS U k d b
  | 0, _, _, _, h => h
  | k + 1, _, _, hT, ⟨d0, b0, h0, h⟩ => ⟨d0, b0, pts_cg k (fun i hi => hT i (by omega)) h0, by rw [← hT k (by omega)]; exact h⟩
theorem pts_p : ∀ (m : Nat) {d b : Int}, k < m → PTS T m d b → ∃ d0 b0, PTS T k d0 b0 ∧ ptJ (T k).toInt b0 d0 0
  | 0, _, _, hk, _ => absurd hk (Nat.not_lt_zero _)
  | m + 1, _, _, hk, ⟨d0, b0, h0, hj, _⟩ => by
    by_cases q : k = m
    · subst q; exact ⟨d0, b0, h0, hj⟩
    · exact pts_p m (by omega) h0
/-- what is wrong with the pattern: f, p -/
def PTX (T : Nat → Int32) (n : Nat) (f p : Int) : Prop := (∃ (k : Nat) (d b : Int), k < n ∧ PTS T k d b ∧ ptJ (T k).toInt b d f ∧ f ≠ 0 ∧ p = (k : Int)) ∨ (∃ d b : Int, PTS T n d b ∧ d ≠ 0 ∧ f = 2 ∧ p = (n : Int))
theorem ptx_n {f p : Int} (h : PTX T n f p) (g : PTS T n d b) (h0 : d = 0) : False := by
  rcases h with ⟨k, e, c, h1, h2, h3, h4, -⟩ | ⟨e, c, h1, h2, -⟩
  · obtain ⟨d0, b0, g1, g2⟩ := pts_p n h1 g
    obtain ⟨q1, q2⟩ := pts_u k h2 g1
    subst q1 q2
    exact h4 (pj_u h3 g2)
  · exact h2 ((pts_u n h1 g).1.trans h0)
theorem ptx_u {f p f2 p2 : Int} (h : PTX T n f p) (g : PTX T n f2 p2) : f = f2 ∧ p = p2 := by
  rcases h with ⟨k, e, c, h1, h2, h3, h4, h5⟩ | ⟨e, c, h1, h2, h3, h4⟩ <;> rcases g with ⟨k', e', c', g1, g2, g3, g4, g5⟩ | ⟨e', c', g1, g2, g3, g4⟩
  · have q : k = k' := by
      rcases Nat.lt_trichotomy k k' with z | z | z
      · exfalso
        obtain ⟨d0, b0, r1, r2⟩ := pts_p k' z g2
        obtain ⟨q1, q2⟩ := pts_u k h2 r1
        subst q1 q2
        exact h4 (pj_u h3 r2)
      · exact z
      · exfalso
        obtain ⟨d0, b0, r1, r2⟩ := pts_p k z h2
        obtain ⟨q1, q2⟩ := pts_u k' g2 r1
        subst q1 q2
        exact g4 (pj_u g3 r2)
    subst q
    obtain ⟨q1, q2⟩ := pts_u k h2 g2
    subst q1 q2
    exact ⟨pj_u h3 g3, h5.trans g5.symm⟩
  · exfalso
    obtain ⟨d0, b0, r1, r2⟩ := pts_p n h1 g1
    obtain ⟨q1, q2⟩ := pts_u k h2 r1
    subst q1 q2
    exact h4 (pj_u h3 r2)
  · exfalso
    obtain ⟨d0, b0, r1, r2⟩ := pts_p n g1 h1
    obtain ⟨q1, q2⟩ := pts_u k' g2 r1
    subst q1 q2
    exact g4 (pj_u g3 r2)
  · exact ⟨h3.trans g3.symm, h4.trans g4.symm⟩
theorem ptx_cg {f p : Int} (hT : ∀ i, i < n → T i = U i) (h : PTX T n f p) : PTX U n f p := by
  rcases h with ⟨k, e, c, h1, h2, h3, h4, h5⟩ | ⟨e, c, h1, h2, h3, h4⟩
  · exact Or.inl ⟨k, e, c, h1, pts_cg k (fun i hi => hT i (by omega)) h2, by rw [← hT k h1]; exact h3, h4, h5⟩
  · exact Or.inr ⟨e, c, pts_cg n hT h1, h2, h3, h4⟩
/-- how a pattern ends: z the answer, f the fault's number (0: none), p its place -/
def PTE (T : Nat → Int32) (n : Nat) (z f p : Int) : Prop := (60 < n ∧ z = -4 ∧ f = 2 ∧ p = 60) ∨ (n ≤ 60 ∧ (∃ b, PTS T n 0 b) ∧ z = 0 ∧ f = 0) ∨ (n ≤ 60 ∧ PTX T n f p ∧ z = -4)
theorem pte_u {z f p z2 f2 p2 : Int} (hT : ∀ i, i < n → T i = U i) (h : PTE T n z f p) (g : PTE U n z2 f2 p2) : z = z2 ∧ f = f2 ∧ (f ≠ 0 → p = p2) := by
  rcases h with ⟨h1, h2, h3, h4⟩ | ⟨h1, ⟨b, h2⟩, h3, h4⟩ | ⟨h1, h2, h3⟩ <;> rcases g with ⟨g1, g2, g3, g4⟩ | ⟨g1, ⟨c, g2⟩, g3, g4⟩ | ⟨g1, g2, g3⟩
  · exact ⟨by omega, by omega, fun _ => by omega⟩
  · omega
  · omega
  · omega
  · exact ⟨by omega, by omega, fun q => absurd h4 q⟩
  · exact (ptx_n g2 (pts_cg n hT h2) rfl).elim
  · omega
  · exact (ptx_n (ptx_cg hT h2) g2 rfl).elim
  · have u := ptx_u (ptx_cg hT h2) g2
    exact ⟨by omega, u.1, fun _ => u.2⟩
end PTS
/-- sign of the reference: what it says of c -/
def SGN (s t : GS) (c p : Int) : Prop := (s.2.2.1 109 23).toInt = 0 → ∃ f, ptJ c (s.2.2.1 109 98).toInt (s.2.2.1 109 96).toInt f ∧ (f ≠ 0 → (t.2.2.1 109 23).toInt = f ∧ (t.2.2.1 109 24).toInt = p) ∧ (f = 0 → (t.2.2.1 109 23).toInt = 0 ∧ (c = 40 → (t.2.2.1 109 96).toInt = (s.2.2.1 109 96).toInt + 1) ∧ (c = 41 → (t.2.2.1 109 96).toInt = (s.2.2.1 109 96).toInt - 1) ∧ (c ≠ 40 → c ≠ 41 → (t.2.2.1 109 96).toInt = (s.2.2.1 109 96).toInt) ∧ (c = 41 → (t.2.2.1 109 98).toInt = 1) ∧ (c ≠ 41 → (t.2.2.1 109 98).toInt = 0))
/-- the reference's loop: k characters are read, fk what was wrong with one, at fp -/
def PTI (T : Nat → Int32) (n : Nat) (k fk lv mr fp : Int) : Prop := (fk = 0 → PTS T k.toNat lv mr) ∧ (fk ≠ 0 → PTX T n fk fp)
theorem pti_s {T : Nat → Int32} {n : Nat} {k k2 fp : Int} {s t : GS} {c : Int32} (h : PTI T n k (s.2.2.1 109 23).toInt (s.2.2.1 109 96).toInt (s.2.2.1 109 98).toInt fp) (h0 : (s.2.2.1 109 23).toInt = 0) (hk : 0 ≤ k) (hn : k.toNat < n) (hc : c = T k.toNat) (g : SGN s t c.toInt k) (hna : c.toInt ≠ 46 ∧ (c.toInt < 97 ∨ 122 < c.toInt)) (hk2 : k2 = k + 1) : PTI T n k2 (t.2.2.1 109 23).toInt (t.2.2.1 109 96).toInt (t.2.2.1 109 98).toInt (t.2.2.1 109 24).toInt := by
  obtain ⟨f, j, a, b⟩ := g h0
  have q := h.1 h0
  by_cases z : f = 0
  · obtain ⟨b0, b1, b2, b3, b4, b5⟩ := b z
    refine ⟨fun _ => ?_, fun w => absurd b0 w⟩
    rw [hk2, show (k + 1).toNat = k.toNat + 1 by omega]
    rw [z] at j
    refine pts_s q hc j b1 b2 b3 (fun w => ?_) (fun w => ?_)
    · rcases w with w | w
      · exact b4 w
      · unfold ptA at w; omega
    · exact b5 (fun y => w (Or.inl y))
  · obtain ⟨a1, a2⟩ := a z
    refine ⟨fun w => absurd (a1.symm.trans w) z, fun _ => Or.inl ⟨k.toNat, _, _, hn, q, ?_, by rw [a1]; exact z, by rw [a2]; omega⟩⟩
    rw [a1, ← hc]; exact j
theorem pti_a {T : Nat → Int32} {n : Nat} {k k2 fk lv mr fp fk2 lv2 mr2 fp2 : Int} {c : Int32} (h : PTI T n k fk lv mr fp) (h0 : fk = 0) (hk : 0 ≤ k) (hn : k.toNat < n) (hc : c = T k.toNat) (ha : ptA c.toInt) (hk2 : k2 = k + 1) (e1 : fk2 = 0) (e2 : lv2 = lv) (e3 : mr2 = 1) : PTI T n k2 fk2 lv2 mr2 fp2 := by
  refine ⟨fun _ => ?_, fun w => absurd e1 w⟩
  rw [hk2, show (k + 1).toNat = k.toNat + 1 by omega]
  have hh : c.toInt = 46 ∨ (97 ≤ c.toInt ∧ c.toInt ≤ 122) := ha
  exact pts_s (h.1 h0) hc (pj_a ha) (fun w => by omega) (fun w => by omega) (fun _ _ => e2) (fun _ => e3) (fun w => absurd (Or.inr ha) w)
/-! PATTERNS: PLACES AND JUMPS -/
theorem wl_cl {E : Nat → Nat → Prop} {P : Nat → Prop} (h : ∀ x y, E x y → P x → P y) : ∀ (j x y : Nat), wkq E j x y → P x → P y
  | 0, x, y, q, hx => by
    have e : x = y := q
    rw [← e]
    exact hx
  | j + 1, x, y, q, hx => by
    obtain ⟨z, hz, hq⟩ := q
    exact wl_cl h j z y hq (h x z hz hx)
theorem wl_in {E : Nat → Nat → Prop} {P : Nat → Prop} (h : ∀ x y, E x y → P x → P y) {x y : Nat} (q : wlq E x y) (hx : P x) : P y := by
  obtain ⟨j, hj⟩ := q
  exact wl_cl h j x y hj hx
theorem wl_st {E : Nat → Nat → Prop} {x y : Nat} (q : wlq E x y) : x = y ∨ ∃ z, E x z ∧ wlq E z y := by
  obtain ⟨j, hj⟩ := q
  rcases j with _ | j
  · exact Or.inl hj
  · obtain ⟨z, hz, hq⟩ := hj
    exact Or.inr ⟨z, hz, j, hq⟩
/-- nothing leads away from x -/
theorem wl_no {E : Nat → Nat → Prop} {x y : Nat} (h : ∀ y, ¬ E x y) (q : wlq E x y) : y = x := by
  rcases wl_st q with e | ⟨z, hz, -⟩
  · exact e.symm
  · exact absurd hz (h z)
/-- a way past b goes by b -/
theorem pc_j {E : Nat → Nat → Prop} {b : Nat} (hc : ∀ x y, E x y → (x < b → y ≤ b) ∧ (b ≤ x → b ≤ y)) : ∀ (j x y : Nat), wkq E j x y → x ≤ b → b ≤ y → wlq E x b ∧ wlq E b y
  | 0, x, y, q, hx, hy => by
    have e : x = y := q
    have e2 : x = b := by omega
    rw [← e, e2]
    exact ⟨wl_0, wl_0⟩
  | j + 1, x, y, q, hx, hy => by
    by_cases c : x = b
    · rw [c] at q ⊢
      exact ⟨wl_0, j + 1, q⟩
    · obtain ⟨z, hz, hq⟩ := q
      have r := pc_j hc j z y hq ((hc x z hz).1 (by omega)) hy
      exact ⟨wl_tr (wl_1 hz) r.1, r.2⟩
theorem pc_r {E : Nat → Nat → Prop} {b x y : Nat} (hc : ∀ x y, E x y → (x < b → y ≤ b) ∧ (b ≤ x → b ≤ y)) (q : wlq E x y) (hx : x ≤ b) (hy : b ≤ y) : wlq E x b ∧ wlq E b y := by
  obtain ⟨j, hj⟩ := q
  exact pc_j hc j x y hj hx hy
/-- new edges only lead to places out of which nothing led -/
theorem wl_sk {E F : Nat → Nat → Prop} {S : Nat → Prop} (h1 : ∀ x y, E x y → F x y) (h2 : ∀ x y, F x y → E x y ∨ S y) (h3 : ∀ x y, F x y → S x → S y) {x y : Nat} (hy : ¬ S y) : wlq F x y ↔ wlq E x y := by
  constructor
  · rintro ⟨j, hj⟩
    have g : ∀ (j x : Nat), wkq F j x y → wlq E x y := fun j => by
      induction j with
      | zero => intro x q; exact ⟨0, q⟩
      | succ j ih =>
        intro x q
        obtain ⟨z, hz, hq⟩ := q
        have e := ih z hq
        rcases h2 x z hz with c | c
        · exact wl_tr (wl_1 c) e
        · exact absurd (wl_in h3 ⟨j, hq⟩ c) hy
    exact g j x hj
  · exact wl_mono h1
section NF
variable {k d fnd : Nat} {op q : Nat → Nat} {E : Nat → Nat → Prop} {A : Nat → Nat → Nat → Prop} {bg : Nat} {pos : Nat → Nat}
def GEO (k d : Nat) (op : Nat → Nat) (E : Nat → Nat → Prop) (q : Nat → Nat) (A : Nat → Nat → Nat → Prop) (bg : Nat) : Prop :=
  (∀ x y, E x y → x < k ∧ y ≤ k) ∧ (∀ l, l < d → q l ≤ op (l + 1)) ∧ (∀ l, 1 ≤ l → l ≤ d → op l < q l) ∧ (q d ≤ bg ∧ bg ≤ k) ∧
  (∀ l, 1 ≤ l → l ≤ d → ∀ x y, E x y → (x < op l → y ≤ op l) ∧ (op l < x → op l < y)) ∧
  (∀ l, 1 ≤ l → l ≤ d → ∀ y, E (op l) y ↔ (y = q l ∨ ∃ b, A l y b)) ∧
  (∀ l, l ≤ d → ∀ x y, E x y → q l ≤ x → q l ≤ y) ∧
  (∀ l, l ≤ d → ∀ a b, A l a b → a ≤ b ∧ b < q l ∧ (1 ≤ l → op l < a) ∧ ∀ x y, E x y → a ≤ x → x ≤ b → x < b ∧ a ≤ y ∧ y ≤ b) ∧
  (∀ l, l ≤ d → ∀ x, (1 ≤ l → op l < x) → x < q l → ∃ a b, A l a b ∧ a ≤ x ∧ x ≤ b) ∧
  (∀ l, l ≤ d → ∀ a b c e x, A l a b → A l c e → a ≤ x → x ≤ b → c ≤ x → x ≤ e → a = c ∧ b = e) ∧
  (∀ x y, E x y → (x < bg → y ≤ bg) ∧ (bg ≤ x → bg ≤ y))
def ENP (d : Nat) (op : Nat → Nat) (bg l : Nat) : Nat := if l < d then op (l + 1) else bg
def SQP (E : Nat → Nat → Prop) (fnd : Nat) (pos : Nat → Nat) (a e : Nat) (sE : Prop) (sF sL : Nat → Prop) : Prop := (sE ↔ wlq E a e) ∧ (∀ p, sF p ↔ (p < fnd ∧ pos p < e ∧ wlq E a (pos p))) ∧ (∀ p, sL p ↔ (p < fnd ∧ a ≤ pos p ∧ pos p < e ∧ wlq E (pos p + 1) e))
def AQP (E : Nat → Nat → Prop) (fnd : Nat) (pos : Nat → Nat) (B : Nat → Nat → Prop) (aE : Prop) (aF aL : Nat → Prop) : Prop := (aE ↔ ∃ a b, B a b ∧ wlq E a b) ∧ (∀ p, aF p ↔ (p < fnd ∧ ∃ a b, B a b ∧ pos p < b ∧ wlq E a (pos p))) ∧ (∀ p, aL p ↔ (p < fnd ∧ ∃ a b, B a b ∧ a ≤ pos p ∧ pos p < b ∧ wlq E (pos p + 1) b))
def NBD (d : Nat) (op : Nat → Nat) (bg x y : Nat) : Prop := (∀ l, 1 ≤ l → l ≤ d → ¬ (x < op l ∧ op l ≤ y)) ∧ ¬ (x < bg ∧ bg ≤ y)
def FQP (E : Nat → Nat → Prop) (fnd : Nat) (pos : Nat → Nat) (d : Nat) (op : Nat → Nat) (bg : Nat) (fol : Nat → Nat → Prop) : Prop := ∀ p r, fol p r ↔ (p < fnd ∧ r < fnd ∧ wlq E (pos p + 1) (pos r) ∧ NBD d op bg (pos p) (pos r))
def PQP (k d : Nat) (op : Nat → Nat) (A : Nat → Nat → Nat → Prop) (fnd : Nat) (pos : Nat → Nat) : Prop := (∀ p, p < fnd → pos p < k ∧ (∀ l, 1 ≤ l → l ≤ d → pos p ≠ op l) ∧ ∀ l, l ≤ d → ∀ a b, A l a b → pos p ≠ b) ∧ ∀ p r, p < r → r < fnd → pos p < pos r
def PIN (k d : Nat) (op : Nat → Nat) (E : Nat → Nat → Prop) (q : Nat → Nat) (A : Nat → Nat → Nat → Prop) (bg fnd : Nat) (pos : Nat → Nat) (sE : Nat → Prop) (sF sL : Nat → Nat → Prop) (aE : Nat → Prop) (aF aL : Nat → Nat → Prop) (tE : Prop) (tF tL : Nat → Prop) (fol : Nat → Nat → Prop) : Prop :=
  GEO k d op E q A bg ∧ PQP k d op A fnd pos ∧ (∀ l, l ≤ d → SQP E fnd pos (q l) (ENP d op bg l) (sE l) (sF l) (sL l)) ∧ (∀ l, l ≤ d → AQP E fnd pos (A l) (aE l) (aF l) (aL l)) ∧ (bg < k → SQP E fnd pos bg k tE tF tL) ∧ FQP E fnd pos d op bg fol
theorem geo_up (h : GEO k d op E q A bg) : ∀ m l, 1 ≤ l → l + m ≤ d → op l < q (l + m) ∧ op l ≤ op (l + m) := fun m => by
  obtain ⟨-, g2, g3, -⟩ := h
  induction m with
  | zero => intro l h1 h2; exact ⟨g3 l h1 h2, Nat.le_refl _⟩
  | succ m ih =>
    intro l h1 h2
    have a := ih l h1 (by omega)
    have b := g2 (l + m) (by omega)
    have c := g3 (l + m + 1) (by omega) (by omega)
    rw [show l + (m + 1) = l + m + 1 by omega]
    omega
theorem geo_o (h : GEO k d op E q A bg) {l : Nat} (h1 : 1 ≤ l) (h2 : l ≤ d) : op l < q d ∧ op l ≤ op d ∧ op l < bg := by
  have a := geo_up h (d - l) l h1 (by omega)
  rw [show l + (d - l) = d by omega] at a
  have b := h.2.2.2.1
  omega
theorem geo_q (h : GEO k d op E q A bg) {l : Nat} (hl : l ≤ d) : q l ≤ q d := by
  by_cases c : l = d
  · rw [c]
    exact Nat.le_refl _
  · have a := h.2.1 l (by omega)
    have b := geo_o h (l := l + 1) (by omega) (by omega)
    omega
theorem geo_en (h : GEO k d op E q A bg) {l : Nat} (hl : l ≤ d) : q l ≤ ENP d op bg l ∧ ENP d op bg l ≤ bg := by
  unfold ENP
  by_cases c : l < d
  · rw [if_pos c]
    have a := h.2.1 l c
    have b := geo_o h (l := l + 1) (by omega) (by omega)
    omega
  · rw [if_neg c]
    have e : l = d := by omega
    have b := h.2.2.2.1
    rw [e]
    omega
/-- two pieces, one behind the other -/
theorem sqp_c {a b e : Nat} {sE tE : Prop} {sF sL tF tL : Nat → Prop} (hc : ∀ x y, E x y → (x < b → y ≤ b) ∧ (b ≤ x → b ≤ y)) (hab : a ≤ b) (hbe : b ≤ e) (hs : SQP E fnd pos a b sE sF sL) (ht : SQP E fnd pos b e tE tF tL) : SQP E fnd pos a e (sE ∧ tE) (fun p => sF p ∨ (sE ∧ tF p)) (fun p => tL p ∨ (tE ∧ sL p)) := by
  obtain ⟨s1, s2, s3⟩ := hs
  obtain ⟨t1, t2, t3⟩ := ht
  refine ⟨?_, fun p => ?_, fun p => ?_⟩
  · rw [s1, t1]
    exact ⟨fun h => wl_tr h.1 h.2, fun h => pc_r hc h hab hbe⟩
  · show (sF p ∨ (sE ∧ tF p)) ↔ _
    rw [s2, s1, t2]
    constructor
    · rintro (⟨h1, h2, h3⟩ | ⟨h0, h1, h2, h3⟩)
      · exact ⟨h1, by omega, h3⟩
      · exact ⟨h1, h2, wl_tr h0 h3⟩
    · rintro ⟨h1, h2, h3⟩
      by_cases c : pos p < b
      · exact Or.inl ⟨h1, c, h3⟩
      · have r := pc_r hc h3 hab (by omega)
        exact Or.inr ⟨r.1, h1, h2, r.2⟩
  · show (tL p ∨ (tE ∧ sL p)) ↔ _
    rw [s3, t1, t3]
    constructor
    · rintro (⟨h1, h2, h3, h4⟩ | ⟨h0, h1, h2, h3, h4⟩)
      · exact ⟨h1, by omega, h3, h4⟩
      · exact ⟨h1, h2, by omega, wl_tr h4 h0⟩
    · rintro ⟨h1, h2, h3, h4⟩
      by_cases c : pos p < b
      · have r := pc_r hc h4 (by omega) hbe
        exact Or.inr ⟨r.2, h1, h2, c, r.1⟩
      · exact Or.inl ⟨h1, by omega, h3, h4⟩
variable {sE aE : Nat → Prop} {sF sL aF aL fol : Nat → Nat → Prop} {tE : Prop} {tF tL : Nat → Prop}
def upl (f : Nat → Prop) (d : Nat) (x : Prop) : Nat → Prop := fun l => if l = d then x else f l
def upr (f : Nat → Nat → Prop) (d : Nat) (x : Nat → Prop) : Nat → Nat → Prop := fun l => if l = d then x else f l
theorem upl_e {f : Nat → Prop} {x : Prop} : upl f d x d = x := if_pos rfl
theorem upl_n {f : Nat → Prop} {x : Prop} {l : Nat} (h : l ≠ d) : upl f d x l = f l := if_neg h
theorem upr_e {f : Nat → Nat → Prop} {x : Nat → Prop} : upr f d x d = x := if_pos rfl
theorem upr_n {f : Nat → Nat → Prop} {x : Nat → Prop} {l : Nat} (h : l ≠ d) : upr f d x l = f l := if_neg h
theorem geo_k (h : GEO k d op E q A bg) : GEO k d op E q A k := by
  obtain ⟨g1, g2, g3, g4, g5, g6, g7, g8, g9, g10, g11⟩ := h
  exact ⟨g1, g2, g3, ⟨by omega, Nat.le_refl _⟩, g5, g6, g7, g8, g9, g10, fun x y e => ⟨fun _ => (g1 x y e).2, fun c => absurd (g1 x y e).1 (by omega)⟩⟩
/-- the atom is put behind its sequence -/
theorem pin_fl (h : PIN k d op E q A bg fnd pos sE sF sL aE aF aL tE tF tL fol) (hb : bg < k) : PIN k d op E q A k fnd pos (upl sE d (sE d ∧ tE)) (upr sF d (fun p => sF d p ∨ (sE d ∧ tF p))) (upr sL d (fun p => tL p ∨ (tE ∧ sL d p))) aE aF aL tE tF tL (fun p r => fol p r ∨ (sL d p ∧ tF r)) := by
  obtain ⟨g, hp, hs, ha, ht, hf⟩ := h
  have t := ht hb
  have g4 := g.2.2.2.1
  have g11 := g.2.2.2.2.2.2.2.2.2.2
  have sd := hs d (Nat.le_refl _)
  have ed : ENP d op bg d = bg := if_neg (Nat.lt_irrefl _)
  rw [ed] at sd
  refine ⟨geo_k g, hp, fun l hl => ?_, ha, fun c => absurd c (Nat.lt_irrefl _), fun p r => ?_⟩
  · by_cases c : l = d
    · have e2 : ENP d op k d = k := if_neg (Nat.lt_irrefl _)
      rw [c, upl_e, upr_e, upr_e, e2]
      exact sqp_c g11 g4.1 g4.2 sd t
    · have e2 : ENP d op k l = ENP d op bg l := by
        unfold ENP
        rw [if_pos (by omega), if_pos (by omega)]
      rw [upl_n c, upr_n c, upr_n c, e2]
      exact hs l hl
  · show (fol p r ∨ (sL d p ∧ tF r)) ↔ _
    rw [hf p r, sd.2.2 p, t.2.1 r]
    constructor
    · rintro (⟨h1, h2, h3, h4, h5⟩ | ⟨⟨h1, h2, h3, h4⟩, h5, h6, h7⟩)
      · exact ⟨h1, h2, h3, h4, fun z => absurd (hp.1 r h2).1 (by omega)⟩
      · refine ⟨h1, h5, wl_tr h4 h7, fun l l1 l2 z => ?_, fun z => by omega⟩
        have := geo_o g l1 l2
        omega
    · rintro ⟨h1, h2, h3, h4, h5⟩
      by_cases c : pos p < bg ∧ bg ≤ pos r
      · have rr := pc_r g11 h3 (by omega) c.2
        refine Or.inr ⟨⟨h1, Classical.byContradiction fun z => ?_, c.1, rr.1⟩, h2, (hp.1 r h2).1, rr.2⟩
        have od : 1 ≤ d → op d < pos p := fun h1d => by
          have n1 := h4 d h1d (Nat.le_refl _)
          have n2 := (hp.1 p h1).2.1 d h1d (Nat.le_refl _)
          have n3 := geo_o g h1d (Nat.le_refl _)
          omega
        obtain ⟨a, b, hA, ha1, ha2⟩ := g.2.2.2.2.2.2.2.2.1 d (Nat.le_refl _) (pos p) od (by omega)
        have nb := (hp.1 p h1).2.2 d (Nat.le_refl _) a b hA
        have cl := g.2.2.2.2.2.2.2.1 d (Nat.le_refl _) a b hA
        have w := wl_in (P := fun x => a ≤ x ∧ x ≤ b) (fun x y e hx => by
          have := cl.2.2.2 x y e hx.1 hx.2
          omega) h3 ⟨by omega, by omega⟩
        omega
      · exact Or.inl ⟨h1, h2, h3, h4, c⟩
/-- a letter -/
theorem pin_le (h : PIN k d op E q A k fnd pos sE sF sL aE aF aL tE tF tL fol) : PIN (k + 1) d op E q A k (fnd + 1) (fun p => if p = fnd then k else pos p) sE sF sL aE aF aL False (fun p => p = fnd) (fun p => p = fnd) fol := by
  obtain ⟨⟨g1, g2, g3, g4, g5, g6, g7, g8, g9, g10, g11⟩, hp, hs, ha, -, hf⟩ := h
  have g : GEO k d op E q A k := ⟨g1, g2, g3, g4, g5, g6, g7, g8, g9, g10, g11⟩
  have nk : ∀ y, ¬ E k y := fun y e => absurd (g1 k y e).1 (Nat.lt_irrefl _)
  have nk1 : ∀ y, ¬ E (k + 1) y := fun y e => absurd (g1 _ y e).1 (by omega)
  have pn : ∀ p, p < fnd → (if p = fnd then k else pos p) = pos p := fun p hp => if_neg (by omega)
  have pf : (if fnd = fnd then k else pos fnd) = k := if_pos rfl
  have sq : ∀ {a e : Nat} {uE : Prop} {uF uL : Nat → Prop}, e ≤ k → SQP E fnd pos a e uE uF uL → SQP E (fnd + 1) (fun p => if p = fnd then k else pos p) a e uE uF uL := fun {a e uE uF uL} he h => by
    obtain ⟨u1, u2, u3⟩ := h
    refine ⟨u1, fun p => ?_, fun p => ?_⟩
    · rw [u2 p]
      show _ ↔ (p < fnd + 1 ∧ (if p = fnd then k else pos p) < e ∧ wlq E a (if p = fnd then k else pos p))
      by_cases c : p = fnd
      · rw [if_pos c]
        exact ⟨fun z => absurd z.1 (by omega), fun z => absurd z.2.1 (by omega)⟩
      · rw [if_neg c]
        exact ⟨fun z => ⟨by omega, z.2⟩, fun z => ⟨by omega, z.2⟩⟩
    · rw [u3 p]
      show _ ↔ (p < fnd + 1 ∧ a ≤ (if p = fnd then k else pos p) ∧ (if p = fnd then k else pos p) < e ∧ wlq E ((if p = fnd then k else pos p) + 1) e)
      by_cases c : p = fnd
      · rw [if_pos c]
        exact ⟨fun z => absurd z.1 (by omega), fun z => absurd z.2.2.1 (by omega)⟩
      · rw [if_neg c]
        exact ⟨fun z => ⟨by omega, z.2⟩, fun z => ⟨by omega, z.2⟩⟩
  refine ⟨⟨fun x y e => ⟨Nat.lt_succ_of_lt (g1 x y e).1, Nat.le_succ_of_le (g1 x y e).2⟩, g2, g3, ⟨g4.1, by omega⟩, g5, g6, g7, g8, g9, g10, g11⟩, ⟨fun p hpf => ?_, fun p r h1 h2 => ?_⟩, fun l hl => sq (geo_en g hl).2 (hs l hl), fun l hl => ?_, fun _ => ⟨⟨False.elim, fun z => by have := wl_no nk z; omega⟩, fun p => ?_, fun p => ?_⟩, fun p r => ?_⟩
  · show (if p = fnd then k else pos p) < k + 1 ∧ (∀ l, 1 ≤ l → l ≤ d → (if p = fnd then k else pos p) ≠ op l) ∧ ∀ l, l ≤ d → ∀ a b, A l a b → (if p = fnd then k else pos p) ≠ b
    by_cases c : p = fnd
    · rw [if_pos c]
      refine ⟨by omega, fun l l1 l2 z => ?_, fun l hl a b hA z => ?_⟩
      · have := geo_o g l1 l2
        omega
      · have := (g8 l hl a b hA).2.1
        have := geo_q g hl
        omega
    · rw [if_neg c]
      have hq := hp.1 p (by omega)
      exact ⟨by omega, hq.2.1, hq.2.2⟩
  · show (if p = fnd then k else pos p) < (if r = fnd then k else pos r)
    rw [if_neg (by omega)]
    by_cases c : r = fnd
    · rw [if_pos c]
      exact (hp.1 p (by omega)).1
    · rw [if_neg c]
      exact hp.2 p r h1 (by omega)
  · obtain ⟨u1, u2, u3⟩ := ha l hl
    have lt : ∀ a b, A l a b → b < k := fun a b hA => by
      have := (g8 l hl a b hA).2.1
      have := geo_q g hl
      omega
    refine ⟨u1, fun p => ?_, fun p => ?_⟩
    · rw [u2 p]
      show _ ↔ (p < fnd + 1 ∧ ∃ a b, A l a b ∧ (if p = fnd then k else pos p) < b ∧ wlq E a (if p = fnd then k else pos p))
      by_cases c : p = fnd
      · rw [if_pos c]
        exact ⟨fun z => absurd z.1 (by omega), fun ⟨_, a, b, hA, hz, _⟩ => absurd (lt a b hA) (by omega)⟩
      · rw [if_neg c]
        exact ⟨fun z => ⟨by omega, z.2⟩, fun z => ⟨by omega, z.2⟩⟩
    · rw [u3 p]
      show _ ↔ (p < fnd + 1 ∧ ∃ a b, A l a b ∧ a ≤ (if p = fnd then k else pos p) ∧ (if p = fnd then k else pos p) < b ∧ wlq E ((if p = fnd then k else pos p) + 1) b)
      by_cases c : p = fnd
      · rw [if_pos c]
        exact ⟨fun z => absurd z.1 (by omega), fun ⟨_, a, b, hA, _, hz, _⟩ => absurd (lt a b hA) (by omega)⟩
      · rw [if_neg c]
        exact ⟨fun z => ⟨by omega, z.2⟩, fun z => ⟨by omega, z.2⟩⟩
  · show p = fnd ↔ (p < fnd + 1 ∧ (if p = fnd then k else pos p) < k + 1 ∧ wlq E k (if p = fnd then k else pos p))
    by_cases c : p = fnd
    · rw [if_pos c]
      exact ⟨fun _ => ⟨by omega, by omega, wl_0⟩, fun _ => c⟩
    · rw [if_neg c]
      refine ⟨fun z => absurd z c, fun z => ?_⟩
      have e := wl_no nk z.2.2
      have := (hp.1 p (by omega)).1
      omega
  · show p = fnd ↔ (p < fnd + 1 ∧ k ≤ (if p = fnd then k else pos p) ∧ (if p = fnd then k else pos p) < k + 1 ∧ wlq E ((if p = fnd then k else pos p) + 1) (k + 1))
    by_cases c : p = fnd
    · rw [if_pos c]
      exact ⟨fun _ => ⟨by omega, by omega, by omega, wl_0⟩, fun _ => c⟩
    · rw [if_neg c]
      refine ⟨fun z => absurd z c, fun z => ?_⟩
      have := (hp.1 p (by omega)).1
      omega
  · rw [hf p r]
    show _ ↔ (p < fnd + 1 ∧ r < fnd + 1 ∧ wlq E ((if p = fnd then k else pos p) + 1) (if r = fnd then k else pos r) ∧ NBD d op k (if p = fnd then k else pos p) (if r = fnd then k else pos r))
    by_cases c : p = fnd
    · rw [if_pos c]
      refine ⟨fun z => absurd z.1 (by omega), fun z => ?_⟩
      have e := wl_no nk1 z.2.2.1
      by_cases c2 : r = fnd
      · rw [if_pos c2] at e
        omega
      · rw [if_neg c2] at e
        have := (hp.1 r (by omega)).1
        omega
    · rw [if_neg c]
      by_cases c2 : r = fnd
      · rw [if_pos c2]
        refine ⟨fun z => absurd z.2.1 (by omega), fun z => ?_⟩
        exact absurd ⟨(hp.1 p (by omega)).1, Nat.le_refl _⟩ z.2.2.2.2
      · rw [if_neg c2]
        exact ⟨fun z => ⟨by omega, by omega, z.2.2⟩, fun z => ⟨by omega, by omega, z.2.2⟩⟩
end NF
/-! PATTERNS: BRACKETS, BARS, SIGNS -/
section NG
variable {k d fnd : Nat} {op q : Nat → Nat} {E F : Nat → Nat → Prop} {A : Nat → Nat → Nat → Prop} {bg : Nat} {pos : Nat → Nat} {sE aE : Nat → Prop} {sF sL aF aL fol : Nat → Nat → Prop} {tE : Prop} {tF tL : Nat → Prop}
theorem sqp_x {a e : Nat} {uE : Prop} {uF uL : Nat → Prop} (hx : ∀ x y, x ≤ e → y ≤ e → (wlq F x y ↔ wlq E x y)) (ha : a ≤ e) (h : SQP E fnd pos a e uE uF uL) : SQP F fnd pos a e uE uF uL := by
  obtain ⟨u1, u2, u3⟩ := h
  refine ⟨u1.trans (hx a e ha (Nat.le_refl _)).symm, fun p => (u2 p).trans ?_, fun p => (u3 p).trans ?_⟩
  · exact ⟨fun z => ⟨z.1, z.2.1, (hx _ _ ha (Nat.le_of_lt z.2.1)).mpr z.2.2⟩, fun z => ⟨z.1, z.2.1, (hx _ _ ha (Nat.le_of_lt z.2.1)).mp z.2.2⟩⟩
  · exact ⟨fun z => ⟨z.1, z.2.1, z.2.2.1, (hx _ _ z.2.2.1 (Nat.le_refl _)).mpr z.2.2.2⟩, fun z => ⟨z.1, z.2.1, z.2.2.1, (hx _ _ z.2.2.1 (Nat.le_refl _)).mp z.2.2.2⟩⟩
theorem aqp_x {m : Nat} {B : Nat → Nat → Prop} {uE : Prop} {uF uL : Nat → Prop} (hx : ∀ x y, x ≤ m → y ≤ m → (wlq F x y ↔ wlq E x y)) (hB : ∀ a b, B a b → a ≤ b ∧ b ≤ m) (h : AQP E fnd pos B uE uF uL) : AQP F fnd pos B uE uF uL := by
  obtain ⟨u1, u2, u3⟩ := h
  have w : ∀ a b, B a b → ∀ x y, x ≤ b → y ≤ b → (wlq F x y ↔ wlq E x y) := fun a b hb x y h1 h2 => by
    have := (hB a b hb).2
    exact hx x y (by omega) (by omega)
  refine ⟨u1.trans ?_, fun p => (u2 p).trans ?_, fun p => (u3 p).trans ?_⟩
  · exact ⟨fun ⟨a, b, hb, z⟩ => ⟨a, b, hb, (w a b hb _ _ (hB a b hb).1 (Nat.le_refl _)).mpr z⟩, fun ⟨a, b, hb, z⟩ => ⟨a, b, hb, (w a b hb _ _ (hB a b hb).1 (Nat.le_refl _)).mp z⟩⟩
  · exact ⟨fun ⟨h1, a, b, hb, h2, z⟩ => ⟨h1, a, b, hb, h2, (w a b hb _ _ (hB a b hb).1 (Nat.le_of_lt h2)).mpr z⟩, fun ⟨h1, a, b, hb, h2, z⟩ => ⟨h1, a, b, hb, h2, (w a b hb _ _ (hB a b hb).1 (Nat.le_of_lt h2)).mp z⟩⟩
  · exact ⟨fun ⟨h1, a, b, hb, h2, h3, z⟩ => ⟨h1, a, b, hb, h2, h3, (w a b hb _ _ h3 (Nat.le_refl _)).mpr z⟩, fun ⟨h1, a, b, hb, h2, h3, z⟩ => ⟨h1, a, b, hb, h2, h3, (w a b hb _ _ h3 (Nat.le_refl _)).mp z⟩⟩
theorem geo_ol (h : GEO k d op E q A bg) {l m : Nat} (h1 : 1 ≤ l) (hlm : l < m) (hm : m ≤ d) : op l < op m := by
  have a := h.2.2.1 l h1 (by omega)
  have b := h.2.1 l (by omega)
  have c := geo_up h (m - (l + 1)) (l + 1) (by omega) (by omega)
  rw [show l + 1 + (m - (l + 1)) = m by omega] at c
  omega
theorem geo_a (h : GEO k d op E q A bg) {l a b : Nat} (hl : l ≤ d) (hA : A l a b) : a ≤ b ∧ b < q l ∧ b < bg := by
  have c := h.2.2.2.2.2.2.2.1 l hl a b hA
  have e := geo_q h hl
  have f := h.2.2.2.1
  exact ⟨c.1, c.2.1, by omega⟩
theorem enp_d : ENP d op bg d = bg := if_neg (Nat.lt_irrefl _)
/-! an opening bracket -/
theorem pin_op (h : PIN k d op E q A k fnd pos sE sF sL aE aF aL tE tF tL fol) : PIN (k + 1) (d + 1) (fun l => if l = d + 1 then k else op l) (fun x y => E x y ∨ (x = k ∧ y = k + 1)) (fun l => if l = d + 1 then k + 1 else q l) (fun l a b => l ≠ d + 1 ∧ A l a b) (k + 1) fnd pos (upl sE (d + 1) True) (upr sF (d + 1) (fun _ => False)) (upr sL (d + 1) (fun _ => False)) (upl aE (d + 1) False) (upr aF (d + 1) (fun _ => False)) (upr aL (d + 1) (fun _ => False)) tE tF tL fol := by
  obtain ⟨g, hp, hs, ha, -, hf⟩ := h
  have g' := g
  obtain ⟨g1, g2, g3, g4, g5, g6, g7, g8, g9, g10, g11⟩ := g'
  have on : ∀ l, l ≤ d → (if l = d + 1 then k else op l) = op l := fun l hl => if_neg (by omega)
  have qn : ∀ l, l ≤ d → (if l = d + 1 then k + 1 else q l) = q l := fun l hl => if_neg (by omega)
  have oe : (if d + 1 = d + 1 then k else op (d + 1)) = k := if_pos rfl
  have qe : (if d + 1 = d + 1 then k + 1 else q (d + 1)) = k + 1 := if_pos rfl
  have rx : ∀ x y, y ≤ k → (wlq (fun x y => E x y ∨ (x = k ∧ y = k + 1)) x y ↔ wlq E x y) := fun x y hy => wl_sk (S := fun z => z = k + 1) (fun x y e => Or.inl e) (fun x y e => e.imp id (fun z => z.2)) (fun x y e hx => by
    have hx2 : x = k + 1 := hx
    rcases e with e | e
    · exact absurd (g1 x y e).1 (by omega)
    · omega) (by omega)
  have no1 : ∀ y, ¬ (E (k + 1) y ∨ (k + 1 = k ∧ y = k + 1)) := fun y e => by
    rcases e with e | e
    · exact absurd (g1 _ y e).1 (by omega)
    · omega
  refine ⟨⟨fun x y e => ?_, fun l hl => ?_, fun l l1 l2 => ?_, ?_, fun l l1 l2 x y e => ?_, fun l l1 l2 y => ?_, fun l hl x y e hx => ?_, fun l hl a b hA => ?_, fun l hl x h1 h2 => ?_, fun l hl a b c e x h1 h2 => g10 l (by omega) a b c e x h1.2 h2.2, fun x y e => ?_⟩, ⟨fun p hpf => ?_, hp.2⟩, fun l hl => ?_, fun l hl => ?_, fun c => absurd c (Nat.lt_irrefl _), fun p r => (hf p r).trans ?_⟩
  · rcases e with e | e
    · have := g1 x y e
      omega
    · omega
  · show (if l = d + 1 then k + 1 else q l) ≤ (if l + 1 = d + 1 then k else op (l + 1))
    rw [qn l (by omega)]
    by_cases c : l = d
    · rw [if_pos (by omega), c]
      exact g4.1
    · rw [if_neg (by omega)]
      exact g2 l (by omega)
  · show (if l = d + 1 then k else op l) < (if l = d + 1 then k + 1 else q l)
    by_cases c : l = d + 1
    · rw [if_pos c, if_pos c]
      omega
    · rw [if_neg c, if_neg c]
      exact g3 l l1 (by omega)
  · show (if d + 1 = d + 1 then k + 1 else q (d + 1)) ≤ k + 1 ∧ k + 1 ≤ k + 1
    rw [qe]
    omega
  · show (x < (if l = d + 1 then k else op l) → y ≤ (if l = d + 1 then k else op l)) ∧ ((if l = d + 1 then k else op l) < x → (if l = d + 1 then k else op l) < y)
    by_cases c : l = d + 1
    · rw [if_pos c]
      rcases e with e | e
      · have := g1 x y e
        omega
      · omega
    · rw [if_neg c]
      have o := geo_o g l1 (show l ≤ d by omega)
      rcases e with e | e
      · exact g5 l l1 (by omega) x y e
      · omega
  · show (E (if l = d + 1 then k else op l) y ∨ ((if l = d + 1 then k else op l) = k ∧ y = k + 1)) ↔ (y = (if l = d + 1 then k + 1 else q l) ∨ ∃ b, l ≠ d + 1 ∧ A l y b)
    by_cases c : l = d + 1
    · rw [if_pos c, if_pos c]
      exact ⟨fun z => z.elim (fun e => absurd (g1 _ y e).1 (Nat.lt_irrefl _)) (fun e => Or.inl e.2), fun z => z.elim (fun e => Or.inr ⟨rfl, e⟩) (fun ⟨b, hb, _⟩ => absurd c hb)⟩
    · rw [if_neg c, if_neg c]
      have o := geo_o g l1 (show l ≤ d by omega)
      have w := g6 l l1 (by omega) y
      exact ⟨fun z => z.elim (fun e => (w.mp e).imp id (fun ⟨b, hb⟩ => ⟨b, c, hb⟩)) (fun e => by omega), fun z => Or.inl (w.mpr (z.imp id (fun ⟨b, hb⟩ => ⟨b, hb.2⟩)))⟩
  · have hx2 : (if l = d + 1 then k + 1 else q l) ≤ x := hx
    show (if l = d + 1 then k + 1 else q l) ≤ y
    by_cases c : l = d + 1
    · rw [if_pos c] at hx2
      rcases e with e | e
      · have := g1 x y e
        omega
      · omega
    · rw [if_neg c] at hx2 ⊢
      rcases e with e | e
      · exact g7 l (by omega) x y e hx2
      · omega
  · have o := g8 l (by omega) a b hA.2
    have q1 := geo_q g (show l ≤ d by omega)
    show a ≤ b ∧ b < (if l = d + 1 then k + 1 else q l) ∧ (1 ≤ l → (if l = d + 1 then k else op l) < a) ∧ _
    rw [if_neg hA.1, if_neg hA.1]
    refine ⟨o.1, o.2.1, o.2.2.1, fun x y e h1 h2 => ?_⟩
    rcases e with e | e
    · exact o.2.2.2 x y e h1 h2
    · omega
  · have h1' : 1 ≤ l → (if l = d + 1 then k else op l) < x := h1
    have h2' : x < (if l = d + 1 then k + 1 else q l) := h2
    by_cases c : l = d + 1
    · rw [if_pos c] at h1' h2'
      have := h1' (by omega)
      omega
    · rw [if_neg c] at h1' h2'
      obtain ⟨a, b, hA, hz⟩ := g9 l (by omega) x h1' h2'
      exact ⟨a, b, ⟨c, hA⟩, hz⟩
  · rcases e with e | e
    · have := g1 x y e
      omega
    · omega
  · have w := hp.1 p hpf
    refine ⟨by omega, fun l l1 l2 => ?_, fun l hl a b hA => w.2.2 l (by omega) a b hA.2⟩
    show pos p ≠ (if l = d + 1 then k else op l)
    by_cases c : l = d + 1
    · rw [if_pos c]
      omega
    · rw [if_neg c]
      exact w.2.1 l l1 (by omega)
  · show SQP _ fnd pos (if l = d + 1 then k + 1 else q l) (ENP (d + 1) (fun l => if l = d + 1 then k else op l) (k + 1) l) (upl sE (d + 1) True l) (upr sF (d + 1) (fun _ => False) l) (upr sL (d + 1) (fun _ => False) l)
    by_cases c : l = d + 1
    · rw [c, if_pos rfl, enp_d, upl_e, upr_e, upr_e]
      refine ⟨⟨fun _ => wl_0, fun _ => trivial⟩, fun p => ⟨False.elim, fun z => ?_⟩, fun p => ⟨False.elim, fun z => ?_⟩⟩
      · have e := wl_no no1 z.2.2
        omega
      · omega
    · have e : ENP (d + 1) (fun l => if l = d + 1 then k else op l) (k + 1) l = ENP d op k l := by
        unfold ENP
        rw [if_pos (by omega)]
        by_cases c2 : l < d
        · rw [if_pos c2, if_neg (by omega)]
        · rw [if_neg c2, if_pos (by omega)]
      rw [if_neg c, upl_n c, upr_n c, upr_n c, e]
      have en := geo_en g (show l ≤ d by omega)
      exact sqp_x (fun x y _ hy => rx x y (by omega)) en.1 (hs l (by omega))
  · show AQP _ fnd pos (fun a b => l ≠ d + 1 ∧ A l a b) (upl aE (d + 1) False l) (upr aF (d + 1) (fun _ => False) l) (upr aL (d + 1) (fun _ => False) l)
    by_cases c : l = d + 1
    · rw [c, upl_e, upr_e, upr_e]
      exact ⟨⟨False.elim, fun ⟨a, b, hA, _⟩ => hA.1 rfl⟩, fun p => ⟨False.elim, fun ⟨_, a, b, hA, _⟩ => hA.1 rfl⟩, fun p => ⟨False.elim, fun ⟨_, a, b, hA, _⟩ => hA.1 rfl⟩⟩
    · rw [upl_n c, upr_n c, upr_n c, show (fun a b => l ≠ d + 1 ∧ A l a b) = A l from funext fun a => funext fun b => propext ⟨fun z => z.2, fun z => ⟨c, z⟩⟩]
      exact aqp_x (m := k) (fun x y _ hy => rx x y hy) (fun a b hA => by
        have := geo_a g (show l ≤ d by omega) hA
        omega) (ha l (by omega))
  · have key : r < fnd → (wlq (fun x y => E x y ∨ (x = k ∧ y = k + 1)) (pos p + 1) (pos r) ↔ wlq E (pos p + 1) (pos r)) := fun hr => rx _ _ (Nat.le_of_lt (hp.1 r hr).1)
    constructor
    · rintro ⟨h1, h2, h3, h4, h5⟩
      refine ⟨h1, h2, (key h2).mpr h3, fun l l1 l2 z => ?_, fun z => ?_⟩
      · have z2 : pos p < (if l = d + 1 then k else op l) ∧ (if l = d + 1 then k else op l) ≤ pos r := z
        by_cases c : l = d + 1
        · rw [if_pos c] at z2
          have := (hp.1 r h2).1
          omega
        · rw [if_neg c] at z2
          exact h4 l l1 (by omega) z2
      · have := (hp.1 r h2).1
        omega
    · rintro ⟨h1, h2, h3, h4, h5⟩
      refine ⟨h1, h2, (key h2).mp h3, fun l l1 l2 z => h4 l l1 (by omega) ?_, fun z => ?_⟩
      · show pos p < (if l = d + 1 then k else op l) ∧ (if l = d + 1 then k else op l) ≤ pos r
        rw [on l l2]
        exact z
      · have := (hp.1 r h2).1
        omega
/-! a bar -/
theorem pin_ba (h : PIN k d op E q A k fnd pos sE sF sL aE aF aL tE tF tL fol) : PIN (k + 1) d op (fun x y => E x y ∨ (1 ≤ d ∧ x = op d ∧ y = k + 1)) (fun l => if l = d then k + 1 else q l) (fun l a b => A l a b ∨ (l = d ∧ a = q d ∧ b = k)) (k + 1) fnd pos (upl sE d True) (upr sF d (fun _ => False)) (upr sL d (fun _ => False)) (upl aE d (aE d ∨ sE d)) (upr aF d (fun p => aF d p ∨ sF d p)) (upr aL d (fun p => aL d p ∨ sL d p)) tE tF tL fol := by
  obtain ⟨g, hp, hs, ha, -, hf⟩ := h
  have g' := g
  obtain ⟨g1, g2, g3, g4, g5, g6, g7, g8, g9, g10, g11⟩ := g'
  have od : 1 ≤ d → op d < q d := fun h1 => g3 d h1 (Nat.le_refl _)
  have rx : ∀ x y, y ≤ k → (wlq (fun x y => E x y ∨ (1 ≤ d ∧ x = op d ∧ y = k + 1)) x y ↔ wlq E x y) := fun x y hy => wl_sk (S := fun z => z = k + 1) (fun x y e => Or.inl e) (fun x y e => e.imp id (fun z => z.2.2)) (fun x y e hx => by
    have hx2 : x = k + 1 := hx
    rcases e with e | e
    · exact absurd (g1 x y e).1 (by omega)
    · have := od e.1
      omega) (by omega)
  have no1 : ∀ y, ¬ (E (k + 1) y ∨ (1 ≤ d ∧ k + 1 = op d ∧ y = k + 1)) := fun y e => by
    rcases e with e | e
    · exact absurd (g1 _ y e).1 (by omega)
    · have := od e.1
      omega
  have sd := hs d (Nat.le_refl _)
  rw [enp_d] at sd
  refine ⟨⟨fun x y e => ?_, fun l hl => ?_, fun l l1 l2 => ?_, ?_, fun l l1 l2 x y e => ?_, fun l l1 l2 y => ?_, fun l hl x y e hx => ?_, fun l hl a b hA => ?_, fun l hl x h1 h2 => ?_, fun l hl a b c e x h1 h2 h3 h4 h5 h6 => ?_, fun x y e => ?_⟩, ⟨fun p hpf => ?_, hp.2⟩, fun l hl => ?_, fun l hl => ?_, fun c => absurd c (Nat.lt_irrefl _), fun p r => (hf p r).trans ?_⟩
  · rcases e with e | e
    · have := g1 x y e
      omega
    · have := od e.1
      omega
  · show (if l = d then k + 1 else q l) ≤ op (l + 1)
    rw [if_neg (by omega)]
    exact g2 l hl
  · show op l < (if l = d then k + 1 else q l)
    have := geo_o g l1 l2
    by_cases c : l = d
    · rw [if_pos c]
      omega
    · rw [if_neg c]
      exact g3 l l1 l2
  · show (if d = d then k + 1 else q d) ≤ k + 1 ∧ k + 1 ≤ k + 1
    rw [if_pos rfl]
    omega
  · rcases e with e | e
    · exact g5 l l1 l2 x y e
    · have := geo_o g l1 l2
      omega
  · show (E (op l) y ∨ (1 ≤ d ∧ op l = op d ∧ y = k + 1)) ↔ (y = (if l = d then k + 1 else q l) ∨ ∃ b, A l y b ∨ (l = d ∧ y = q d ∧ b = k))
    rw [g6 l l1 l2 y]
    by_cases c : l = d
    · rw [if_pos c]
      constructor
      · rintro ((e | ⟨b, e⟩) | e)
        · exact Or.inr ⟨k, Or.inr ⟨c, by rw [e, c], rfl⟩⟩
        · exact Or.inr ⟨b, Or.inl e⟩
        · exact Or.inl e.2.2
      · rintro (e | ⟨b, e | e⟩)
        · exact Or.inr ⟨by omega, by rw [c], e⟩
        · exact Or.inl (Or.inr ⟨b, e⟩)
        · exact Or.inl (Or.inl (by rw [c]; exact e.2.1))
    · rw [if_neg c]
      have o := geo_ol g l1 (show l < d by omega) (Nat.le_refl _)
      exact ⟨fun z => z.elim (fun e => e.imp id (fun ⟨b, e⟩ => ⟨b, Or.inl e⟩)) (fun e => by omega), fun z => Or.inl (z.imp id (fun ⟨b, e⟩ => ⟨b, e.elim id (fun e => absurd e.1 c)⟩))⟩
  · have hx2 : (if l = d then k + 1 else q l) ≤ x := hx
    show (if l = d then k + 1 else q l) ≤ y
    by_cases c : l = d
    · rw [if_pos c] at hx2
      rcases e with e | e
      · have := g1 x y e
        omega
      · have := od e.1
        omega
    · rw [if_neg c] at hx2 ⊢
      rcases e with e | e
      · exact g7 l hl x y e hx2
      · have := geo_q g hl
        omega
  · show a ≤ b ∧ b < (if l = d then k + 1 else q l) ∧ (1 ≤ l → op l < a) ∧ _
    rcases hA with hA | ⟨e1, e2, e3⟩
    · have o := g8 l hl a b hA
      have qq := geo_q g hl
      refine ⟨o.1, ?_, o.2.2.1, fun x y e h1 h2 => ?_⟩
      · by_cases c : l = d
        · rw [if_pos c]
          omega
        · rw [if_neg c]
          exact o.2.1
      · rcases e with e | e
        · exact o.2.2.2 x y e h1 h2
        · by_cases c : l = d
          · have := o.2.2.1 (by omega)
            rw [c] at this
            omega
          · have w := g2 l (by omega)
            have w2 := geo_o g (l := l + 1) (by omega) (by omega)
            omega
    · rw [if_pos e1, e2, e3]
      refine ⟨by omega, by omega, fun h1 => by rw [e1]; exact od (by omega), fun x y e h1 h2 => ?_⟩
      rcases e with e | e
      · have w1 := g1 x y e
        have w2 := g7 d (Nat.le_refl _) x y e h1
        omega
      · have := od e.1
        omega
  · have h2' : x < (if l = d then k + 1 else q l) := h2
    by_cases c : l = d
    · rw [if_pos c] at h2'
      by_cases c2 : x < q d
      · obtain ⟨a, b, hA, hz⟩ := g9 l hl x h1 (by rw [c]; exact c2)
        exact ⟨a, b, Or.inl hA, hz⟩
      · exact ⟨q d, k, Or.inr ⟨c, rfl, rfl⟩, by omega, by omega⟩
    · rw [if_neg c] at h2'
      obtain ⟨a, b, hA, hz⟩ := g9 l hl x h1 h2'
      exact ⟨a, b, Or.inl hA, hz⟩
  · rcases h1 with h1 | ⟨e1, e2, e3⟩ <;> rcases h2 with h2 | ⟨f1, f2, f3⟩
    · exact g10 l hl a b c e x h1 h2 h3 h4 h5 h6
    · have := geo_a g hl h1
      rw [f1] at this
      omega
    · have := geo_a g hl h2
      rw [e1] at this
      omega
    · omega
  · rcases e with e | e
    · have := g1 x y e
      omega
    · have := od e.1
      omega
  · have w := hp.1 p hpf
    refine ⟨by omega, w.2.1, fun l hl a b hA => ?_⟩
    rcases hA with hA | hA
    · exact w.2.2 l hl a b hA
    · omega
  · show SQP _ fnd pos (if l = d then k + 1 else q l) (ENP d op (k + 1) l) (upl sE d True l) (upr sF d (fun _ => False) l) (upr sL d (fun _ => False) l)
    by_cases c : l = d
    · rw [c, if_pos rfl, enp_d, upl_e, upr_e, upr_e]
      refine ⟨⟨fun _ => wl_0, fun _ => trivial⟩, fun p => ⟨False.elim, fun z => ?_⟩, fun p => ⟨False.elim, fun z => ?_⟩⟩
      · have e := wl_no no1 z.2.2
        omega
      · omega
    · have e : ENP d op (k + 1) l = ENP d op k l := by
        unfold ENP
        rw [if_pos (by omega), if_pos (by omega)]
      rw [if_neg c, upl_n c, upr_n c, upr_n c, e]
      have en := geo_en g hl
      exact sqp_x (fun x y _ hy => rx x y (by omega)) en.1 (hs l hl)
  · show AQP _ fnd pos (fun a b => A l a b ∨ (l = d ∧ a = q d ∧ b = k)) (upl aE d (aE d ∨ sE d) l) (upr aF d (fun p => aF d p ∨ sF d p) l) (upr aL d (fun p => aL d p ∨ sL d p) l)
    by_cases c : l = d
    · rw [c, upl_e, upr_e, upr_e]
      have an := aqp_x (F := fun x y => E x y ∨ (1 ≤ d ∧ x = op d ∧ y = k + 1)) (m := k) (fun x y _ hy => rx x y hy) (fun a b hA => by
        have := geo_a g (Nat.le_refl d) hA
        omega) (ha d (Nat.le_refl _))
      have sn := sqp_x (F := fun x y => E x y ∨ (1 ≤ d ∧ x = op d ∧ y = k + 1)) (fun x y _ hy => rx x y hy) g4.1 sd
      refine ⟨?_, fun p => ?_, fun p => ?_⟩
      · rw [an.1, sn.1]
        exact ⟨fun z => z.elim (fun ⟨a, b, hA, z⟩ => ⟨a, b, Or.inl hA, z⟩) (fun z => ⟨q d, k, Or.inr ⟨rfl, rfl, rfl⟩, z⟩), fun ⟨a, b, hA, z⟩ => hA.elim (fun hA => Or.inl ⟨a, b, hA, z⟩) (fun e => Or.inr (by rw [e.2.1, e.2.2] at z; exact z))⟩
      · show (aF d p ∨ sF d p) ↔ _
        rw [an.2.1 p, sn.2.1 p]
        exact ⟨fun z => z.elim (fun ⟨h1, a, b, hA, z⟩ => ⟨h1, a, b, Or.inl hA, z⟩) (fun z => ⟨z.1, q d, k, Or.inr ⟨rfl, rfl, rfl⟩, z.2⟩), fun ⟨h1, a, b, hA, z⟩ => hA.elim (fun hA => Or.inl ⟨h1, a, b, hA, z⟩) (fun e => Or.inr (by rw [e.2.1, e.2.2] at z; exact ⟨h1, z⟩))⟩
      · show (aL d p ∨ sL d p) ↔ _
        rw [an.2.2 p, sn.2.2 p]
        exact ⟨fun z => z.elim (fun ⟨h1, a, b, hA, z⟩ => ⟨h1, a, b, Or.inl hA, z⟩) (fun z => ⟨z.1, q d, k, Or.inr ⟨rfl, rfl, rfl⟩, z.2⟩), fun ⟨h1, a, b, hA, z⟩ => hA.elim (fun hA => Or.inl ⟨h1, a, b, hA, z⟩) (fun e => Or.inr (by rw [e.2.1, e.2.2] at z; exact ⟨h1, z⟩))⟩
    · rw [upl_n c, upr_n c, upr_n c, show (fun a b => A l a b ∨ (l = d ∧ a = q d ∧ b = k)) = A l from funext fun a => funext fun b => propext ⟨fun z => z.elim id (fun e => absurd e.1 c), Or.inl⟩]
      exact aqp_x (m := k) (fun x y _ hy => rx x y hy) (fun a b hA => by
        have := geo_a g hl hA
        omega) (ha l hl)
  · have key : r < fnd → (wlq (fun x y => E x y ∨ (1 ≤ d ∧ x = op d ∧ y = k + 1)) (pos p + 1) (pos r) ↔ wlq E (pos p + 1) (pos r)) := fun hr => rx _ _ (Nat.le_of_lt (hp.1 r hr).1)
    exact ⟨fun ⟨h1, h2, h3, h4, h5⟩ => ⟨h1, h2, (key h2).mpr h3, h4, fun z => by have := (hp.1 r h2).1; omega⟩, fun ⟨h1, h2, h3, h4, h5⟩ => ⟨h1, h2, (key h2).mp h3, h4, fun z => by have := (hp.1 r h2).1; omega⟩⟩
end NG
/-! PATTERNS: CLOSING, REPEATING, THE END -/
section NH
variable {k d e fnd : Nat} {op q : Nat → Nat} {E : Nat → Nat → Prop} {A : Nat → Nat → Nat → Prop} {bg : Nat} {pos : Nat → Nat} {sE aE : Nat → Prop} {sF sL aF aL fol : Nat → Nat → Prop} {tE : Prop} {tF tL : Nat → Prop}
/-- the alternatives of a level, with the last one -/
def ALP (A : Nat → Nat → Nat → Prop) (q : Nat → Nat) (k d a b : Nat) : Prop := A d a b ∨ (a = q d ∧ b = k)
theorem alp_c (g : GEO k d op E q A k) {a b x y : Nat} (hA : ALP A q k d a b) (h : wlq E x y) (h1 : a ≤ x) (h2 : x ≤ b) : a ≤ y ∧ y ≤ b := by
  refine wl_in (P := fun z => a ≤ z ∧ z ≤ b) (fun x y w hx => ?_) h ⟨h1, h2⟩
  rcases hA with hA | ⟨e1, e2⟩
  · exact (g.2.2.2.2.2.2.2.1 d (Nat.le_refl _) a b hA).2.2.2 x y w hx.1 hx.2 |>.2
  · have w1 := g.1 x y w
    have hx1 := hx.1
    rw [e1] at hx1 ⊢
    have w2 := g.2.2.2.2.2.2.1 d (Nat.le_refl _) x y w hx1
    exact ⟨w2, by omega⟩
theorem alp_l (g : GEO k d op E q A k) {a b : Nat} (hA : ALP A q k d a b) : a ≤ b ∧ b ≤ k ∧ (1 ≤ d → op d < a) := by
  rcases hA with hA | ⟨e1, e2⟩
  · have c := g.2.2.2.2.2.2.2.1 d (Nat.le_refl _) a b hA
    have c2 := geo_a g (Nat.le_refl d) hA
    exact ⟨c.1, by omega, c.2.2.1⟩
  · have c := g.2.2.2.1
    exact ⟨by omega, by omega, fun h1 => by rw [e1]; exact g.2.2.1 d h1 (Nat.le_refl _)⟩
theorem alp_u (g : GEO k d op E q A k) {a b c f x : Nat} (h1 : ALP A q k d a b) (h2 : ALP A q k d c f) (a1 : a ≤ x) (a2 : x ≤ b) (a3 : c ≤ x) (a4 : x ≤ f) : a = c ∧ b = f := by
  rcases h1 with h1 | ⟨e1, e2⟩ <;> rcases h2 with h2 | ⟨f1, f2⟩
  · exact g.2.2.2.2.2.2.2.2.2.1 d (Nat.le_refl _) a b c f x h1 h2 a1 a2 a3 a4
  · have := geo_a g (Nat.le_refl d) h1
    omega
  · have := geo_a g (Nat.le_refl d) h2
    omega
  · omega
theorem alp_x (g : GEO k d op E q A k) {x : Nat} (h1 : 1 ≤ d → op d < x) (h2 : x ≤ k) : ∃ a b, ALP A q k d a b ∧ a ≤ x ∧ x ≤ b := by
  by_cases c : x < q d
  · obtain ⟨a, b, hA, hz⟩ := g.2.2.2.2.2.2.2.2.1 d (Nat.le_refl _) x h1 c
    exact ⟨a, b, Or.inl hA, hz⟩
  · exact ⟨q d, k, Or.inr ⟨rfl, rfl⟩, by omega, by omega⟩
theorem alp_p (hp : PQP k d op A fnd pos) {a b p : Nat} (hA : ALP A q k d a b) (h : p < fnd) (h2 : pos p ≤ b) : pos p < b := by
  have w := hp.1 p h
  rcases hA with hA | ⟨-, e2⟩
  · have := w.2.2 d (Nat.le_refl _) a b hA
    omega
  · omega
/-- all alternatives together -/
theorem alp_q (hs : SQP E fnd pos (q d) k (sE d) (sF d) (sL d)) (ha : AQP E fnd pos (A d) (aE d) (aF d) (aL d)) : AQP E fnd pos (ALP A q k d) (aE d ∨ sE d) (fun p => aF d p ∨ sF d p) (fun p => aL d p ∨ sL d p) := by
  refine ⟨?_, fun p => ?_, fun p => ?_⟩
  · rw [ha.1, hs.1]
    exact ⟨fun z => z.elim (fun ⟨a, b, hA, z⟩ => ⟨a, b, Or.inl hA, z⟩) (fun z => ⟨q d, k, Or.inr ⟨rfl, rfl⟩, z⟩), fun ⟨a, b, hA, z⟩ => hA.elim (fun hA => Or.inl ⟨a, b, hA, z⟩) (fun e => Or.inr (by rw [e.1, e.2] at z; exact z))⟩
  · show (aF d p ∨ sF d p) ↔ _
    rw [ha.2.1 p, hs.2.1 p]
    exact ⟨fun z => z.elim (fun ⟨h1, a, b, hA, z⟩ => ⟨h1, a, b, Or.inl hA, z⟩) (fun z => ⟨z.1, q d, k, Or.inr ⟨rfl, rfl⟩, z.2⟩), fun ⟨h1, a, b, hA, z⟩ => hA.elim (fun hA => Or.inl ⟨h1, a, b, hA, z⟩) (fun e => Or.inr (by rw [e.1, e.2] at z; exact ⟨h1, z⟩))⟩
  · show (aL d p ∨ sL d p) ↔ _
    rw [ha.2.2 p, hs.2.2 p]
    exact ⟨fun z => z.elim (fun ⟨h1, a, b, hA, z⟩ => ⟨h1, a, b, Or.inl hA, z⟩) (fun z => ⟨z.1, q d, k, Or.inr ⟨rfl, rfl⟩, z.2⟩), fun ⟨h1, a, b, hA, z⟩ => hA.elim (fun hA => Or.inl ⟨h1, a, b, hA, z⟩) (fun e => Or.inr (by rw [e.1, e.2] at z; exact ⟨h1, z⟩))⟩
/-- bars lead to k -/
def EBK (A : Nat → Nat → Nat → Prop) (E : Nat → Nat → Prop) (d k x y : Nat) : Prop := E x y ∨ ((∃ a, A d a x) ∧ y = k)
theorem ebk_x (g : GEO k d op E q A k) {F : Nat → Nat → Prop} (h1 : ∀ x y, EBK A E d k x y → F x y) (h2 : ∀ x y, F x y → EBK A E d k x y ∨ (x = k ∧ y = k + 1)) {x y : Nat} (hy : y < k) : wlq F x y ↔ wlq E x y := wl_sk (S := fun z => z = k ∨ z = k + 1) (fun x y e => h1 x y (Or.inl e)) (fun x y e => by
    rcases h2 x y e with (e | e) | e
    · exact Or.inl e
    · exact Or.inr (Or.inl e.2)
    · exact Or.inr (Or.inr e.2)) (fun x y e hx => by
    rcases h2 x y e with (e | ⟨⟨a, e⟩, -⟩) | e
    · have w := (g.1 x y e).1
      rcases hx with hx | hx
      · omega
      · omega
    · have w := geo_a g (Nat.le_refl d) e
      rcases hx with hx | hx
      · omega
      · omega
    · exact Or.inr e.2) (by omega)
theorem ebk_k (g : GEO k d op E q A k) {F : Nat → Nat → Prop} {m : Nat} (h1 : ∀ x y, EBK A E d k x y → F x y) (h2 : ∀ x y, F x y → EBK A E d k x y ∨ (x = k ∧ y = k + 1)) (hm : m = k ∨ (m = k + 1 ∧ F k (k + 1))) {x : Nat} (hx : x ≤ k) : wlq F x m ↔ ∃ a b, ALP A q k d a b ∧ wlq E x b := by
  constructor
  · intro w
    have r := wl_in (E := F) (P := fun y => wlq E x y ∨ ((y = k ∨ y = k + 1) ∧ ∃ a b, ALP A q k d a b ∧ wlq E x b)) (fun y z e hy => by
      rcases h2 y z e with (e | ⟨⟨a, e⟩, ez⟩) | ⟨ey, ez⟩
      · rcases hy with hy | ⟨hy, -⟩
        · exact Or.inl (wl_tr hy (wl_1 e))
        · have := (g.1 y z e).1
          omega
      · rcases hy with hy | ⟨hy, -⟩
        · exact Or.inr ⟨Or.inl ez, a, y, Or.inl e, hy⟩
        · have := geo_a g (Nat.le_refl d) e
          omega
      · rcases hy with hy | ⟨-, hy⟩
        · rw [ey] at hy
          exact Or.inr ⟨Or.inr ez, q d, k, Or.inr ⟨rfl, rfl⟩, hy⟩
        · exact Or.inr ⟨Or.inr ez, hy⟩) w (Or.inl wl_0)
    rcases r with r | ⟨-, r⟩
    · rcases hm with hm | ⟨hm, -⟩
      · rw [hm] at r
        exact ⟨q d, k, Or.inr ⟨rfl, rfl⟩, r⟩
      · have := wl_in (E := E) (P := fun y => y ≤ k) (fun y z e _ => (g.1 y z e).2) r hx
        omega
    · exact r
  · rintro ⟨a, b, hA, w⟩
    have w2 : wlq F x b := wl_mono (fun x y e => h1 x y (Or.inl e)) w
    have w3 : wlq F x k := by
      rcases hA with hA | ⟨-, e2⟩
      · exact wl_tr w2 (wl_1 (h1 b k (Or.inr ⟨⟨a, hA⟩, rfl⟩)))
      · rw [← e2]
        exact w2
    rcases hm with hm | ⟨hm, hf⟩
    · rw [hm]
      exact w3
    · rw [hm]
      exact wl_tr w3 (wl_1 hf)
/-- out of the opening bracket into an alternative -/
theorem alp_o (g : GEO k d op E q A k) (h1 : 1 ≤ d) {y : Nat} (hy : y ≠ op d) : wlq E (op d) y ↔ ∃ a b, ALP A q k d a b ∧ wlq E a y := by
  have g6 := g.2.2.2.2.2.1 d h1 (Nat.le_refl _)
  constructor
  · intro w
    rcases wl_st w with e | ⟨z, hz, w2⟩
    · exact absurd e.symm hy
    · rcases (g6 z).mp hz with e | ⟨b, e⟩
      · exact ⟨z, k, Or.inr ⟨e, rfl⟩, w2⟩
      · exact ⟨z, b, Or.inl e, w2⟩
  · rintro ⟨a, b, hA, w⟩
    exact wl_tr (wl_1 ((g6 a).mpr (hA.elim (fun hA => Or.inr ⟨b, hA⟩) (fun e => Or.inl e.1)))) w
/-! a closing bracket -/
theorem pin_cl (h : PIN k (e + 1) op E q A k fnd pos sE sF sL aE aF aL tE tF tL fol) : PIN (k + 1) e op (fun x y => EBK A E (e + 1) k x y ∨ (x = k ∧ y = k + 1)) q A (op (e + 1)) fnd pos sE sF sL aE aF aL (aE (e + 1) ∨ sE (e + 1)) (fun p => aF (e + 1) p ∨ sF (e + 1) p) (fun p => aL (e + 1) p ∨ sL (e + 1) p) fol ∧ ∀ x y, (EBK A E (e + 1) k x y ∨ (x = k ∧ y = k + 1)) → op (e + 1) < x → op (e + 1) < y := by
  obtain ⟨g, hp, hs, ha, -, hf⟩ := h
  have g' := g
  obtain ⟨g1, g2, g3, g4, g5, g6, g7, g8, g9, g10, g11⟩ := g'
  have oq := g3 (e + 1) (by omega) (Nat.le_refl _)
  have ok : op (e + 1) < k := by omega
  have bar : ∀ a x, A (e + 1) a x → op (e + 1) < x ∧ x < k := fun a x hA => by
    have c := g8 (e + 1) (Nat.le_refl _) a x hA
    have c2 := c.2.2.1 (by omega)
    omega
  have rx : ∀ x y, y < k → (wlq (fun x y => EBK A E (e + 1) k x y ∨ (x = k ∧ y = k + 1)) x y ↔ wlq E x y) := fun x y hy => ebk_x g (fun x y w => Or.inl w) (fun x y w => w) hy
  have rk : ∀ x, x ≤ k → (wlq (fun x y => EBK A E (e + 1) k x y ∨ (x = k ∧ y = k + 1)) x (k + 1) ↔ ∃ a b, ALP A q k (e + 1) a b ∧ wlq E x b) := fun x hx => ebk_k g (fun x y w => Or.inl w) (fun x y w => w) (Or.inr ⟨rfl, Or.inr ⟨rfl, rfl⟩⟩) hx
  have sd := hs (e + 1) (Nat.le_refl _)
  rw [enp_d] at sd
  have aq := alp_q sd (ha (e + 1) (Nat.le_refl _))
  refine ⟨⟨⟨fun x y w => ?_, fun l hl => g2 l (by omega), fun l l1 l2 => g3 l l1 (by omega), ⟨g2 e (by omega), by omega⟩, fun l l1 l2 x y w => ?_, fun l l1 l2 y => ?_, fun l hl x y w hx => ?_, fun l hl a b hA => ?_, fun l hl => g9 l (by omega), fun l hl => g10 l (by omega), fun x y w => ?_⟩, ⟨fun p hpf => ⟨by have := (hp.1 p hpf).1; omega, fun l l1 l2 => (hp.1 p hpf).2.1 l l1 (by omega), fun l hl => (hp.1 p hpf).2.2 l (by omega)⟩, hp.2⟩, fun l hl => ?_, fun l hl => ?_, fun _ => ⟨?_, fun p => ?_, fun p => ?_⟩, fun p r => (hf p r).trans ?_⟩, fun x y w hx => ?_⟩
  · rcases w with (w | ⟨⟨a, w⟩, ey⟩) | w
    · have := g1 x y w
      omega
    · have := bar a x w
      omega
    · omega
  · have o := geo_o g l1 (show l ≤ e + 1 by omega)
    rcases w with (w | ⟨⟨a, w⟩, ey⟩) | w
    · exact g5 l l1 (by omega) x y w
    · have := bar a x w
      omega
    · omega
  · have o := geo_ol g l1 (show l < e + 1 by omega) (Nat.le_refl _)
    rw [← g6 l l1 (by omega) y]
    refine ⟨fun w => ?_, fun w => Or.inl (Or.inl w)⟩
    rcases w with (w | ⟨⟨a, w⟩, ey⟩) | w
    · exact w
    · have := bar a _ w
      omega
    · omega
  · have o := geo_q g (show l ≤ e + 1 by omega)
    rcases w with (w | ⟨⟨a, w⟩, ey⟩) | w
    · exact g7 l (by omega) x y w hx
    · omega
    · omega
  · have c := g8 l (by omega) a b hA
    have o := g2 l (by omega)
    have o2 := geo_o g (l := l + 1) (by omega) (by omega)
    refine ⟨c.1, c.2.1, c.2.2.1, fun x y w h1 h2 => ?_⟩
    rcases w with (w | ⟨⟨a2, w⟩, ey⟩) | w
    · exact c.2.2.2 x y w h1 h2
    · have := bar a2 x w
      omega
    · omega
  · rcases w with (w | ⟨⟨a, w⟩, ey⟩) | w
    · have c := g5 (e + 1) (by omega) (Nat.le_refl _) x y w
      refine ⟨c.1, fun hx => ?_⟩
      by_cases c2 : x = op (e + 1)
      · rw [c2] at w
        rcases (g6 (e + 1) (by omega) (Nat.le_refl _) y).mp w with ey | ⟨b, hA⟩
        · omega
        · have := (g8 (e + 1) (Nat.le_refl _) y b hA).2.2.1 (by omega)
          omega
      · have := c.2 (by omega)
        omega
    · have := bar a x w
      omega
    · omega
  · have en : ENP e op (op (e + 1)) l = ENP (e + 1) op k l := by
      unfold ENP
      by_cases c : l < e
      · rw [if_pos c, if_pos (by omega)]
      · have el : l = e := by omega
        rw [if_neg c, if_pos (by omega), el]
    have en2 : ENP (e + 1) op k l < k := by
      unfold ENP
      rw [if_pos (by omega)]
      have := geo_o g (l := l + 1) (by omega) (by omega)
      omega
    rw [en]
    exact sqp_x (fun x y _ hy => rx x y (by omega)) (geo_en g (show l ≤ e + 1 by omega)).1 (hs l (by omega))
  · exact aqp_x (m := op (e + 1)) (fun x y _ hy => rx x y (by omega)) (fun a b hA => by
      have c := g8 l (by omega) a b hA
      have o := g2 l (by omega)
      have o2 := geo_o g (l := l + 1) (by omega) (by omega)
      omega) (ha l (by omega))
  · rw [aq.1, rk _ (by omega)]
    constructor
    · rintro ⟨a, b, hA, w⟩
      have l := alp_l g hA
      have l3 := l.2.2 (by omega)
      exact ⟨a, b, hA, (alp_o g (by omega) (by omega)).mpr ⟨a, b, hA, w⟩⟩
    · rintro ⟨a, b, hA, w⟩
      have l := alp_l g hA
      have l3 := l.2.2 (by omega)
      obtain ⟨c, f, hC, w2⟩ := (alp_o g (by omega) (by omega)).mp w
      have lc := alp_l g hC
      have cl := alp_c g hC w2 (Nat.le_refl _) lc.1
      have u := alp_u g hA hC l.1 (Nat.le_refl _) cl.1 cl.2
      rw [u.1]
      refine ⟨c, f, hC, ?_⟩
      rw [← u.2]
      exact w2
  · show (aF (e + 1) p ∨ sF (e + 1) p) ↔ _
    rw [aq.2.1 p]
    constructor
    · rintro ⟨h1, a, b, hA, h2, w⟩
      have l := alp_l g hA
      have l3 := l.2.2 (by omega)
      have cl := alp_c g hA w (Nat.le_refl _) l.1
      exact ⟨h1, by omega, (rx _ _ (by omega)).mpr ((alp_o g (by omega) (by omega)).mpr ⟨a, b, hA, w⟩)⟩
    · rintro ⟨h1, h2, w⟩
      have pk := hp.1 p h1
      obtain ⟨c, f, hC, w2⟩ := (alp_o g (by omega) (pk.2.1 (e + 1) (by omega) (Nat.le_refl _))).mp ((rx _ _ pk.1).mp w)
      have lc := alp_l g hC
      have cl := alp_c g hC w2 (Nat.le_refl _) lc.1
      exact ⟨h1, c, f, hC, alp_p hp hC h1 cl.2, w2⟩
  · show (aL (e + 1) p ∨ sL (e + 1) p) ↔ _
    rw [aq.2.2 p]
    constructor
    · rintro ⟨h1, a, b, hA, h2, h3, w⟩
      have l := alp_l g hA
      have l3 := l.2.2 (by omega)
      exact ⟨h1, by omega, by omega, (rk _ (by omega)).mpr ⟨a, b, hA, w⟩⟩
    · rintro ⟨h1, h2, h3, w⟩
      have pk := hp.1 p h1
      have po := pk.2.1 (e + 1) (by omega) (Nat.le_refl _)
      obtain ⟨a, b, hA, w2⟩ := (rk _ (by omega)).mp w
      obtain ⟨c, f, hC, c1, c2⟩ := alp_x g (x := pos p) (fun _ => by omega) (by omega)
      have c3 := alp_p hp hC h1 c2
      have cl := alp_c g hC w2 (by omega) (by omega)
      have l := alp_l g hA
      have u := alp_u g hA hC l.1 (Nat.le_refl _) cl.1 cl.2
      refine ⟨h1, c, f, hC, c1, c3, ?_⟩
      rw [← u.2]
      exact w2
  · have key : r < fnd → (wlq (fun x y => EBK A E (e + 1) k x y ∨ (x = k ∧ y = k + 1)) (pos p + 1) (pos r) ↔ wlq E (pos p + 1) (pos r)) := fun hr => rx _ _ (hp.1 r hr).1
    constructor
    · rintro ⟨h1, h2, h3, h4, h5⟩
      exact ⟨h1, h2, (key h2).mpr h3, fun l l1 l2 => h4 l l1 (by omega), h4 (e + 1) (by omega) (Nat.le_refl _)⟩
    · rintro ⟨h1, h2, h3, h4, h5⟩
      refine ⟨h1, h2, (key h2).mp h3, fun l l1 l2 => ?_, fun z => ?_⟩
      · by_cases c : l = e + 1
        · rw [c]
          exact h5
        · exact h4 l l1 (by omega)
      · have := (hp.1 r h2).1
        omega
  · rcases w with (w | ⟨⟨a, w⟩, ey⟩) | w
    · exact (g5 (e + 1) (by omega) (Nat.le_refl _) x y w).2 hx
    · omega
    · omega
/-! a sign of repeating -/
def ESG (E : Nat → Nat → Prop) (k bg : Nat) (u w : Prop) (x y : Nat) : Prop := E x y ∨ (x = k ∧ y = k + 1) ∨ (u ∧ x = k ∧ y = bg) ∨ (w ∧ x = bg ∧ y = k)
theorem sg_r (g : GEO k d op E q A bg) (hb : bg < k) {u w : Prop} {x y : Nat} (hx : x ≤ k) : wlq (ESG E k bg u w) x y ↔ (wlq E x y ∨ ((wlq E x k ∨ (w ∧ wlq E x bg)) ∧ (y = k ∨ y = k + 1 ∨ (u ∧ wlq E bg y)))) := by
  have m : ∀ {a b : Nat}, wlq E a b → wlq (ESG E k bg u w) a b := fun z => wl_mono (fun x y e => Or.inl e) z
  constructor
  · intro z
    refine wl_in (E := ESG E k bg u w) (P := fun y => wlq E x y ∨ ((wlq E x k ∨ (w ∧ wlq E x bg)) ∧ (y = k ∨ y = k + 1 ∨ (u ∧ wlq E bg y)))) (fun y z2 e hy => ?_) z (Or.inl wl_0)
    rcases e with e | ⟨e1, e2⟩ | ⟨e0, e1, e2⟩ | ⟨e0, e1, e2⟩
    · have lt := (g.1 y z2 e).1
      rcases hy with hy | ⟨h1, hy | hy | hy⟩
      · exact Or.inl (wl_tr hy (wl_1 e))
      · omega
      · omega
      · exact Or.inr ⟨h1, Or.inr (Or.inr ⟨hy.1, wl_tr hy.2 (wl_1 e)⟩)⟩
    · rcases hy with hy | ⟨h1, hy⟩
      · rw [e1] at hy
        exact Or.inr ⟨Or.inl hy, Or.inr (Or.inl e2)⟩
      · exact Or.inr ⟨h1, Or.inr (Or.inl e2)⟩
    · rcases hy with hy | ⟨h1, hy⟩
      · rw [e1] at hy
        rw [e2]
        exact Or.inr ⟨Or.inl hy, Or.inr (Or.inr ⟨e0, wl_0⟩)⟩
      · rw [e2]
        exact Or.inr ⟨h1, Or.inr (Or.inr ⟨e0, wl_0⟩)⟩
    · rcases hy with hy | ⟨h1, hy⟩
      · rw [e1] at hy
        exact Or.inr ⟨Or.inr ⟨e0, hy⟩, Or.inl e2⟩
      · exact Or.inr ⟨h1, Or.inl e2⟩
  · have kk : (wlq E x k ∨ (w ∧ wlq E x bg)) → wlq (ESG E k bg u w) x k := fun z => z.elim m (fun z => wl_tr (m z.2) (wl_1 (Or.inr (Or.inr (Or.inr ⟨z.1, rfl, rfl⟩)))))
    rintro (z | ⟨z, z2 | z2 | z2⟩)
    · exact m z
    · rw [z2]
      exact kk z
    · rw [z2]
      exact wl_tr (kk z) (wl_1 (Or.inr (Or.inl ⟨rfl, rfl⟩)))
    · exact wl_tr (kk z) (wl_tr (wl_1 (Or.inr (Or.inr (Or.inl ⟨z2.1, rfl, rfl⟩)))) (m z2.2))
theorem pin_sg (h : PIN k d op E q A bg fnd pos sE sF sL aE aF aL tE tF tL fol) (hb : bg < k) (nb : ∀ x y, E x y → bg < x → bg < y) (u w : Prop) : PIN (k + 1) d op (ESG E k bg u w) q A bg fnd pos sE sF sL aE aF aL (tE ∨ w) tF tL (fun p r => fol p r ∨ (u ∧ tL p ∧ tF r)) := by
  obtain ⟨g, hp, hs, ha, ht, hf⟩ := h
  have t := ht hb
  have g' := g
  obtain ⟨g1, g2, g3, g4, g5, g6, g7, g8, g9, g10, g11⟩ := g'
  have up : ∀ {y : Nat}, wlq E bg y → bg ≤ y := fun z => wl_in (E := E) (P := fun y => bg ≤ y) (fun x y e hx => (g11 x y e).2 hx) z (Nat.le_refl _)
  have lk : ∀ {x y : Nat}, x ≤ k → wlq E x y → y ≤ k := fun hx z => wl_in (E := E) (P := fun y => y ≤ k) (fun x y e _ => (g1 x y e).2) z hx
  have rx : ∀ x y, x ≤ bg → y ≤ bg → (wlq (ESG E k bg u w) x y ↔ wlq E x y) := fun x y hx hy => by
    rw [sg_r g hb (by omega)]
    refine ⟨fun z => ?_, Or.inl⟩
    rcases z with z | ⟨z, z2 | z2 | z2⟩
    · exact z
    · omega
    · omega
    · have e : y = bg := by
        have := up z2.2
        omega
      rw [e]
      rcases z with z | z
      · exact (pc_r g11 z hx (by omega)).1
      · exact z.2
  refine ⟨⟨fun x y e => ?_, g2, g3, ⟨g4.1, by omega⟩, fun l l1 l2 x y e => ?_, fun l l1 l2 y => ?_, fun l hl x y e hx => ?_, fun l hl a b hA => ?_, g9, g10, fun x y e => ?_⟩, ⟨fun p hpf => ⟨by have := (hp.1 p hpf).1; omega, (hp.1 p hpf).2⟩, hp.2⟩, fun l hl => ?_, fun l hl => ?_, fun _ => ⟨?_, fun p => ?_, fun p => ?_⟩, fun p r => ?_⟩
  · rcases e with e | e | e | e
    · have := g1 x y e
      omega
    · omega
    · omega
    · omega
  · have o := geo_o g l1 l2
    rcases e with e | e | e | e
    · exact g5 l l1 l2 x y e
    · omega
    · omega
    · omega
  · have o := geo_o g l1 l2
    rw [← g6 l l1 l2 y]
    refine ⟨fun e => ?_, Or.inl⟩
    rcases e with e | e | e | e
    · exact e
    · omega
    · omega
    · omega
  · have o := geo_q g hl
    rcases e with e | e | e | e
    · exact g7 l hl x y e hx
    · omega
    · omega
    · omega
  · have c := g8 l hl a b hA
    have o := geo_q g hl
    refine ⟨c.1, c.2.1, c.2.2.1, fun x y e h1 h2 => ?_⟩
    rcases e with e | e | e | e
    · exact c.2.2.2 x y e h1 h2
    · omega
    · omega
    · omega
  · rcases e with e | e | e | e
    · exact g11 x y e
    · omega
    · omega
    · omega
  · have en := geo_en g hl
    exact sqp_x (fun x y hx hy => rx x y (by omega) (by omega)) en.1 (hs l hl)
  · exact aqp_x (m := bg) (fun x y hx hy => rx x y hx hy) (fun a b hA => by
      have := geo_a g hl hA
      omega) (ha l hl)
  · rw [t.1, sg_r g hb (by omega)]
    constructor
    · rintro (z | z)
      · exact Or.inr ⟨Or.inl z, Or.inr (Or.inl rfl)⟩
      · exact Or.inr ⟨Or.inr ⟨z, wl_0⟩, Or.inr (Or.inl rfl)⟩
    · rintro (z | ⟨z, -⟩)
      · have := lk (by omega) z
        omega
      · exact z.imp id (fun z => z.1)
  · rw [t.2.1 p, sg_r g hb (by omega)]
    constructor
    · rintro ⟨h1, h2, z⟩
      exact ⟨h1, by omega, Or.inl z⟩
    · rintro ⟨h1, h2, z⟩
      have pk := (hp.1 p h1).1
      rcases z with z | ⟨-, z | z | z⟩
      · exact ⟨h1, pk, z⟩
      · omega
      · omega
      · exact ⟨h1, pk, z.2⟩
  · rw [t.2.2 p]
    constructor
    · rintro ⟨h1, h2, h3, z⟩
      exact ⟨h1, h2, by omega, (sg_r g hb (by omega)).mpr (Or.inr ⟨Or.inl z, Or.inr (Or.inl rfl)⟩)⟩
    · rintro ⟨h1, h2, h3, z⟩
      have pk := (hp.1 p h1).1
      rcases (sg_r g hb (by omega)).mp z with z | ⟨z | z, -⟩
      · have := lk (by omega) z
        omega
      · exact ⟨h1, h2, pk, z⟩
      · have := wl_in (E := E) (P := fun y => bg < y) nb z.2 (by omega)
        omega
  · show (fol p r ∨ (u ∧ tL p ∧ tF r)) ↔ _
    rw [hf p r, t.2.2 p, t.2.1 r]
    constructor
    · rintro (⟨h1, h2, h3, h4⟩ | ⟨h0, ⟨h1, h2, h3, h4⟩, h5, h6, h7⟩)
      · have pk := (hp.1 p h1).1
        exact ⟨h1, h2, (sg_r g hb (by omega)).mpr (Or.inl h3), h4⟩
      · refine ⟨h1, h5, (sg_r g hb (by omega)).mpr (Or.inr ⟨Or.inl h4, Or.inr (Or.inr ⟨h0, h7⟩)⟩), fun l l1 l2 z => ?_, fun z => by omega⟩
        have := geo_o g l1 l2
        omega
    · rintro ⟨h1, h2, h3, h4⟩
      have pk := (hp.1 p h1).1
      have rk := (hp.1 r h2).1
      rcases (sg_r g hb (by omega)).mp h3 with z | ⟨z, z2 | z2 | z2⟩
      · exact Or.inl ⟨h1, h2, z, h4⟩
      · omega
      · omega
      · have rb := up z2.2
        have pb : bg ≤ pos p := by
          have := h4.2
          omega
        rcases z with z | z
        · exact Or.inr ⟨z2.1, ⟨h1, pb, pk, z⟩, h2, rk, z2.2⟩
        · have := wl_in (E := E) (P := fun y => bg < y) nb z.2 (by omega)
          omega
/-! the end -/
theorem pin_en (h : PIN k 0 op E q A k fnd pos sE sF sL aE aF aL tE tF tL fol) : ((aE 0 ∨ sE 0) ↔ ∃ x b, ALP A q k 0 x b ∧ wlq (EBK A E 0 k) x k) ∧ (∀ p, (aF 0 p ∨ sF 0 p) ↔ (p < fnd ∧ ∃ x b, ALP A q k 0 x b ∧ wlq (EBK A E 0 k) x (pos p))) ∧ (∀ p, (aL 0 p ∨ sL 0 p) ↔ (p < fnd ∧ wlq (EBK A E 0 k) (pos p + 1) k)) ∧ ∀ p r, fol p r ↔ (p < fnd ∧ r < fnd ∧ wlq (EBK A E 0 k) (pos p + 1) (pos r)) := by
  obtain ⟨g, hp, hs, ha, -, hf⟩ := h
  have rx : ∀ x y, y < k → (wlq (EBK A E 0 k) x y ↔ wlq E x y) := fun x y hy => ebk_x g (fun x y w => w) (fun x y w => Or.inl w) hy
  have rk : ∀ x, x ≤ k → (wlq (EBK A E 0 k) x k ↔ ∃ a b, ALP A q k 0 a b ∧ wlq E x b) := fun x hx => ebk_k g (fun x y w => w) (fun x y w => Or.inl w) (Or.inl rfl) hx
  have sd := hs 0 (Nat.le_refl _)
  rw [enp_d] at sd
  have aq := alp_q sd (ha 0 (Nat.le_refl _))
  refine ⟨?_, fun p => ?_, fun p => ?_, fun p r => ?_⟩
  · rw [aq.1]
    constructor
    · rintro ⟨a, b, hA, w⟩
      have l := alp_l g hA
      exact ⟨a, b, hA, (rk a (by omega)).mpr ⟨a, b, hA, w⟩⟩
    · rintro ⟨a, b, hA, w⟩
      have l := alp_l g hA
      obtain ⟨c, f, hC, w2⟩ := (rk a (by omega)).mp w
      have lc := alp_l g hC
      have cl := alp_c g hA w2 (Nat.le_refl _) l.1
      have u := alp_u g hC hA lc.1 (Nat.le_refl _) cl.1 cl.2
      refine ⟨a, b, hA, ?_⟩
      rw [← u.2]
      exact w2
  · rw [aq.2.1 p]
    constructor
    · rintro ⟨h1, a, b, hA, h2, w⟩
      exact ⟨h1, a, b, hA, (rx _ _ (hp.1 p h1).1).mpr w⟩
    · rintro ⟨h1, a, b, hA, w⟩
      have w2 := (rx _ _ (hp.1 p h1).1).mp w
      have l := alp_l g hA
      have cl := alp_c g hA w2 (Nat.le_refl _) l.1
      exact ⟨h1, a, b, hA, alp_p hp hA h1 cl.2, w2⟩
  · rw [aq.2.2 p]
    constructor
    · rintro ⟨h1, a, b, hA, h2, h3, w⟩
      have l := alp_l g hA
      exact ⟨h1, (rk _ (by omega)).mpr ⟨a, b, hA, w⟩⟩
    · rintro ⟨h1, w⟩
      have pk := (hp.1 p h1).1
      obtain ⟨a, b, hA, w2⟩ := (rk _ (by omega)).mp w
      obtain ⟨c, f, hC, c1, c2⟩ := alp_x g (x := pos p) (fun z => by omega) (by omega)
      have c3 := alp_p hp hC h1 c2
      have cl := alp_c g hC w2 (by omega) (by omega)
      have l := alp_l g hA
      have u := alp_u g hA hC l.1 (Nat.le_refl _) cl.1 cl.2
      refine ⟨h1, c, f, hC, c1, c3, ?_⟩
      rw [← u.2]
      exact w2
  · rw [hf p r]
    constructor
    · rintro ⟨h1, h2, h3, h4⟩
      exact ⟨h1, h2, (rx _ _ (hp.1 r h2).1).mpr h3⟩
    · rintro ⟨h1, h2, h3⟩
      exact ⟨h1, h2, (rx _ _ (hp.1 r h2).1).mp h3, fun l l1 l2 => by omega, fun z => by have := (hp.1 r h2).1; omega⟩
end NH
/-! PATTERNS, CHARACTER BY CHARACTER -/
abbrev PSC : Type := Nat × (Nat → Nat) × (Nat → Nat → Prop) × (Nat → Nat) × (Nat → Nat → Nat → Prop) × Nat
abbrev PSR : Type := (Nat → Prop) × (Nat → Nat → Prop) × (Nat → Nat → Prop) × (Nat → Prop) × (Nat → Nat → Prop) × (Nat → Nat → Prop) × Prop × (Nat → Prop) × (Nat → Prop) × (Nat → Nat → Prop) × Nat × (Nat → Nat)
def pcO (k : Nat) (s : PSC) : PSC := (s.1 + 1, fun l => if l = s.1 + 1 then k else s.2.1 l, fun x y => s.2.2.1 x y ∨ (x = k ∧ y = k + 1), fun l => if l = s.1 + 1 then k + 1 else s.2.2.2.1 l, fun l a b => l ≠ s.1 + 1 ∧ s.2.2.2.2.1 l a b, k + 1)
def pcC (k : Nat) (s : PSC) : PSC := (s.1 - 1, s.2.1, fun x y => EBK s.2.2.2.2.1 s.2.2.1 s.1 k x y ∨ (x = k ∧ y = k + 1), s.2.2.2.1, s.2.2.2.2.1, s.2.1 s.1)
def pcB (k : Nat) (s : PSC) : PSC := (s.1, s.2.1, fun x y => s.2.2.1 x y ∨ (1 ≤ s.1 ∧ x = s.2.1 s.1 ∧ y = k + 1), fun l => if l = s.1 then k + 1 else s.2.2.2.1 l, fun l a b => s.2.2.2.2.1 l a b ∨ (l = s.1 ∧ a = s.2.2.2.1 s.1 ∧ b = k), k + 1)
def pcS (c : Int) (k : Nat) (s : PSC) : PSC := (s.1, s.2.1, ESG s.2.2.1 k s.2.2.2.2.2 (c ≠ 63) (c ≠ 43), s.2.2.2.1, s.2.2.2.2.1, s.2.2.2.2.2)
def pcL (k : Nat) (s : PSC) : PSC := (s.1, s.2.1, s.2.2.1, s.2.2.2.1, s.2.2.2.2.1, k)
def pcX (c : Int) (k : Nat) (s : PSC) : PSC := if c = 40 then pcO k s else if c = 41 then pcC k s else if c = 124 then pcB k s else if c = 42 ∨ c = 43 ∨ c = 63 then pcS c k s else pcL k s
def pst (T : Nat → Int32) : Nat → PSC
  | 0 => (0, fun _ => 0, fun _ _ => False, fun _ => 0, fun _ _ _ => False, 0)
  | k + 1 => pcX (T k).toInt k (pst T k)
def prF (d : Nat) (r : PSR) : PSR := (upl r.1 d (r.1 d ∧ r.2.2.2.2.2.2.1), upr r.2.1 d (fun p => r.2.1 d p ∨ (r.1 d ∧ r.2.2.2.2.2.2.2.1 p)), upr r.2.2.1 d (fun p => r.2.2.2.2.2.2.2.2.1 p ∨ (r.2.2.2.2.2.2.1 ∧ r.2.2.1 d p)), r.2.2.2.1, r.2.2.2.2.1, r.2.2.2.2.2.1, r.2.2.2.2.2.2.1, r.2.2.2.2.2.2.2.1, r.2.2.2.2.2.2.2.2.1, fun p o => r.2.2.2.2.2.2.2.2.2.1 p o ∨ (r.2.2.1 d p ∧ r.2.2.2.2.2.2.2.1 o), r.2.2.2.2.2.2.2.2.2.2.1, r.2.2.2.2.2.2.2.2.2.2.2)
def prG (k d bg : Nat) (r : PSR) : PSR := if bg < k then prF d r else r
def prO (d : Nat) (r : PSR) : PSR := (upl r.1 (d + 1) True, upr r.2.1 (d + 1) (fun _ => False), upr r.2.2.1 (d + 1) (fun _ => False), upl r.2.2.2.1 (d + 1) False, upr r.2.2.2.2.1 (d + 1) (fun _ => False), upr r.2.2.2.2.2.1 (d + 1) (fun _ => False), r.2.2.2.2.2.2)
def prC (d : Nat) (r : PSR) : PSR := (r.1, r.2.1, r.2.2.1, r.2.2.2.1, r.2.2.2.2.1, r.2.2.2.2.2.1, (r.2.2.2.1 d ∨ r.1 d), (fun p => r.2.2.2.2.1 d p ∨ r.2.1 d p), (fun p => r.2.2.2.2.2.1 d p ∨ r.2.2.1 d p), r.2.2.2.2.2.2.2.2.2)
def prB (d : Nat) (r : PSR) : PSR := (upl r.1 d True, upr r.2.1 d (fun _ => False), upr r.2.2.1 d (fun _ => False), upl r.2.2.2.1 d (r.2.2.2.1 d ∨ r.1 d), upr r.2.2.2.2.1 d (fun p => r.2.2.2.2.1 d p ∨ r.2.1 d p), upr r.2.2.2.2.2.1 d (fun p => r.2.2.2.2.2.1 d p ∨ r.2.2.1 d p), r.2.2.2.2.2.2)
def prS (c : Int) (r : PSR) : PSR := (r.1, r.2.1, r.2.2.1, r.2.2.2.1, r.2.2.2.2.1, r.2.2.2.2.2.1, (r.2.2.2.2.2.2.1 ∨ c ≠ 43), r.2.2.2.2.2.2.2.1, r.2.2.2.2.2.2.2.2.1, (fun p o => r.2.2.2.2.2.2.2.2.2.1 p o ∨ (c ≠ 63 ∧ r.2.2.2.2.2.2.2.2.1 p ∧ r.2.2.2.2.2.2.2.1 o)), r.2.2.2.2.2.2.2.2.2.2)
def prL (k : Nat) (r : PSR) : PSR := (r.1, r.2.1, r.2.2.1, r.2.2.2.1, r.2.2.2.2.1, r.2.2.2.2.2.1, False, (fun p => p = r.2.2.2.2.2.2.2.2.2.2.1), (fun p => p = r.2.2.2.2.2.2.2.2.2.2.1), r.2.2.2.2.2.2.2.2.2.1, r.2.2.2.2.2.2.2.2.2.2.1 + 1, fun p => if p = r.2.2.2.2.2.2.2.2.2.2.1 then k else r.2.2.2.2.2.2.2.2.2.2.2 p)
def prX (c : Int) (k : Nat) (s : PSC) (r : PSR) : PSR := if c = 40 then prO s.1 (prG k s.1 s.2.2.2.2.2 r) else if c = 41 then prC s.1 (prG k s.1 s.2.2.2.2.2 r) else if c = 124 then prB s.1 (prG k s.1 s.2.2.2.2.2 r) else if c = 42 ∨ c = 43 ∨ c = 63 then prS c r else prL k (prG k s.1 s.2.2.2.2.2 r)
def psr (T : Nat → Int32) : Nat → PSR
  | 0 => (fun _ => True, fun _ _ => False, fun _ _ => False, fun _ => False, fun _ _ => False, fun _ _ => False, False, fun _ => False, fun _ => False, fun _ _ => False, 0, fun _ => 0)
  | k + 1 => prX (T k).toInt k (pst T k) (psr T k)
def PINb (k : Nat) (s : PSC) (bg : Nat) (r : PSR) : Prop := PIN k s.1 s.2.1 s.2.2.1 s.2.2.2.1 s.2.2.2.2.1 bg r.2.2.2.2.2.2.2.2.2.2.1 r.2.2.2.2.2.2.2.2.2.2.2 r.1 r.2.1 r.2.2.1 r.2.2.2.1 r.2.2.2.2.1 r.2.2.2.2.2.1 r.2.2.2.2.2.2.1 r.2.2.2.2.2.2.2.1 r.2.2.2.2.2.2.2.2.1 r.2.2.2.2.2.2.2.2.2.1
theorem pin_g {k : Nat} {s : PSC} {r : PSR} (h : PINb k s s.2.2.2.2.2 r) : PINb k s k (prG k s.1 s.2.2.2.2.2 r) := by
  unfold prG
  by_cases c : s.2.2.2.2.2 < k
  · rw [if_pos c]
    exact pin_fl h c
  · rw [if_neg c]
    have e := h.1.2.2.2.1
    have e2 : s.2.2.2.2.2 = k := by omega
    rw [e2] at h
    exact h
theorem pin_0 {T : Nat → Int32} : PINb 0 (pst T 0) 0 (psr T 0) := by
  refine ⟨⟨fun _ _ z => z.elim, fun l hl => absurd hl (Nat.not_lt_zero _), fun l l1 l2 => absurd l2 (by show ¬ l ≤ 0; omega), ⟨Nat.le_refl _, Nat.le_refl _⟩, fun _ _ _ _ _ z => z.elim, fun l l1 l2 => absurd l2 (by show ¬ l ≤ 0; omega), fun _ _ _ _ z => z.elim, fun _ _ _ _ z => z.elim, fun l hl x h1 h2 => absurd h2 (Nat.not_lt_zero _), fun _ _ _ _ _ _ _ z => z.elim, fun _ _ z => z.elim⟩, ⟨fun p hp => absurd hp (Nat.not_lt_zero _), fun p r _ hr => absurd hr (Nat.not_lt_zero _)⟩, fun l hl => ?_, fun l hl => ⟨⟨False.elim, fun ⟨_, _, z, _⟩ => z.elim⟩, fun p => ⟨False.elim, fun z => absurd z.1 (Nat.not_lt_zero _)⟩, fun p => ⟨False.elim, fun z => absurd z.1 (Nat.not_lt_zero _)⟩⟩, fun z => absurd z (Nat.lt_irrefl _), fun p r => ⟨False.elim, fun z => absurd z.1 (Nat.not_lt_zero _)⟩⟩
  have e : ENP (pst T 0).1 (pst T 0).2.1 0 l = 0 := by
    show (if l < 0 then _ else 0) = 0
    rw [if_neg (Nat.not_lt_zero _)]
  rw [e]
  exact ⟨⟨fun _ => wl_0, fun _ => trivial⟩, fun p => ⟨False.elim, fun z => absurd z.1 (Nat.not_lt_zero _)⟩, fun p => ⟨False.elim, fun z => absurd z.1 (Nat.not_lt_zero _)⟩⟩
theorem pcx_o {c : Int} {k : Nat} {s : PSC} (h : c = 40) : pcX c k s = pcO k s := if_pos h
theorem pcx_c {c : Int} {k : Nat} {s : PSC} (h : c = 41) : pcX c k s = pcC k s := by
  unfold pcX
  rw [if_neg (by omega), if_pos h]
theorem pcx_b {c : Int} {k : Nat} {s : PSC} (h : c = 124) : pcX c k s = pcB k s := by
  unfold pcX
  rw [if_neg (by omega), if_neg (by omega), if_pos h]
theorem pcx_s {c : Int} {k : Nat} {s : PSC} (h : c = 42 ∨ c = 43 ∨ c = 63) : pcX c k s = pcS c k s := by
  unfold pcX
  rw [if_neg (by omega), if_neg (by omega), if_neg (by omega), if_pos h]
theorem pcx_l {c : Int} {k : Nat} {s : PSC} (h : ptA c) : pcX c k s = pcL k s := by
  unfold ptA at h
  unfold pcX
  rw [if_neg (by omega), if_neg (by omega), if_neg (by omega), if_neg (by omega)]
theorem prx_o {c : Int} {k : Nat} {s : PSC} {r : PSR} (h : c = 40) : prX c k s r = prO s.1 (prG k s.1 s.2.2.2.2.2 r) := if_pos h
theorem prx_c {c : Int} {k : Nat} {s : PSC} {r : PSR} (h : c = 41) : prX c k s r = prC s.1 (prG k s.1 s.2.2.2.2.2 r) := by
  unfold prX
  rw [if_neg (by omega), if_pos h]
theorem prx_b {c : Int} {k : Nat} {s : PSC} {r : PSR} (h : c = 124) : prX c k s r = prB s.1 (prG k s.1 s.2.2.2.2.2 r) := by
  unfold prX
  rw [if_neg (by omega), if_neg (by omega), if_pos h]
theorem prx_s {c : Int} {k : Nat} {s : PSC} {r : PSR} (h : c = 42 ∨ c = 43 ∨ c = 63) : prX c k s r = prS c r := by
  unfold prX
  rw [if_neg (by omega), if_neg (by omega), if_neg (by omega), if_pos h]
theorem prx_l {c : Int} {k : Nat} {s : PSC} {r : PSR} (h : ptA c) : prX c k s r = prL k (prG k s.1 s.2.2.2.2.2 r) := by
  unfold ptA at h
  unfold prX
  rw [if_neg (by omega), if_neg (by omega), if_neg (by omega), if_neg (by omega)]
/-- after every good beginning both sides say the same -/
theorem pin_all {T : Nat → Int32} : ∀ (k : Nat) {d b : Int}, PTS T k d b → PINb k (pst T k) (pst T k).2.2.2.2.2 (psr T k) ∧ ((pst T k).1 : Int) = d ∧ (b ≠ 0 → (pst T k).2.2.2.2.2 < k ∧ ∀ x y, (pst T k).2.2.1 x y → (pst T k).2.2.2.2.2 < x → (pst T k).2.2.2.2.2 < y)
  | 0, d, b, h => ⟨pin_0, h.1.symm, fun z => absurd h.2 z⟩
  | k + 1, d, b, ⟨d0, b0, h0, hj, h1, h2, h3, h4, h5⟩ => by
    obtain ⟨ih, id, ib⟩ := pin_all k h0
    have ig := pin_g ih
    have es : pst T (k + 1) = pcX (T k).toInt k (pst T k) := rfl
    have er : psr T (k + 1) = prX (T k).toInt k (pst T k) (psr T k) := rfl
    rw [es, er]
    generalize (T k).toInt = c at *
    generalize pst T k = s at *
    generalize psr T k = r at *
    rcases hj with ⟨hc, hj⟩ | ⟨hc, hj⟩ | ⟨hc, hj⟩ | ⟨hc, hj⟩ | ⟨hc, hj⟩ | ⟨_, _, _, _, _, hj⟩
    · have hb : b0 ≠ 0 := by omega
      have e3 := h3 (by unfold ptR at hc; omega) (by unfold ptR at hc; omega)
      have e5 := h5 (by unfold ptR at hc; unfold ptA; omega)
      rw [pcx_s hc, prx_s hc]
      exact ⟨pin_sg ih (ib hb).1 (ib hb).2 (c ≠ 63) (c ≠ 43), by rw [e3]; exact id, fun z => absurd e5 z⟩
    · have e5 := h5 (by unfold ptA; omega)
      rw [pcx_o hc, prx_o hc]
      refine ⟨pin_op ig, ?_, fun z => absurd e5 z⟩
      rw [h1 hc]
      show ((s.1 + 1 : Nat) : Int) = d0 + 1
      omega
    · have e2 := h2 hc
      have s1 : 1 ≤ s.1 := by omega
      obtain ⟨e, he⟩ : ∃ e, s.1 = e + 1 := ⟨s.1 - 1, by omega⟩
      rw [pcx_c hc, prx_c hc]
      have key : PINb (k + 1) (pcC k s) (s.2.1 s.1) (prC s.1 (prG k s.1 s.2.2.2.2.2 r)) ∧ ∀ x y, (pcC k s).2.2.1 x y → s.2.1 s.1 < x → s.2.1 s.1 < y := by
        generalize prG k s.1 s.2.2.2.2.2 r = r1 at ig ⊢
        unfold PINb pcC prC at *
        rw [he] at ig ⊢
        exact pin_cl ig
      have od := geo_o (show GEO k s.1 s.2.1 s.2.2.1 s.2.2.2.1 s.2.2.2.2.1 k from ig.1) s1 (Nat.le_refl _)
      refine ⟨key.1, ?_, fun _ => ⟨?_, key.2⟩⟩
      · rw [e2]
        show ((s.1 - 1 : Nat) : Int) = d0 - 1
        omega
      · show s.2.1 s.1 < k + 1
        omega
    · have e3 := h3 (by omega) (by omega)
      have e5 := h5 (by unfold ptA; omega)
      rw [pcx_b hc, prx_b hc]
      exact ⟨pin_ba ig, by rw [e3]; exact id, fun z => absurd e5 z⟩
    · have e3 := h3 (by unfold ptA at hc; omega) (by unfold ptA at hc; omega)
      rw [pcx_l hc, prx_l hc]
      refine ⟨pin_le ig, by rw [e3]; exact id, fun _ => ⟨Nat.lt_succ_self k, fun x y e hx => ?_⟩⟩
      have hx2 : k < x := hx
      have w := (ig.1.1 x y e).1
      omega
    · omega
/-! THE FEWEST ARCS THAT FIT -/
/-- after exactly L steps from a -/
def DSQ (SU : Nat → Nat → Prop) (a : Nat) : Nat → Nat → Prop
  | 0, x => x = a
  | L + 1, x => ∃ y, DSQ SU a L y ∧ SU y x
/-- a queue: fi of its la places are done, of the next one the steps to D -/
def QBK (SU : Nat → Nat → Prop) (ACC : Nat → Prop) (a : Nat) (qf : Nat → Nat) (cm : Nat → Int) (fi la : Nat) (D : Nat → Prop) : Prop :=
  (qf 0 = a ∧ 0 < la ∧ cm a = 0) ∧ (∀ i, i < la → 0 ≤ cm (qf i) ∧ DSQ SU a (cm (qf i)).toNat (qf i)) ∧ (∀ x, 0 ≤ cm x → ∃ i, i < la ∧ qf i = x) ∧ (∀ i j, i ≤ j → j < la → cm (qf i) ≤ cm (qf j)) ∧
  (fi < la → ∀ j, j < la → cm (qf j) ≤ cm (qf fi) + 1) ∧ (∀ i, i < fi → ¬ ACC (qf i) ∧ ∀ y, SU (qf i) y → 0 ≤ cm y ∧ cm y ≤ cm (qf i) + 1) ∧ (∀ y, D y → 0 ≤ cm y ∧ cm y ≤ cm (qf fi) + 1) ∧ fi ≤ la
section QB
variable {SU : Nat → Nat → Prop} {ACC D : Nat → Prop} {a fi la : Nat} {qf : Nat → Nat} {cm : Nat → Int}
theorem qbk_0 {qg : Nat → Nat} {cn2 : Nat → Int} (h1 : qg 0 = a) (h2 : cn2 a = 0) (h3 : ∀ x, x ≠ a → cn2 x < 0) : QBK SU ACC a qg cn2 0 1 (fun _ => False) := by
  have z : ∀ i, i < 1 → qg i = a := fun i hi => by
    rw [show i = 0 by omega]
    exact h1
  refine ⟨⟨h1, by omega, h2⟩, fun i hi => ?_, fun x hx => ⟨0, by omega, ?_⟩, fun i j h4 h5 => ?_, fun _ j hj => ?_, fun i hi => absurd hi (Nat.not_lt_zero _), fun y hy => hy.elim, by omega⟩
  · rw [z i hi, h2]
    exact ⟨by omega, rfl⟩
  · by_cases c : x = a
    · rw [c]
      exact h1
    · have := h3 x c
      omega
  · rw [z i (by omega), z j h5]
    exact Int.le_refl _
  · rw [z j hj, h1]
    omega
/-- what has been reached -/
theorem qbk_m (h : QBK SU ACC a qf cm fi la D) : ∀ (L x : Nat), DSQ SU a L x → (fi < la → (L : Int) ≤ cm (qf fi)) → 0 ≤ cm x ∧ cm x ≤ (L : Int)
  | 0, x, hd, _ => by
    have e : x = a := hd
    rw [e, h.1.2.2]
    omega
  | L + 1, x, hd, hl => by
    obtain ⟨y, hy, hs⟩ := hd
    have r := qbk_m h L y hy (fun c => by have := hl c; omega)
    obtain ⟨i, hi, e⟩ := h.2.2.1 y r.1
    by_cases c : i < fi
    · have w := (h.2.2.2.2.2.1 i c).2 x (by rw [e]; exact hs)
      rw [e] at w
      omega
    · have w := h.2.2.2.1 fi i (by omega) hi
      have w2 := hl (by omega)
      rw [e] at w
      omega
theorem qbk_p {y : Nat} {qg : Nat → Nat} {cn2 : Nat → Int} {c : Int} (h : QBK SU ACC a qf cm fi la D) (hf : fi < la) (hs : SU (qf fi) y) (hy : cm y < 0) (e1 : qg la = y) (e2 : ∀ i, i < la → qg i = qf i) (hc : c = cm (qf fi) + 1) (e3 : cn2 y = c) (e4 : ∀ x, x ≠ y → cn2 x = cm x) : QBK SU ACC a qg cn2 fi (la + 1) (fun x => D x ∨ x = y) := by
  obtain ⟨h1, h2, h3, h4, h5, h6, h7, h8⟩ := h
  have ne : ∀ i, i < la → qf i ≠ y := fun i hi e => by
    have := (h2 i hi).1
    rw [e] at this
    omega
  have ei : ∀ i, i < la → cn2 (qg i) = cm (qf i) := fun i hi => by
    rw [e2 i hi]
    exact e4 _ (ne i hi)
  have ef := ei fi hf
  have el : cn2 (qg la) = c := by rw [e1]; exact e3
  have up : ∀ x, 0 ≤ cm x → cn2 x = cm x := fun x hx => e4 x (fun e => by rw [e] at hx; omega)
  have hfi := (h2 fi hf)
  refine ⟨⟨by rw [e2 0 h1.2.1]; exact h1.1, by omega, ?_⟩, fun i hi => ?_, fun x hx => ?_, fun i j hij hj => ?_, fun _ j hj => ?_, fun i hi => ?_, fun x hx => ?_, by omega⟩
  · have w := ei 0 h1.2.1
    rw [e2 0 h1.2.1, h1.1] at w
    rw [w]
    exact h1.2.2
  · by_cases k : i < la
    · rw [ei i k, e2 i k]
      exact h2 i k
    · have e : i = la := by omega
      rw [e, el, e1, hc]
      refine ⟨by omega, ?_⟩
      rw [show (cm (qf fi) + 1).toNat = (cm (qf fi)).toNat + 1 by omega]
      exact ⟨qf fi, hfi.2, hs⟩
  · by_cases k : x = y
    · exact ⟨la, by omega, by rw [e1, k]⟩
    · rw [e4 x k] at hx
      obtain ⟨i, hi, e⟩ := h3 x hx
      exact ⟨i, by omega, by rw [e2 i hi]; exact e⟩
  · by_cases k : j < la
    · rw [ei i (by omega), ei j k]
      exact h4 i j hij k
    · have e : j = la := by omega
      rw [e, el]
      by_cases k2 : i < la
      · rw [ei i k2, hc]
        exact h5 hf i k2
      · rw [show i = la by omega, el]
        exact Int.le_refl _
  · rw [ef]
    by_cases k : j < la
    · rw [ei j k]
      exact h5 hf j k
    · rw [show j = la by omega, el, hc]
      exact Int.le_refl _
  · have w := h6 i hi
    have il : i < la := by omega
    rw [e2 i il]
    refine ⟨w.1, fun x hx => ?_⟩
    have w2 := w.2 x hx
    rw [up x w2.1, e4 _ (ne i il)]
    exact w2
  · rw [ef]
    by_cases k : x = y
    · rw [k, e3, hc]
      omega
    · have w := h7 x (hx.elim id (fun e => absurd e k))
      rw [up x w.1]
      exact w
theorem qbk_k {y : Nat} (h : QBK SU ACC a qf cm fi la D) (hf : fi < la) (hy : 0 ≤ cm y) : QBK SU ACC a qf cm fi la (fun x => D x ∨ x = y) := by
  obtain ⟨h1, h2, h3, h4, h5, h6, h7, h8⟩ := h
  refine ⟨h1, h2, h3, h4, h5, h6, fun x hx => ?_, h8⟩
  rcases hx with hx | hx
  · exact h7 x hx
  · obtain ⟨i, hi, e⟩ := h3 y hy
    rw [hx, ← e]
    exact ⟨by rw [e]; exact hy, h5 hf i hi⟩
theorem qbk_d {D2 : Nat → Prop} (h : QBK SU ACC a qf cm fi la D) (hd : ∀ x, D2 x → D x) : QBK SU ACC a qf cm fi la D2 := ⟨h.1, h.2.1, h.2.2.1, h.2.2.2.1, h.2.2.2.2.1, h.2.2.2.2.2.1, fun x hx => h.2.2.2.2.2.2.1 x (hd x hx), h.2.2.2.2.2.2.2⟩
theorem qbk_n {fi2 : Nat} (h : QBK SU ACC a qf cm fi la D) (hf : fi < la) (hd : ∀ y, SU (qf fi) y → D y) (hn : ¬ ACC (qf fi)) (e : fi2 = fi + 1) : QBK SU ACC a qf cm fi2 la (fun _ => False) := by
  obtain ⟨h1, h2, h3, h4, h5, h6, h7, h8⟩ := h
  refine ⟨h1, h2, h3, h4, fun c j hj => ?_, fun i hi => ?_, fun y hy => hy.elim, by omega⟩
  · have w := h5 hf j hj
    have w2 := h4 fi fi2 (by omega) c
    omega
  · by_cases c : i = fi
    · rw [c]
      exact ⟨hn, fun y hy => h7 y (hd y hy)⟩
    · exact h6 i (by omega)
/-- the answer -/
def FTA (SU : Nat → Nat → Prop) (ACC : Nat → Prop) (a : Nat) (z : Int) : Prop := (z = -1 ∧ ∀ L x, DSQ SU a L x → ¬ ACC x) ∨ (0 ≤ z ∧ (∃ x, DSQ SU a z.toNat x ∧ ACC x) ∧ ∀ L x, (L : Int) < z → DSQ SU a L x → ¬ ACC x)
theorem fta_y {z : Int} (h : QBK SU ACC a qf cm fi la D) (hf : fi < la) (hA : ACC (qf fi)) (hz : z = cm (qf fi)) : FTA SU ACC a z := by
  have w := h.2.1 fi hf
  rw [← hz] at w
  refine Or.inr ⟨w.1, ⟨qf fi, w.2, hA⟩, fun L x hL hx hc => ?_⟩
  have r := qbk_m h L x hx (fun _ => by omega)
  obtain ⟨i, hi, e⟩ := h.2.2.1 x r.1
  by_cases c : i < fi
  · have n := (h.2.2.2.2.2.1 i c).1
    rw [e] at n
    exact n hc
  · have m := h.2.2.2.1 fi i (by omega) hi
    rw [e] at m
    omega
theorem fta_n {z : Int} (h : QBK SU ACC a qf cm fi la D) (hf : la ≤ fi) (hz : z = -1) : FTA SU ACC a z := by
  refine Or.inl ⟨hz, fun L x hx hc => ?_⟩
  have r := qbk_m h L x hx (fun c => by omega)
  obtain ⟨i, hi, e⟩ := h.2.2.1 x r.1
  have n := (h.2.2.2.2.2.1 i (by omega)).1
  rw [e] at n
  exact n hc
theorem fta_u {y z : Int} (h : FTA SU ACC a y) (k : FTA SU ACC a z) : y = z := by
  rcases h with ⟨h1, h2⟩ | ⟨h1, ⟨x, h2, h3⟩, h4⟩
  · rcases k with ⟨k1, k2⟩ | ⟨k1, ⟨w, k2, k3⟩, k4⟩
    · omega
    · exact absurd k3 (h2 _ _ k2)
  · rcases k with ⟨k1, k2⟩ | ⟨k1, ⟨w, k2, k3⟩, k4⟩
    · exact absurd h3 (k2 _ _ h2)
    · rcases Int.lt_trichotomy y z with c | c | c
      · exact absurd h3 (k4 y.toNat x (by omega) h2)
      · exact c
      · exact absurd k3 (h4 z.toNat w (by omega) k2)
end QB
/-! the class: layers -/
/-- after exactly L arcs at v, with the place y next -/
def PDQ (AR : Nat → Nat → Nat → Prop) (mt : Nat → Nat → Bool) (J : Nat → Nat → Bool) (st : Nat → Bool) (s : Nat) : Nat → Nat → Nat → Prop
  | 0, v, y => v = s ∧ st y = true
  | L + 1, v, y => ∃ u x c, PDQ AR mt J st s L u x ∧ AR c u v ∧ mt c x = true ∧ J (x + 1) y = true
/-- seen: within L arcs; now: for the first time with L -/
def LAY (P : Nat → Nat → Nat → Prop) (L : Nat) (now seen : Nat → Nat → Bool) : Prop := (∀ v y, seen v y = true ↔ ∃ M, M ≤ L ∧ P M v y) ∧ ∀ v y, now v y = true ↔ (P L v y ∧ ∀ M, M < L → ¬ P M v y)
section LY
variable {AR : Nat → Nat → Nat → Prop} {mt J : Nat → Nat → Bool} {st : Nat → Bool} {s : Nat} {now seen nxt seen2 : Nat → Nat → Bool} {L : Nat}
theorem lay_0 (h1 : ∀ v y, seen v y = true ↔ (v = s ∧ st y = true)) (h2 : ∀ v y, now v y = true ↔ (v = s ∧ st y = true)) : LAY (PDQ AR mt J st s) 0 now seen := by
  refine ⟨fun v y => (h1 v y).trans ⟨fun h => ⟨0, Nat.le_refl _, h⟩, fun ⟨M, hM, h⟩ => ?_⟩, fun v y => (h2 v y).trans ⟨fun h => ⟨h, fun M hM => absurd hM (Nat.not_lt_zero _)⟩, fun h => h.1⟩⟩
  rw [show M = 0 by omega] at h
  exact h
/-- where one comes from now by one arc -/
def STP (AR : Nat → Nat → Nat → Prop) (mt J : Nat → Nat → Bool) (now : Nat → Nat → Bool) (v y : Nat) : Prop := ∃ u x c, now u x = true ∧ AR c u v ∧ mt c x = true ∧ J (x + 1) y = true
theorem lay_s (h : LAY (PDQ AR mt J st s) L now seen) (h1 : ∀ v y, nxt v y = true ↔ (STP AR mt J now v y ∧ seen v y = false)) (h2 : ∀ v y, seen2 v y = true ↔ (seen v y = true ∨ STP AR mt J now v y)) : LAY (PDQ AR mt J st s) (L + 1) nxt seen2 := by
  have key : ∀ v y, PDQ AR mt J st s (L + 1) v y → seen v y = true ∨ STP AR mt J now v y := fun v y hp => by
    obtain ⟨u, x, c, p1, p2, p3, p4⟩ := hp
    by_cases k : ∃ M, M < L ∧ PDQ AR mt J st s M u x
    · obtain ⟨M, hM, p⟩ := k
      exact Or.inl ((h.1 v y).mpr ⟨M + 1, by omega, u, x, c, p, p2, p3, p4⟩)
    · exact Or.inr ⟨u, x, c, (h.2 u x).mpr ⟨p1, fun M hM p => k ⟨M, hM, p⟩⟩, p2, p3, p4⟩
  have stp : ∀ v y, STP AR mt J now v y → PDQ AR mt J st s (L + 1) v y := fun v y ⟨u, x, c, p1, p2, p3, p4⟩ => ⟨u, x, c, ((h.2 u x).mp p1).1, p2, p3, p4⟩
  refine ⟨fun v y => (h2 v y).trans ⟨fun q => ?_, fun ⟨M, hM, q⟩ => ?_⟩, fun v y => (h1 v y).trans ⟨fun q => ?_, fun q => ?_⟩⟩
  · rcases q with q | q
    · obtain ⟨M, hM, p⟩ := (h.1 v y).mp q
      exact ⟨M, by omega, p⟩
    · exact ⟨L + 1, Nat.le_refl _, stp v y q⟩
  · by_cases k : M = L + 1
    · rw [k] at q
      exact key v y q
    · exact Or.inl ((h.1 v y).mpr ⟨M, by omega, q⟩)
  · refine ⟨stp v y q.1, fun M hM p => ?_⟩
    have w := (h.1 v y).mpr ⟨M, by omega, p⟩
    rw [q.2] at w
    cases w
  · have n : seen v y = false := by
      cases k : seen v y with
      | false => rfl
      | true =>
        obtain ⟨M, hM, p⟩ := (h.1 v y).mp k
        exact absurd p (q.2 M (by omega))
    exact ⟨(key v y q.1).resolve_left (by rw [n]; decide), n⟩
/-- nothing new: nothing ever -/
theorem lay_e (h : LAY (PDQ AR mt J st s) L now seen) (hn : ∀ v y, STP AR mt J now v y → seen v y = true) : ∀ M v y, PDQ AR mt J st s M v y → seen v y = true := by
  have g : ∀ M, M ≤ L → ∀ v y, PDQ AR mt J st s M v y → seen v y = true := fun M hM v y p => (h.1 v y).mpr ⟨M, hM, p⟩
  have k : ∀ m v y, PDQ AR mt J st s (L + m) v y → seen v y = true := fun m => by
    induction m with
    | zero => intro v y p; exact g L (Nat.le_refl _) v y p
    | succ m ih =>
      intro v y p
      obtain ⟨u, x, c, p1, p2, p3, p4⟩ := p
      obtain ⟨M, hM, q⟩ := (h.1 u x).mp (ih u x p1)
      by_cases e : M < L
      · exact g (M + 1) (by omega) v y ⟨u, x, c, q, p2, p3, p4⟩
      · by_cases e2 : ∃ M, M < L ∧ PDQ AR mt J st s M u x
        · obtain ⟨M2, hM2, q2⟩ := e2
          exact g (M2 + 1) (by omega) v y ⟨u, x, c, q2, p2, p3, p4⟩
        · have eM : M = L := by omega
          rw [eM] at q
          exact hn v y ⟨u, x, c, (h.2 u x).mpr ⟨q, fun M2 hM2 q2 => e2 ⟨M2, hM2, q2⟩⟩, p2, p3, p4⟩
  intro M v y p
  by_cases c : M ≤ L
  · exact g M c v y p
  · have e := k (M - L) v y
    rw [show L + (M - L) = M by omega] at e
    exact e p
end LY
/-- the answer, in the class's words -/
def FTB (P : Nat → Nat → Nat → Prop) (t : Nat) (ac : Nat → Bool) (z : Int) : Prop := (z = -1 ∧ ∀ L y, P L t y → ac y = false) ∨ (0 ≤ z ∧ (∃ y, P z.toNat t y ∧ ac y = true) ∧ ∀ L y, (L : Int) < z → P L t y → ac y = false)
/-! both sides' states -/
def NXb (fst : Nat → Bool) (beh : Nat → Nat → Bool) : Nat → Nat → Prop
  | 0, p => fst p = true
  | i + 1, p => beh i p = true
def EDb (emp : Prop) (lst : Nat → Bool) : Nat → Prop
  | 0 => emp
  | i + 1 => lst i = true
/-- the rows of both sides come from one pattern: fnd letters, the p-th at the place pos p of n -/
def PFR (J : Nat → Nat → Bool) (mt : Nat → Nat → Bool) (st ac : Nat → Bool) (n fnd : Nat) (pos : Nat → Nat) (kd : Nat → Int) (beh : Nat → Nat → Bool) (fst lst : Nat → Bool) (emp : Prop) : Prop :=
  (∀ y, ac y = true ↔ y = n) ∧ (∀ p, p < fnd → pos p < n) ∧ (∀ p r, p < fnd → r < fnd → pos p = pos r → p = r) ∧
  (∀ y, st y = true ↔ ((y = n ∧ emp) ∨ ∃ p, p < fnd ∧ y = pos p ∧ fst p = true)) ∧
  (∀ p, p < fnd → ∀ y, J (pos p + 1) y = true ↔ ((y = n ∧ lst p = true) ∨ ∃ r, r < fnd ∧ y = pos r ∧ beh p r = true)) ∧
  (∀ c, c < 26 → ∀ x, mt c x = true ↔ ∃ p, p < fnd ∧ x = pos p ∧ (kd p = 26 ∨ kd p = (c : Int)))
/-- the reference's steps: states 61 v and 61 v + p + 1 -/
def SUR (AR : Nat → Nat → Nat → Prop) (fnd : Nat) (kd : Nat → Int) (fst : Nat → Bool) (beh : Nat → Nat → Bool) (x y : Nat) : Prop := ∃ c v p, AR c (x / 61) v ∧ p < fnd ∧ y = 61 * v + (p + 1) ∧ NXb fst beh (x % 61) p ∧ (kd p = 26 ∨ kd p = (c : Int))
section PF
variable {AR : Nat → Nat → Nat → Prop} {J mt beh : Nat → Nat → Bool} {st ac fst lst : Nat → Bool} {n fnd s t : Nat} {pos : Nat → Nat} {kd : Nat → Int} {emp : Prop}
theorem pfr_d (h : PFR J mt st ac n fnd pos kd beh fst lst emp) (h60 : fnd ≤ 60) (hk : ∀ c u v, AR c u v → c < 26) : ∀ (L v y : Nat), PDQ AR mt J st s L v y ↔ ∃ x, DSQ (SUR AR fnd kd fst beh) (61 * s) L x ∧ x / 61 = v ∧ ((y = n ∧ EDb emp lst (x % 61)) ∨ ∃ p, p < fnd ∧ y = pos p ∧ NXb fst beh (x % 61) p)
  | 0, v, y => by
    have e1 : 61 * s / 61 = s := by omega
    have e2 : 61 * s % 61 = 0 := by omega
    constructor
    · rintro ⟨rfl, q⟩
      exact ⟨61 * v, rfl, e1, by rw [e2]; exact (h.2.2.2.1 y).mp q⟩
    · rintro ⟨x, hx, hv, q⟩
      have ex : x = 61 * s := hx
      rw [ex, e2] at q
      rw [ex, e1] at hv
      exact ⟨hv.symm, (h.2.2.2.1 y).mpr q⟩
  | L + 1, v, y => by
    have ih := pfr_d h h60 hk L
    constructor
    · rintro ⟨u, x, c, p1, p2, p3, p4⟩
      obtain ⟨p, hp, ep, kp⟩ := (h.2.2.2.2.2 c (hk c u v p2) x).mp p3
      obtain ⟨w, w1, w2, w3⟩ := (ih u x).mp p1
      have nx : NXb fst beh (w % 61) p := by
        rcases w3 with ⟨e, -⟩ | ⟨r, hr, e, q⟩
        · have := h.2.1 p hp
          omega
        · rw [h.2.2.1 p r hp hr (by omega)]
          exact q
      have d1 : (61 * v + (p + 1)) / 61 = v := by omega
      have d2 : (61 * v + (p + 1)) % 61 = p + 1 := by omega
      refine ⟨61 * v + (p + 1), ⟨w, w1, c, v, p, by rw [w2]; exact p2, hp, rfl, nx, kp⟩, d1, ?_⟩
      rw [d2]
      rw [ep] at p4
      exact (h.2.2.2.2.1 p hp y).mp p4
    · rintro ⟨x, ⟨w, w1, c, v2, p, a1, a2, a3, a4, a5⟩, hv, q⟩
      have d1 : (61 * v2 + (p + 1)) / 61 = v2 := by omega
      have d2 : (61 * v2 + (p + 1)) % 61 = p + 1 := by omega
      rw [a3, d2] at q
      rw [a3, d1] at hv
      rw [← hv]
      exact ⟨w / 61, pos p, c, (ih (w / 61) (pos p)).mpr ⟨w, w1, rfl, Or.inr ⟨p, a2, rfl, a4⟩⟩, a1, (h.2.2.2.2.2 c (hk _ _ _ a1) (pos p)).mpr ⟨p, a2, rfl, a5⟩, (h.2.2.2.2.1 p a2 y).mpr q⟩
theorem pfr_f (h : PFR J mt st ac n fnd pos kd beh fst lst emp) (h60 : fnd ≤ 60) (hk : ∀ c u v, AR c u v → c < 26) {z : Int} (hz : FTB (PDQ AR mt J st s) t ac z) : FTA (SUR AR fnd kd fst beh) (fun x => x / 61 = t ∧ EDb emp lst (x % 61)) (61 * s) z := by
  have key : ∀ L, (∃ y, PDQ AR mt J st s L t y ∧ ac y = true) ↔ ∃ x, DSQ (SUR AR fnd kd fst beh) (61 * s) L x ∧ (x / 61 = t ∧ EDb emp lst (x % 61)) := fun L => by
    constructor
    · rintro ⟨y, hy, ha⟩
      obtain ⟨x, x1, x2, x3⟩ := (pfr_d h h60 hk L t y).mp hy
      have en := (h.1 y).mp ha
      rcases x3 with ⟨-, q⟩ | ⟨p, hp, e, -⟩
      · exact ⟨x, x1, x2, q⟩
      · have := h.2.1 p hp
        omega
    · rintro ⟨x, x1, x2, q⟩
      exact ⟨n, (pfr_d h h60 hk L t n).mpr ⟨x, x1, x2, Or.inl ⟨rfl, q⟩⟩, (h.1 n).mpr rfl⟩
  have no : ∀ L, (∀ y, PDQ AR mt J st s L t y → ac y = false) → ∀ x, DSQ (SUR AR fnd kd fst beh) (61 * s) L x → ¬ (x / 61 = t ∧ EDb emp lst (x % 61)) := fun L hf x hx q => by
    obtain ⟨y, hy, ha⟩ := (key L).mpr ⟨x, hx, q⟩
    rw [hf y hy] at ha
    cases ha
  rcases hz with ⟨h1, h2⟩ | ⟨h1, h2, h3⟩
  · exact Or.inl ⟨h1, fun L => no L (h2 L)⟩
  · exact Or.inr ⟨h1, (key _).mp h2, fun L x hL => no L (fun y => h3 L y hL) x⟩
end PF
/-! A PATTERN'S ROWS ON BOTH SIDES -/
def lpF (r : PSR) : Nat := r.2.2.2.2.2.2.2.2.2.2.1
def lpP (r : PSR) : Nat → Nat := r.2.2.2.2.2.2.2.2.2.2.2
theorem prg_l {k d bg : Nat} {r : PSR} : lpF (prG k d bg r) = lpF r ∧ lpP (prG k d bg r) = lpP r := by
  unfold prG
  by_cases c : bg < k
  · rw [if_pos c]
    exact ⟨rfl, rfl⟩
  · rw [if_neg c]
    exact ⟨rfl, rfl⟩
def LPO (T : Nat → Int32) (k : Nat) (f : Nat) (pos : Nat → Nat) : Prop := (∀ p, p < f → pos p < k ∧ ptA (T (pos p)).toInt) ∧ ∀ x, x < k → ptA (T x).toInt → ∃ p, p < f ∧ pos p = x
theorem lpo_n {T : Nat → Int32} {k f : Nat} {pos : Nat → Nat} (h : LPO T k f pos) (hc : ¬ ptA (T k).toInt) : LPO T (k + 1) f pos := by
  refine ⟨fun p hp => ⟨by have := (h.1 p hp).1; omega, (h.1 p hp).2⟩, fun x hx ha => ?_⟩
  by_cases c : x = k
  · rw [c] at ha
    exact absurd ha hc
  · exact h.2 x (by omega) ha
theorem lpo_l {T : Nat → Int32} {k f : Nat} {pos : Nat → Nat} (h : LPO T k f pos) (hc : ptA (T k).toInt) : LPO T (k + 1) (f + 1) (fun p => if p = f then k else pos p) := by
  refine ⟨fun p hp => ?_, fun x hx ha => ?_⟩
  · show (if p = f then k else pos p) < k + 1 ∧ ptA (T (if p = f then k else pos p)).toInt
    by_cases c : p = f
    · rw [if_pos c]
      exact ⟨by omega, hc⟩
    · rw [if_neg c]
      have w := h.1 p (by omega)
      exact ⟨by omega, w.2⟩
  · by_cases c : x = k
    · exact ⟨f, by omega, by rw [c]; exact if_pos rfl⟩
    · obtain ⟨p, hp, e⟩ := h.2 x (by omega) ha
      exact ⟨p, by omega, by rw [← e]; exact if_neg (by omega)⟩
theorem lpo_all {T : Nat → Int32} : ∀ (k : Nat) {d b : Int}, PTS T k d b → LPO T k (lpF (psr T k)) (lpP (psr T k))
  | 0, d, b, h => ⟨fun p hp => absurd hp (Nat.not_lt_zero _), fun x hx => absurd hx (Nat.not_lt_zero _)⟩
  | k + 1, d, b, ⟨d0, b0, h0, hj, h1, h2, h3, h4, h5⟩ => by
    have ih := lpo_all k h0
    have er : psr T (k + 1) = prX (T k).toInt k (pst T k) (psr T k) := rfl
    rw [er]
    rcases hj with ⟨hc, hj⟩ | ⟨hc, hj⟩ | ⟨hc, hj⟩ | ⟨hc, hj⟩ | ⟨hc, hj⟩ | ⟨_, _, _, _, _, hj⟩
    · rw [prx_s hc]
      exact lpo_n ih (by unfold ptR at hc; unfold ptA; omega)
    · rw [prx_o hc]
      have w := prg_l (k := k) (d := (pst T k).1) (bg := (pst T k).2.2.2.2.2) (r := psr T k)
      have e1 : lpF (prO (pst T k).1 (prG k (pst T k).1 (pst T k).2.2.2.2.2 (psr T k))) = lpF (psr T k) := w.1
      have e2 : lpP (prO (pst T k).1 (prG k (pst T k).1 (pst T k).2.2.2.2.2 (psr T k))) = lpP (psr T k) := w.2
      rw [e1, e2]
      exact lpo_n ih (by unfold ptA; omega)
    · rw [prx_c hc]
      have w := prg_l (k := k) (d := (pst T k).1) (bg := (pst T k).2.2.2.2.2) (r := psr T k)
      have e1 : lpF (prC (pst T k).1 (prG k (pst T k).1 (pst T k).2.2.2.2.2 (psr T k))) = lpF (psr T k) := w.1
      have e2 : lpP (prC (pst T k).1 (prG k (pst T k).1 (pst T k).2.2.2.2.2 (psr T k))) = lpP (psr T k) := w.2
      rw [e1, e2]
      exact lpo_n ih (by unfold ptA; omega)
    · rw [prx_b hc]
      have w := prg_l (k := k) (d := (pst T k).1) (bg := (pst T k).2.2.2.2.2) (r := psr T k)
      have e1 : lpF (prB (pst T k).1 (prG k (pst T k).1 (pst T k).2.2.2.2.2 (psr T k))) = lpF (psr T k) := w.1
      have e2 : lpP (prB (pst T k).1 (prG k (pst T k).1 (pst T k).2.2.2.2.2 (psr T k))) = lpP (psr T k) := w.2
      rw [e1, e2]
      exact lpo_n ih (by unfold ptA; omega)
    · rw [prx_l hc]
      have w := prg_l (k := k) (d := (pst T k).1) (bg := (pst T k).2.2.2.2.2) (r := psr T k)
      have e1 : lpF (prL k (prG k (pst T k).1 (pst T k).2.2.2.2.2 (psr T k))) = lpF (psr T k) + 1 := congrArg (fun z => z + 1) w.1
      have e2 : lpP (prL k (prG k (pst T k).1 (pst T k).2.2.2.2.2 (psr T k))) = (fun p => if p = lpF (psr T k) then k else lpP (psr T k) p) := by
        funext p
        show (if p = lpF (prG k (pst T k).1 (pst T k).2.2.2.2.2 (psr T k)) then k else lpP (prG k (pst T k).1 (pst T k).2.2.2.2.2 (psr T k)) p) = _
        rw [w.1, w.2]
      rw [e1, e2]
      exact lpo_l ih hc
    · omega
/-- the edges of the whole pattern, and where it begins -/
def EWQ (T : Nat → Int32) (n x y : Nat) : Prop := EBK (pst T n).2.2.2.2.1 (pst T n).2.2.1 0 n x y
def SWP (T : Nat → Int32) (n x : Nat) : Prop := ∃ b, ALP (pst T n).2.2.2.2.1 (pst T n).2.2.2.1 n 0 x b
def LET (T : Nat → Int32) (n y : Nat) : Prop := y < n ∧ ptA (T y).toInt
def PCA (T : Nat → Int32) (n : Nat) (J mt : Nat → Nat → Bool) (st ac : Nat → Bool) : Prop :=
  (∀ x, LET T n x → ∀ y, J (x + 1) y = true ↔ (wlq (EWQ T n) (x + 1) y ∧ (y = n ∨ LET T n y))) ∧ (∀ y, st y = true ↔ ((∃ x, SWP T n x ∧ wlq (EWQ T n) x y) ∧ (y = n ∨ LET T n y))) ∧ (∀ c, c < 26 → ∀ x, mt c x = true ↔ (x < n ∧ ((T x).toInt = 46 ∨ (T x).toInt = 97 + (c : Int)))) ∧ ∀ y, ac y = true ↔ y = n
/-- the reference's state at the end, its last atom put behind the rest -/
def psE (T : Nat → Int32) (n : Nat) : PSR := prG n 0 (pst T n).2.2.2.2.2 (psr T n)
def PRA (T : Nat → Int32) (n fnd : Nat) (kd : Nat → Int) (beh : Nat → Nat → Bool) (fst lst : Nat → Bool) (emp : Prop) : Prop :=
  fnd = lpF (psr T n) ∧ (∀ p, p < fnd → kd p = if (T (lpP (psr T n) p)).toInt = 46 then 26 else (T (lpP (psr T n) p)).toInt - 97) ∧ (∀ p r, p < fnd → (beh p r = true ↔ (psE T n).2.2.2.2.2.2.2.2.2.1 p r)) ∧ (∀ p, fst p = true ↔ ((psE T n).2.2.2.2.1 0 p ∨ (psE T n).2.1 0 p)) ∧ (∀ p, lst p = true ↔ ((psE T n).2.2.2.2.2.1 0 p ∨ (psE T n).2.2.1 0 p)) ∧ (emp ↔ ((psE T n).2.2.2.1 0 ∨ (psE T n).1 0))
theorem pfr_of {T : Nat → Int32} {n fnd : Nat} {b : Int} {J mt beh : Nat → Nat → Bool} {st ac fst lst : Nat → Bool} {kd : Nat → Int} {emp : Prop} (hg : PTS T n 0 b) (hc : PCA T n J mt st ac) (hr : PRA T n fnd kd beh fst lst emp) : PFR J mt st ac n fnd (lpP (psr T n)) kd beh fst lst emp := by
  obtain ⟨i1, i2, -⟩ := pin_all n hg
  have d0 : (pst T n).1 = 0 := by omega
  have lo := lpo_all n hg
  have ig := pin_g i1
  have w := prg_l (k := n) (d := (pst T n).1) (bg := (pst T n).2.2.2.2.2) (r := psr T n)
  have ef : (psE T n).2.2.2.2.2.2.2.2.2.2.1 = lpF (psr T n) := by
    rw [d0] at w
    exact w.1
  have ep : (psE T n).2.2.2.2.2.2.2.2.2.2.2 = lpP (psr T n) := by
    rw [d0] at w
    exact w.2
  have pe : PIN n 0 (pst T n).2.1 (pst T n).2.2.1 (pst T n).2.2.2.1 (pst T n).2.2.2.2.1 n (lpF (psr T n)) (lpP (psr T n)) (psE T n).1 (psE T n).2.1 (psE T n).2.2.1 (psE T n).2.2.2.1 (psE T n).2.2.2.2.1 (psE T n).2.2.2.2.2.1 (psE T n).2.2.2.2.2.2.1 (psE T n).2.2.2.2.2.2.2.1 (psE T n).2.2.2.2.2.2.2.2.1 (psE T n).2.2.2.2.2.2.2.2.2.1 := by
    rw [← ef, ← ep]
    unfold PINb at ig
    rw [d0] at ig
    exact ig
  obtain ⟨e1, e2, e3, e4⟩ := pin_en pe
  obtain ⟨r1, r2, r3, r4, r5, r6⟩ := hr
  obtain ⟨c1, c2, c3, c4⟩ := hc
  have lt : ∀ p, p < fnd → LET T n (lpP (psr T n) p) := fun p hp => lo.1 p (by omega)
  have sw : ∀ y, (∃ x b, ALP (pst T n).2.2.2.2.1 (pst T n).2.2.2.1 n 0 x b ∧ wlq (EBK (pst T n).2.2.2.2.1 (pst T n).2.2.1 0 n) x y) ↔ ∃ x, SWP T n x ∧ wlq (EWQ T n) x y := fun y => ⟨fun ⟨x, b, h1, h2⟩ => ⟨x, ⟨b, h1⟩, h2⟩, fun ⟨x, ⟨b, h1⟩, h2⟩ => ⟨x, b, h1, h2⟩⟩
  have nn : ∀ p, p < fnd → lpP (psr T n) p ≠ n := fun p hp => by
    have := (lt p hp).1
    omega
  refine ⟨c4, fun p hp => (lt p hp).1, fun p r hp hr he => ?_, fun y => (c2 y).trans ?_, fun p hp y => (c1 _ (lt p hp) y).trans ?_, fun c hc x => (c3 c hc x).trans ?_⟩
  · have m := pe.2.1.2
    by_cases k1 : p < r
    · have := m p r k1 (by omega)
      omega
    · by_cases k2 : r < p
      · have := m r p k2 (by omega)
        omega
      · omega
  · constructor
    · rintro ⟨h1, h2 | h2⟩
      · rw [h2] at h1
        exact Or.inl ⟨h2, r6.mpr (e1.mpr ((sw n).mpr h1))⟩
      · obtain ⟨p, hp, ey⟩ := lo.2 y h2.1 h2.2
        rw [← ey] at h1
        exact Or.inr ⟨p, by omega, ey.symm, (r4 p).mpr ((e2 p).mpr ⟨hp, (sw _).mpr h1⟩)⟩
    · rintro (⟨h1, h2⟩ | ⟨p, hp, h1, h2⟩)
      · rw [h1]
        exact ⟨(sw n).mp (e1.mp (r6.mp h2)), Or.inl rfl⟩
      · rw [h1]
        exact ⟨(sw _).mp ((e2 p).mp ((r4 p).mp h2)).2, Or.inr (lt p hp)⟩
  · constructor
    · rintro ⟨h1, h2 | h2⟩
      · rw [h2] at h1
        exact Or.inl ⟨h2, (r5 p).mpr ((e3 p).mpr ⟨by omega, h1⟩)⟩
      · obtain ⟨o, ho, ey⟩ := lo.2 y h2.1 h2.2
        rw [← ey] at h1
        exact Or.inr ⟨o, by omega, ey.symm, (r3 p o hp).mpr ((e4 p o).mpr ⟨by omega, ho, h1⟩)⟩
    · rintro (⟨h1, h2⟩ | ⟨o, ho, h1, h2⟩)
      · rw [h1]
        exact ⟨((e3 p).mp ((r5 p).mp h2)).2, Or.inl rfl⟩
      · rw [h1]
        exact ⟨((e4 p o).mp ((r3 p o hp).mp h2)).2.2, Or.inr (lt o ho)⟩
  · constructor
    · rintro ⟨h1, h2⟩
      have ha : ptA (T x).toInt := by
        unfold ptA
        omega
      obtain ⟨p, hp, ey⟩ := lo.2 x h1 ha
      refine ⟨p, by omega, ey.symm, ?_⟩
      rw [r2 p (by omega), ey]
      by_cases k : (T x).toInt = 46
      · rw [if_pos k]
        exact Or.inl rfl
      · rw [if_neg k]
        right
        omega
    · rintro ⟨p, hp, ey, h2⟩
      rw [r2 p hp, ← ey] at h2
      have l := lt p hp
      rw [← ey] at l
      refine ⟨l.1, ?_⟩
      have ha := l.2
      unfold ptA at ha
      by_cases k : (T x).toInt = 46
      · exact Or.inl k
      · rw [if_neg k] at h2
        right
        omega
/-! THE CLASS'S PATTERN -/
section CB
variable {f f0 : Nat → Int64} {m r r1 r2 e z acc acc2 : Int64} {k : Nat}
def CBS (f0 f : Nat → Int64) (m r e : Int64) : Prop := (∀ w, blt r w = true → blt m w = true) ∧ ∀ x y, blt (f x) y = true ↔ (blt (f0 x) y = true ∨ ((blt m x = true ∧ blt r x = false) ∧ blt e y = true))
theorem cbs_0 : CBS f f m m e := ⟨fun _ h => h, fun x y => ⟨Or.inl, fun h => h.elim id (fun q => by rw [q.1.2] at q; exact absurd q.1.1 (by decide))⟩⟩
theorem lbu {x y : Nat} (hz : z = f k ||| e) : blt (vp_updL f k z x) y = true ↔ (blt (f x) y = true ∨ (x = k ∧ blt e y = true)) := by
  by_cases c : x = k
  · rw [c, vp_at, blx_or hz, Bool.or_eq_true]
    exact ⟨fun h => h.imp id (fun q => ⟨rfl, q⟩), fun h => h.imp id (fun q => q.2)⟩
  · rw [vp_ne c]
    exact ⟨Or.inl, fun h => h.elim id (fun q => absurd q.1 c)⟩
theorem low_c (hl : lowL r k) (e1 : r1 = r - Int64.ofInt 1) (e2 : r2 = r &&& r1) {w : Nat} : blt r2 w = true ↔ (blt r w = true ∧ w ≠ k) := by
  rw [lowL_clr hl e1 e2, Bool.and_eq_true]
  simp
theorem low_f (hl : lowL r k) (e1 : r1 = r - Int64.ofInt 1) (e2 : r2 = r &&& r1) {w : Nat} : blt r2 w = false ↔ (blt r w = false ∨ w = k) := by
  have h := low_c hl e1 e2 (w := w)
  cases a : blt r2 w with
  | true =>
    have q := h.mp a
    rw [q.1]
    exact ⟨fun z => by cases z, fun z => z.elim (fun z => by cases z) (fun z => absurd z q.2)⟩
  | false =>
    refine ⟨fun _ => ?_, fun _ => rfl⟩
    cases b : blt r w with
    | false => exact Or.inl rfl
    | true => exact Or.inr (Classical.byContradiction fun q => by rw [h.mpr ⟨b, q⟩] at a; cases a)
theorem cbs_s (h : CBS f0 f m r e) (hl : lowL r k) (hb : blt r k = true) (hz : z = f k ||| e) (e1 : r1 = r - Int64.ofInt 1) (e2 : r2 = r &&& r1) : CBS f0 (vp_updL f k z) m r2 e := by
  refine ⟨fun w hw => h.1 w ((low_c hl e1 e2).mp hw).1, fun x y => (lbu hz).trans ?_⟩
  rw [h.2 x y, low_f hl e1 e2]
  constructor
  · rintro ((q | q) | q)
    · exact Or.inl q
    · exact Or.inr ⟨⟨q.1.1, Or.inl q.1.2⟩, q.2⟩
    · exact Or.inr ⟨⟨by rw [q.1]; exact h.1 k hb, Or.inr q.1⟩, q.2⟩
  · rintro (q | ⟨⟨q1, q2 | q2⟩, q3⟩)
    · exact Or.inl (Or.inl q)
    · exact Or.inl (Or.inr ⟨⟨q1, q2⟩, q3⟩)
    · exact Or.inr ⟨q2, q3⟩
theorem cbs_e (h : CBS f0 f m r e) (hr : r.toInt = 0) : ∀ x y, blt (f x) y = true ↔ (blt (f0 x) y = true ∨ (blt m x = true ∧ blt e y = true)) := fun x y => (h.2 x y).trans (by rw [blx_0 hr]; exact ⟨fun q => q.imp id (fun q => ⟨q.1.1, q.2⟩), fun q => q.imp id (fun q => ⟨⟨q.1, rfl⟩, q.2⟩)⟩)
/-- what lies behind the places of m -/
def BHI (f : Nat → Int64) (m r acc : Int64) (j : Nat) : Prop := (∀ w, blt r w = true → blt m w = true) ∧ ∀ y, blt acc y = true ↔ ∃ x, (blt m x = true ∧ blt r x = false) ∧ blt (f (x + j)) y = true
theorem bhi_0 {j : Nat} (ha : acc = Int64.ofInt 0) : BHI f m m acc j := ⟨fun _ h => h, fun y => by rw [ha, blx_z]; exact ⟨fun q => by cases q, fun ⟨x, q, _⟩ => by rw [q.2] at q; exact absurd q.1 (by decide)⟩⟩
theorem bhi_s {j i : Nat} (h : BHI f m r acc j) (hl : lowL r k) (hb : blt r k = true) (hi : i = k + j) (hz : acc2 = acc ||| f i) (e1 : r1 = r - Int64.ofInt 1) (e2 : r2 = r &&& r1) : BHI f m r2 acc2 j := by
  refine ⟨fun w hw => h.1 w ((low_c hl e1 e2).mp hw).1, fun y => ?_⟩
  rw [blx_or hz, Bool.or_eq_true, h.2 y]
  constructor
  · rintro (⟨x, q1, q2⟩ | q)
    · exact ⟨x, ⟨q1.1, (low_f hl e1 e2).mpr (Or.inl q1.2)⟩, q2⟩
    · exact ⟨k, ⟨h.1 k hb, (low_f hl e1 e2).mpr (Or.inr rfl)⟩, by rw [← hi]; exact q⟩
  · rintro ⟨x, ⟨q1, q2⟩, q3⟩
    rcases (low_f hl e1 e2).mp q2 with q | q
    · exact Or.inl ⟨x, ⟨q1, q⟩, q3⟩
    · rw [q, ← hi] at q3
      exact Or.inr q3
theorem bhi_e {j : Nat} (h : BHI f m r acc j) (hr : r.toInt = 0) : ∀ y, blt acc y = true ↔ ∃ x, blt m x = true ∧ blt (f (x + j)) y = true := fun y => (h.2 y).trans ⟨fun ⟨x, q1, q2⟩ => ⟨x, q1.1, q2⟩, fun ⟨x, q1, q2⟩ => ⟨x, ⟨q1, blx_0 hr⟩, q2⟩⟩
end CB
/-! building -/
/-- the edges of the sign that comes next -/
def RPJ (T : Nat → Int32) (n i x y : Nat) : Prop := i < n ∧ (((T i).toInt = 42 ∨ (T i).toInt = 43) ∧ x = i ∧ y = (pst T i).2.2.2.2.2 ∨ ((T i).toInt = 42 ∨ (T i).toInt = 63) ∧ x = (pst T i).2.2.2.2.2 ∧ y = i)
def BLD (T : Nat → Int32) (n i : Nat) (d : Int) (o : Nat → Int32) (jf mf bf : Nat → Int64) (st : Int64) : Prop :=
  ((pst T i).1 : Int) = d ∧ (∀ l, 1 ≤ l → l ≤ (pst T i).1 → (o l).toNatClampNeg = (pst T i).2.1 l) ∧ (∀ l, l ≤ (pst T i).1 → ∀ y, blt (bf l) y = true ↔ ∃ a, (pst T i).2.2.2.2.1 l a y) ∧ (∀ x y, blt (jf x) y = true ↔ ((pst T i).2.2.1 x y ∨ RPJ T n i x y)) ∧ (∀ c, c < 26 → ∀ x, blt (mf c) x = true ↔ (x < i ∧ ((T x).toInt = 46 ∨ (T x).toInt = 97 + (c : Int)))) ∧ ∀ y, blt st y = true ↔ (y = 0 ∨ ∃ a b, (pst T i).2.2.2.2.1 0 a b ∧ y = b + 1)
/-- starts of alternatives: 0 and what stands behind a bar -/
theorem swp_all {T : Nat → Int32} : ∀ (k : Nat) {d b : Int}, PTS T k d b → ∀ x, (x = (pst T k).2.2.2.1 0 ∨ ∃ b, (pst T k).2.2.2.2.1 0 x b) ↔ (x = 0 ∨ ∃ a b, (pst T k).2.2.2.2.1 0 a b ∧ x = b + 1)
  | 0, d, b, h, x => ⟨fun q => q.elim Or.inl (fun ⟨_, z⟩ => z.elim), fun q => q.elim Or.inl (fun ⟨_, _, z, _⟩ => z.elim)⟩
  | k + 1, d, b, ⟨d0, b0, h0, hj, h1, h2, h3, h4, h5⟩, x => by
    have ih := swp_all k h0 x
    have es : pst T (k + 1) = pcX (T k).toInt k (pst T k) := rfl
    rw [es]
    rcases hj with ⟨hc, hj⟩ | ⟨hc, hj⟩ | ⟨hc, hj⟩ | ⟨hc, hj⟩ | ⟨hc, hj⟩ | ⟨_, _, _, _, _, hj⟩
    · rw [pcx_s hc]
      exact ih
    · rw [pcx_o hc]
      show (x = (if 0 = (pst T k).1 + 1 then k + 1 else (pst T k).2.2.2.1 0) ∨ ∃ b, 0 ≠ (pst T k).1 + 1 ∧ (pst T k).2.2.2.2.1 0 x b) ↔ (x = 0 ∨ ∃ a b, (0 ≠ (pst T k).1 + 1 ∧ (pst T k).2.2.2.2.1 0 a b) ∧ x = b + 1)
      rw [if_neg (by omega)]
      constructor
      · intro q
        rcases ih.mp (q.imp id (fun ⟨b, z⟩ => ⟨b, z.2⟩)) with w | ⟨a, b, w1, w2⟩
        · exact Or.inl w
        · exact Or.inr ⟨a, b, ⟨by omega, w1⟩, w2⟩
      · intro q
        rcases ih.mpr (q.imp id (fun ⟨a, b, z, w⟩ => ⟨a, b, z.2, w⟩)) with w | ⟨b, w⟩
        · exact Or.inl w
        · exact Or.inr ⟨b, by omega, w⟩
    · rw [pcx_c hc]
      exact ih
    · rw [pcx_b hc]
      show (x = (if 0 = (pst T k).1 then k + 1 else (pst T k).2.2.2.1 0) ∨ ∃ b, (pst T k).2.2.2.2.1 0 x b ∨ (0 = (pst T k).1 ∧ x = (pst T k).2.2.2.1 (pst T k).1 ∧ b = k)) ↔ (x = 0 ∨ ∃ a b, ((pst T k).2.2.2.2.1 0 a b ∨ (0 = (pst T k).1 ∧ a = (pst T k).2.2.2.1 (pst T k).1 ∧ b = k)) ∧ x = b + 1)
      by_cases c : 0 = (pst T k).1
      · rw [if_pos c, ← c]
        constructor
        · rintro (q | ⟨b, q | q⟩)
          · exact Or.inr ⟨_, k, Or.inr ⟨rfl, rfl, rfl⟩, q⟩
          · exact (ih.mp (Or.inr ⟨b, q⟩)).imp id (fun ⟨a, b, w1, w2⟩ => ⟨a, b, Or.inl w1, w2⟩)
          · exact (ih.mp (Or.inl q.2.1)).imp id (fun ⟨a, b, w1, w2⟩ => ⟨a, b, Or.inl w1, w2⟩)
        · rintro (q | ⟨a, b, q | q, w⟩)
          · rcases ih.mpr (Or.inl q) with w | ⟨b, w⟩
            · exact Or.inr ⟨k, Or.inr ⟨rfl, w, rfl⟩⟩
            · exact Or.inr ⟨b, Or.inl w⟩
          · rcases ih.mpr (Or.inr ⟨a, b, q, w⟩) with w | ⟨b, w⟩
            · exact Or.inr ⟨k, Or.inr ⟨rfl, w, rfl⟩⟩
            · exact Or.inr ⟨b, Or.inl w⟩
          · exact Or.inl (by rw [w, q.2.2])
      · rw [if_neg c]
        constructor
        · rintro (q | ⟨b, q | q⟩)
          · exact (ih.mp (Or.inl q)).imp id (fun ⟨a, b, w1, w2⟩ => ⟨a, b, Or.inl w1, w2⟩)
          · exact (ih.mp (Or.inr ⟨b, q⟩)).imp id (fun ⟨a, b, w1, w2⟩ => ⟨a, b, Or.inl w1, w2⟩)
          · exact absurd q.1 c
        · rintro (q | ⟨a, b, q | q, w⟩)
          · exact (ih.mpr (Or.inl q)).imp id (fun ⟨b, w⟩ => ⟨b, Or.inl w⟩)
          · exact (ih.mpr (Or.inr ⟨a, b, q, w⟩)).imp id (fun ⟨b, w⟩ => ⟨b, Or.inl w⟩)
          · exact absurd q.1 c
    · rw [pcx_l hc]
      exact ih
    · omega
/-- what laying a place writes -/
def LPC (c : Int) (i dp : Nat) (o : Nat → Int32) (jf mf bf jf2 mf2 bf2 : Nat → Int64) (st st2 : Int64) : Prop :=
  (∀ x y, blt (jf2 x) y = true ↔ (blt (jf x) y = true ∨ (¬ ptA c ∧ c ≠ 124 ∧ x = i ∧ y = i + 1) ∨ (c = 124 ∧ 1 ≤ dp ∧ x = (o dp).toNatClampNeg ∧ y = i + 1))) ∧ (∀ κ, κ < 26 → ∀ x, blt (mf2 κ) x = true ↔ (blt (mf κ) x = true ∨ ((c = 46 ∨ c = 97 + (κ : Int)) ∧ x = i))) ∧ (∀ l y, blt (bf2 l) y = true ↔ (blt (bf l) y = true ∨ (c = 124 ∧ l = dp ∧ y = i))) ∧ ∀ y, blt st2 y = true ↔ (blt st y = true ∨ (c = 124 ∧ dp = 0 ∧ y = i + 1))
def LRC (c : Int) (bg i : Nat) (jf jf2 : Nat → Int64) : Prop := ∀ x y, blt (jf2 x) y = true ↔ (blt (jf x) y = true ∨ ((c = 42 ∨ c = 43) ∧ x = i ∧ y = bg) ∨ ((c = 42 ∨ c = 63) ∧ x = bg ∧ y = i))
def LRX (T : Nat → Int32) (n i bgn : Nat) (jf jf2 : Nat → Int64) : Prop := (i + 1 < n ∧ LRC (T (i + 1)).toInt bgn (i + 1) jf jf2) ∨ (n ≤ i + 1 ∧ jf2 = jf)
/-- the sign that comes next -/
theorem lrx_r {T : Nat → Int32} {n i bgn : Nat} {jf jf2 : Nat → Int64} {d1 b1 : Int} {P : Nat → Nat → Prop} (hp : PTS T (i + 1) d1 b1) (hj : i + 1 < n → ptJ (T (i + 1)).toInt b1 d1 0) (hb : b1 ≠ 0 → bgn = (pst T (i + 1)).2.2.2.2.2) (h : ∀ x y, blt (jf x) y = true ↔ P x y) (hl : LRX T n i bgn jf jf2) : ∀ x y, blt (jf2 x) y = true ↔ (P x y ∨ RPJ T n (i + 1) x y) := fun x y => by
  rcases hl with ⟨hn, hl⟩ | ⟨hn, hl⟩
  · rw [hl x y, h x y]
    have key : ((T (i + 1)).toInt = 42 ∨ (T (i + 1)).toInt = 43 ∨ (T (i + 1)).toInt = 63) → bgn = (pst T (i + 1)).2.2.2.2.2 := fun hs => hb (by
      rcases hj hn with ⟨hc, q⟩ | ⟨hc, q⟩ | ⟨hc, q⟩ | ⟨hc, q⟩ | ⟨hc, q⟩ | ⟨_, _, _, _, _, q⟩
      · omega
      · omega
      · omega
      · omega
      · unfold ptA at hc
        omega
      · omega)
    constructor
    · rintro (q | ⟨q1, q2, q3⟩ | ⟨q1, q2, q3⟩)
      · exact Or.inl q
      · exact Or.inr ⟨hn, Or.inl ⟨q1, q2, by rw [← key (by omega)]; exact q3⟩⟩
      · exact Or.inr ⟨hn, Or.inr ⟨q1, by rw [← key (by omega)]; exact q2, q3⟩⟩
    · rintro (q | ⟨-, ⟨q1, q2, q3⟩ | ⟨q1, q2, q3⟩⟩)
      · exact Or.inl q
      · exact Or.inr (Or.inl ⟨q1, q2, by rw [key (by omega)]; exact q3⟩)
      · exact Or.inr (Or.inr ⟨q1, by rw [key (by omega)]; exact q2, q3⟩)
  · rw [hl, h x y]
    exact ⟨Or.inl, fun q => q.elim id (fun q => absurd q.1 (by omega))⟩
theorem rpj_n {T : Nat → Int32} {n i x y : Nat} (h : ¬ ((T i).toInt = 42 ∨ (T i).toInt = 43 ∨ (T i).toInt = 63)) : ¬ RPJ T n i x y := fun q => by
  rcases q.2 with q | q
  · have := q.1
    omega
  · have := q.1
    omega
section BL
variable {T : Nat → Int32} {n i bgn : Nat} {d d2 b : Int} {o o2 : Nat → Int32} {jf jf1 jf2 jf3 mf mf2 bf bf1 bf2 : Nat → Int64} {st st2 : Int64}
/-- an opening bracket -/
theorem bld_o (hg : PTS T n 0 b) (hi : i < n) (h : BLD T n i d o jf mf bf st) (hc : (T i).toInt = 40) (e2 : d2 = d + 1) (o1 : (o2 d2.toNat).toNatClampNeg = i) (o3 : ∀ l, l ≠ d2.toNat → o2 l = o l) (q1 : ∀ y, blt (bf1 d2.toNat) y = false) (q3 : ∀ l, l ≠ d2.toNat → bf1 l = bf l) (hp : LPC (T i).toInt i d2.toNat o2 jf mf bf1 jf2 mf2 bf2 st st2) (hl : LRX T n i bgn jf2 jf3) : BLD T n (i + 1) d2 o2 jf3 mf2 bf2 st2 := by
  obtain ⟨d0, b0, p0, j0⟩ := pts_p n hi hg
  have nA : ¬ ptA (T i).toInt := by unfold ptA; omega
  have p1 : PTS T (i + 1) (d0 + 1) 0 := ⟨d0, b0, p0, j0, fun _ => rfl, fun q => by omega, fun q => absurd hc q, fun q => by rcases q with q | q; omega; exact absurd q nA, fun _ => rfl⟩
  have j1 : i + 1 < n → ptJ (T (i + 1)).toInt 0 (d0 + 1) 0 := fun hn => by
    obtain ⟨d3, b3, p3, j3⟩ := pts_p n hn hg
    obtain ⟨e3, e4⟩ := pts_u (i + 1) p3 p1
    rw [e3, e4] at j3
    exact j3
  obtain ⟨h1, h2, h3, h4, h5, h6⟩ := h
  obtain ⟨l1, l2, l3, l4⟩ := hp
  have ed : d2.toNat = (pst T i).1 + 1 := by omega
  have es : pst T (i + 1) = pcO i (pst T i) := (show pst T (i + 1) = pcX (T i).toInt i (pst T i) from rfl).trans (pcx_o hc)
  have nr : ∀ x y, ¬ RPJ T n i x y := fun x y => rpj_n (by omega)
  have J := lrx_r p1 j1 (fun z => absurd rfl z) (P := (pst T (i + 1)).2.2.1) (fun x y => by
    rw [l1 x y, h4 x y, es]
    show _ ↔ ((pst T i).2.2.1 x y ∨ (x = i ∧ y = i + 1))
    constructor
    · rintro ((q | q) | ⟨-, -, q⟩ | ⟨q, -⟩)
      · exact Or.inl q
      · exact absurd q (nr x y)
      · exact Or.inr q
      · omega
    · rintro (q | q)
      · exact Or.inl (Or.inl q)
      · exact Or.inr (Or.inl ⟨nA, by omega, q⟩)) hl
  refine ⟨?_, fun l a1 a2 => ?_, fun l a1 y => ?_, J, fun c hcc x => (l2 c hcc x).trans ?_, fun y => (l4 y).trans ?_⟩
  · rw [es, e2, ← h1]
    show (((pst T i).1 + 1 : Nat) : Int) = _
    omega
  · rw [es] at a2 ⊢
    show (o2 l).toNatClampNeg = (if l = (pst T i).1 + 1 then i else (pst T i).2.1 l)
    by_cases c : l = (pst T i).1 + 1
    · rw [if_pos c, c, ← ed]
      exact o1
    · rw [if_neg c, o3 l (by omega)]
      have a3 : l ≤ (pst T i).1 + 1 := a2
      exact h2 l a1 (by omega)
  · rw [l3 l y, es]
    rw [es] at a1
    have a3 : l ≤ (pst T i).1 + 1 := a1
    show _ ↔ ∃ a, l ≠ (pst T i).1 + 1 ∧ (pst T i).2.2.2.2.1 l a y
    by_cases c : l = (pst T i).1 + 1
    · rw [show blt (bf1 l) y = false by rw [c, ← ed]; exact q1 y]
      exact ⟨fun q => q.elim (fun q => by cases q) (fun q => by omega), fun ⟨a, q, _⟩ => absurd c q⟩
    · rw [q3 l (by omega), h3 l (by omega) y]
      exact ⟨fun q => q.elim (fun ⟨a, q⟩ => ⟨a, c, q⟩) (fun q => by omega), fun ⟨a, _, q⟩ => Or.inl ⟨a, q⟩⟩
  · rw [h5 c hcc x]
    constructor
    · rintro (q | q)
      · exact ⟨by omega, q.2⟩
      · exact ⟨by omega, by rw [q.2]; exact q.1⟩
    · rintro ⟨q1, q2⟩
      by_cases k : x = i
      · exact Or.inr ⟨by rw [← k]; exact q2, k⟩
      · exact Or.inl ⟨by omega, q2⟩
  · rw [h6 y, es]
    show _ ↔ (y = 0 ∨ ∃ a b, (0 ≠ (pst T i).1 + 1 ∧ (pst T i).2.2.2.2.1 0 a b) ∧ y = b + 1)
    exact ⟨fun q => q.elim (fun q => q.imp id (fun ⟨a, b, w, z⟩ => ⟨a, b, ⟨by omega, w⟩, z⟩)) (fun q => by omega), fun q => Or.inl (q.imp id (fun ⟨a, b, w, z⟩ => ⟨a, b, w.2, z⟩))⟩
/-- a closing bracket -/
theorem bld_c (hg : PTS T n 0 b) (hi : i < n) (h : BLD T n i d o jf mf bf st) (hc : (T i).toInt = 41) (hd : 0 < d) (e2 : d2 = d - 1) (hj1 : ∀ x y, blt (jf1 x) y = true ↔ (blt (jf x) y = true ∨ (blt (bf d.toNat) x = true ∧ y = i))) (hp : LPC (T i).toInt i d2.toNat o jf1 mf bf jf2 mf2 bf2 st st2) (hb : bgn = (o d.toNat).toNatClampNeg) (hl : LRX T n i bgn jf2 jf3) : BLD T n (i + 1) d2 o jf3 mf2 bf2 st2 := by
  obtain ⟨d0, b0, p0, j0⟩ := pts_p n hi hg
  have nA : ¬ ptA (T i).toInt := by unfold ptA; omega
  have p1 : PTS T (i + 1) (d0 - 1) 1 := ⟨d0, b0, p0, j0, fun q => by omega, fun _ => rfl, fun _ q => absurd hc q, fun _ => rfl, fun q => absurd (Or.inl hc) q⟩
  have j1 : i + 1 < n → ptJ (T (i + 1)).toInt 1 (d0 - 1) 0 := fun hn => by
    obtain ⟨d3, b3, p3, j3⟩ := pts_p n hn hg
    obtain ⟨e3, e4⟩ := pts_u (i + 1) p3 p1
    rw [e3, e4] at j3
    exact j3
  obtain ⟨h1, h2, h3, h4, h5, h6⟩ := h
  obtain ⟨l1, l2, l3, l4⟩ := hp
  have ed : d.toNat = (pst T i).1 := by omega
  have es : pst T (i + 1) = pcC i (pst T i) := (show pst T (i + 1) = pcX (T i).toInt i (pst T i) from rfl).trans (pcx_c hc)
  have nr : ∀ x y, ¬ RPJ T n i x y := fun x y => rpj_n (by omega)
  have J := lrx_r p1 j1 (bgn := bgn) (fun _ => by
    rw [es, hb, ed]
    exact h2 _ (by omega) (Nat.le_refl _)) (P := (pst T (i + 1)).2.2.1) (fun x y => by
    rw [l1 x y, hj1 x y, h4 x y, es, ed, h3 _ (Nat.le_refl _) x]
    show _ ↔ (EBK (pst T i).2.2.2.2.1 (pst T i).2.2.1 (pst T i).1 i x y ∨ (x = i ∧ y = i + 1))
    constructor
    · rintro (((q | q) | q) | ⟨-, -, q⟩ | ⟨q, -⟩)
      · exact Or.inl (Or.inl q)
      · exact absurd q (nr x y)
      · exact Or.inl (Or.inr q)
      · exact Or.inr q
      · omega
    · rintro ((q | q) | q)
      · exact Or.inl (Or.inl (Or.inl q))
      · exact Or.inl (Or.inr q)
      · exact Or.inr (Or.inl ⟨nA, by omega, q⟩)) hl
  refine ⟨?_, fun l a1 a2 => ?_, fun l a1 y => ?_, J, fun c hcc x => (l2 c hcc x).trans ?_, fun y => (l4 y).trans ?_⟩
  · rw [es, e2, ← h1]
    show (((pst T i).1 - 1 : Nat) : Int) = _
    omega
  · rw [es] at a2 ⊢
    have a3 : l ≤ (pst T i).1 - 1 := a2
    exact h2 l a1 (by omega)
  · rw [l3 l y, es]
    rw [es] at a1
    have a3 : l ≤ (pst T i).1 - 1 := a1
    show _ ↔ ∃ a, (pst T i).2.2.2.2.1 l a y
    rw [h3 l (by omega) y]
    exact ⟨fun q => q.elim id (fun q => by omega), Or.inl⟩
  · rw [h5 c hcc x]
    constructor
    · rintro (q | q)
      · exact ⟨by omega, q.2⟩
      · exact ⟨by omega, by rw [q.2]; exact q.1⟩
    · rintro ⟨q1, q2⟩
      by_cases k : x = i
      · exact Or.inr ⟨by rw [← k]; exact q2, k⟩
      · exact Or.inl ⟨by omega, q2⟩
  · rw [h6 y, es]
    exact ⟨fun q => q.elim id (fun q => by omega), Or.inl⟩
/-- any other character -/
theorem bld_e (hg : PTS T n 0 b) (hi : i < n) (h : BLD T n i d o jf mf bf st) (hc : ¬ ((T i).toInt = 40 ∧ d < 10)) (hc2 : ¬ ((T i).toInt = 41 ∧ 0 < d)) (hp : LPC (T i).toInt i d.toNat o jf mf bf jf2 mf2 bf2 st st2) (hl : LRX T n i i jf2 jf3) : BLD T n (i + 1) d o jf3 mf2 bf2 st2 := by
  obtain ⟨d0, b0, p0, j0⟩ := pts_p n hi hg
  have pa := pin_all i p0
  obtain ⟨h1, h2, h3, h4, h5, h6⟩ := h
  obtain ⟨l1, l2, l3, l4⟩ := hp
  have ed : d.toNat = (pst T i).1 := by omega
  have dd : d0 = d := by
    have := pa.2.1
    omega
  have n40 : (T i).toInt ≠ 40 := fun q => by
    rcases j0 with ⟨k, w⟩ | ⟨k, w⟩ | ⟨k, w⟩ | ⟨k, w⟩ | ⟨k, w⟩ | ⟨_, _, _, _, _, w⟩
    · unfold ptR at k; omega
    · omega
    · omega
    · omega
    · unfold ptA at k; omega
    · omega
  have n41 : (T i).toInt ≠ 41 := fun q => by
    rcases j0 with ⟨k, w⟩ | ⟨k, w⟩ | ⟨k, w⟩ | ⟨k, w⟩ | ⟨k, w⟩ | ⟨_, _, _, _, _, w⟩
    · unfold ptR at k; omega
    · omega
    · omega
    · omega
    · unfold ptA at k; omega
    · omega
  obtain ⟨b1, p1, hb1⟩ : ∃ b1, PTS T (i + 1) d0 b1 ∧ (b1 ≠ 0 → ptA (T i).toInt) := by
    by_cases k : ptA (T i).toInt
    · exact ⟨1, ⟨d0, b0, p0, j0, fun q => absurd q n40, fun q => absurd q n41, fun _ _ => rfl, fun _ => rfl, fun q => absurd (Or.inr k) q⟩, fun _ => k⟩
    · exact ⟨0, ⟨d0, b0, p0, j0, fun q => absurd q n40, fun q => absurd q n41, fun _ _ => rfl, fun q => q.elim (fun q => absurd q n41) (fun q => absurd q k), fun _ => rfl⟩, fun q => absurd rfl q⟩
  have j1 : i + 1 < n → ptJ (T (i + 1)).toInt b1 d0 0 := fun hn => by
    obtain ⟨d3, b3, p3, j3⟩ := pts_p n hn hg
    obtain ⟨e3, e4⟩ := pts_u (i + 1) p3 p1
    rw [e3, e4] at j3
    exact j3
  have ex : pst T (i + 1) = pcX (T i).toInt i (pst T i) := rfl
  have bgl : b1 ≠ 0 → i = (pst T (i + 1)).2.2.2.2.2 := fun q => by
    rw [ex, pcx_l (hb1 q)]
    rfl
  have M : ∀ c, c < 26 → ∀ x, blt (mf2 c) x = true ↔ (x < i + 1 ∧ ((T x).toInt = 46 ∨ (T x).toInt = 97 + (c : Int))) := fun c hcc x => by
    rw [l2 c hcc x, h5 c hcc x]
    constructor
    · rintro (q | q)
      · exact ⟨by omega, q.2⟩
      · exact ⟨by omega, by rw [q.2]; exact q.1⟩
    · rintro ⟨q1, q2⟩
      by_cases k : x = i
      · exact Or.inr ⟨by rw [← k]; exact q2, k⟩
      · exact Or.inl ⟨by omega, q2⟩
  have DD : ((pst T (i + 1)).1 : Int) = d := by
    have := (pin_all (i + 1) p1).2.1
    omega
  by_cases kb : (T i).toInt = 124
  · have nA : ¬ ptA (T i).toInt := by unfold ptA; omega
    have es : pst T (i + 1) = pcB i (pst T i) := ex.trans (pcx_b kb)
    have J := lrx_r p1 j1 bgl (P := (pst T (i + 1)).2.2.1) (fun x y => by
      rw [l1 x y, h4 x y, es]
      show _ ↔ ((pst T i).2.2.1 x y ∨ (1 ≤ (pst T i).1 ∧ x = (pst T i).2.1 (pst T i).1 ∧ y = i + 1))
      constructor
      · rintro ((q | q) | ⟨-, q, -⟩ | ⟨-, q1, q2, q3⟩)
        · exact Or.inl q
        · exact absurd q (rpj_n (by omega))
        · exact absurd kb q
        · exact Or.inr ⟨by omega, by rw [q2, ed]; exact h2 _ (by omega) (Nat.le_refl _), q3⟩
      · rintro (q | ⟨q1, q2, q3⟩)
        · exact Or.inl (Or.inl q)
        · exact Or.inr (Or.inr ⟨kb, by omega, by rw [q2, ed]; exact (h2 _ q1 (Nat.le_refl _)).symm, q3⟩)) hl
    refine ⟨DD, fun l a1 a2 => ?_, fun l a1 y => ?_, J, M, fun y => (l4 y).trans ?_⟩
    · rw [es] at a2 ⊢
      exact h2 l a1 a2
    · rw [l3 l y, es]
      rw [es] at a1
      show _ ↔ ∃ a, (pst T i).2.2.2.2.1 l a y ∨ (l = (pst T i).1 ∧ a = (pst T i).2.2.2.1 (pst T i).1 ∧ y = i)
      rw [h3 l a1 y, ed]
      constructor
      · rintro (⟨a, q⟩ | ⟨-, q1, q2⟩)
        · exact ⟨a, Or.inl q⟩
        · exact ⟨_, Or.inr ⟨q1, rfl, q2⟩⟩
      · rintro ⟨a, q | ⟨q1, q2, q3⟩⟩
        · exact Or.inl ⟨a, q⟩
        · exact Or.inr ⟨kb, q1, q3⟩
    · rw [h6 y, es]
      show _ ↔ (y = 0 ∨ ∃ a b, ((pst T i).2.2.2.2.1 0 a b ∨ (0 = (pst T i).1 ∧ a = (pst T i).2.2.2.1 (pst T i).1 ∧ b = i)) ∧ y = b + 1)
      constructor
      · rintro (q | ⟨-, q1, q2⟩)
        · exact q.imp id (fun ⟨a, b, w, z⟩ => ⟨a, b, Or.inl w, z⟩)
        · exact Or.inr ⟨_, i, Or.inr ⟨by omega, rfl, rfl⟩, q2⟩
      · rintro (q | ⟨a, b, w | w, z⟩)
        · exact Or.inl (Or.inl q)
        · exact Or.inl (Or.inr ⟨a, b, w, z⟩)
        · exact Or.inr ⟨kb, by omega, by rw [z, w.2.2]⟩
  · have BF : ∀ l, l ≤ (pst T i).1 → ∀ y, blt (bf2 l) y = true ↔ ∃ a, (pst T i).2.2.2.2.1 l a y := fun l a1 y => by
      rw [l3 l y, h3 l a1 y]
      exact ⟨fun q => q.elim id (fun q => absurd q.1 kb), Or.inl⟩
    have SF : ∀ y, blt st2 y = true ↔ (y = 0 ∨ ∃ a b, (pst T i).2.2.2.2.1 0 a b ∧ y = b + 1) := fun y => by
      rw [l4 y, h6 y]
      exact ⟨fun q => q.elim id (fun q => absurd q.1 kb), Or.inl⟩
    by_cases ks : (T i).toInt = 42 ∨ (T i).toInt = 43 ∨ (T i).toInt = 63
    · have nA : ¬ ptA (T i).toInt := by unfold ptA; omega
      have es : pst T (i + 1) = pcS (T i).toInt i (pst T i) := ex.trans (pcx_s ks)
      have J := lrx_r p1 j1 bgl (P := (pst T (i + 1)).2.2.1) (fun x y => by
        rw [l1 x y, h4 x y, es]
        show _ ↔ ESG (pst T i).2.2.1 i (pst T i).2.2.2.2.2 ((T i).toInt ≠ 63) ((T i).toInt ≠ 43) x y
        constructor
        · rintro ((q | ⟨-, ⟨q1, q2, q3⟩ | ⟨q1, q2, q3⟩⟩) | ⟨-, -, q⟩ | ⟨q, -⟩)
          · exact Or.inl q
          · exact Or.inr (Or.inr (Or.inl ⟨by omega, q2, q3⟩))
          · exact Or.inr (Or.inr (Or.inr ⟨by omega, q2, q3⟩))
          · exact Or.inr (Or.inl q)
          · exact absurd q kb
        · rintro (q | q | ⟨q1, q2, q3⟩ | ⟨q1, q2, q3⟩)
          · exact Or.inl (Or.inl q)
          · exact Or.inr (Or.inl ⟨nA, kb, q⟩)
          · exact Or.inl (Or.inr ⟨hi, Or.inl ⟨by omega, q2, q3⟩⟩)
          · exact Or.inl (Or.inr ⟨hi, Or.inr ⟨by omega, q2, q3⟩⟩)) hl
      refine ⟨DD, ?_, ?_, J, M, ?_⟩
      · rw [es]
        exact h2
      · rw [es]
        exact BF
      · rw [es]
        exact SF
    · have kA : ptA (T i).toInt := by
        rcases j0 with ⟨k, w⟩ | ⟨k, w⟩ | ⟨k, w⟩ | ⟨k, w⟩ | ⟨k, w⟩ | ⟨_, _, _, _, _, w⟩
        · exact absurd k ks
        · exact absurd k n40
        · exact absurd k n41
        · exact absurd k kb
        · exact k
        · omega
      have es : pst T (i + 1) = pcL i (pst T i) := ex.trans (pcx_l kA)
      have J := lrx_r p1 j1 bgl (P := (pst T (i + 1)).2.2.1) (fun x y => by
        rw [l1 x y, h4 x y, es]
        show _ ↔ (pst T i).2.2.1 x y
        constructor
        · rintro ((q | q) | ⟨q, -⟩ | ⟨q, -⟩)
          · exact q
          · exact absurd q (rpj_n ks)
          · exact absurd kA q
          · exact absurd q kb
        · exact fun q => Or.inl (Or.inl q)) hl
      refine ⟨DD, ?_, ?_, J, M, ?_⟩
      · rw [es]
        exact h2
      · rw [es]
        exact BF
      · rw [es]
        exact SF
end BL
/-! LAYING AND CLOSING -/
theorem sLx_o {s : GS} {p q j : Nat} {v : Int64} (h : Nat.beq p q = false) : (sL s q j v).2.1 p = s.2.1 p := by
  show (if p = q then vp_updL (s.2.1 q) j v else s.2.1 p) = s.2.1 p
  rw [if_neg (Nat.ne_of_beq_eq_false h)]
theorem blx_1 {z : Int64} {u : Int32} {i : Nat} (e : z = Int64.ofInt 1 <<< (u.toInt64 &&& 63)) (hu : In u 0 63) (hi : u.toNatClampNeg = i) : ∀ y, blt z y = true ↔ y = i := fun y => by
  rw [blx_one e hu, decide_eq_true_iff, hi]
section LP
variable {c : Int} {i dp k : Nat} {o : Nat → Int32} {jf mf bf mf2 : Nat → Int64} {st st2 z z2 e e2 : Int64}
theorem lpc_o (hA : ¬ ptA c) (hb : c ≠ 124) (hz : z = jf i ||| e) (he : ∀ y, blt e y = true ↔ y = i + 1) : LPC c i dp o jf mf bf (vp_updL jf i z) mf bf st st := by
  refine ⟨fun x y => (lbu hz).trans ?_, fun κ _ x => ⟨Or.inl, fun q => q.elim id (fun q => ?_)⟩, fun l y => ⟨Or.inl, fun q => q.elim id (fun q => absurd q.1 hb)⟩, fun y => ⟨Or.inl, fun q => q.elim id (fun q => absurd q.1 hb)⟩⟩
  · rw [he y]
    exact ⟨fun q => q.imp id (fun q => Or.inl ⟨hA, hb, q⟩), fun q => q.imp id (fun q => q.elim (fun q => q.2.2) (fun q => absurd q.1 hb))⟩
  · exact absurd (by unfold ptA; omega) hA
theorem lpc_l (hc : c = 97 + (k : Int)) (hk : k < 26) (hz : z = mf k ||| e) (he : ∀ y, blt e y = true ↔ y = i) : LPC c i dp o jf mf bf jf (vp_updL mf k z) bf st st := by
  have hA : ptA c := by unfold ptA; omega
  have hb : c ≠ 124 := by omega
  refine ⟨fun x y => ⟨Or.inl, fun q => q.elim id (fun q => q.elim (fun q => absurd hA q.1) (fun q => absurd q.1 hb))⟩, fun κ _ x => (lbu hz).trans ?_, fun l y => ⟨Or.inl, fun q => q.elim id (fun q => absurd q.1 hb)⟩, fun y => ⟨Or.inl, fun q => q.elim id (fun q => absurd q.1 hb)⟩⟩
  rw [he x]
  exact ⟨fun q => q.imp id (fun q => ⟨by omega, q.2⟩), fun q => q.imp id (fun q => ⟨by omega, q.2⟩)⟩
theorem lpc_d (hc : c = 46) (h : ∀ κ, κ < 26 → ∀ x, blt (mf2 κ) x = true ↔ (blt (mf κ) x = true ∨ x = i)) : LPC c i dp o jf mf bf jf mf2 bf st st := by
  have hA : ptA c := by unfold ptA; omega
  have hb : c ≠ 124 := by omega
  refine ⟨fun x y => ⟨Or.inl, fun q => q.elim id (fun q => q.elim (fun q => absurd hA q.1) (fun q => absurd q.1 hb))⟩, fun κ hk x => (h κ hk x).trans ⟨fun q => q.imp id (fun q => ⟨Or.inl hc, q⟩), fun q => q.imp id (fun q => q.2)⟩, fun l y => ⟨Or.inl, fun q => q.elim id (fun q => absurd q.1 hb)⟩, fun y => ⟨Or.inl, fun q => q.elim id (fun q => absurd q.1 hb)⟩⟩
theorem lpc_b (hc : c = 124) (hd : dp = 0) (hz : z = bf dp ||| e) (he : ∀ y, blt e y = true ↔ y = i) (hz2 : z2 = st ||| e2) (he2 : ∀ y, blt e2 y = true ↔ y = i + 1) : LPC c i dp o jf mf bf jf mf (vp_updL bf dp z) st z2 := by
  refine ⟨fun x y => ⟨Or.inl, fun q => q.elim id (fun q => q.elim (fun q => absurd hc q.2.1) (fun q => by omega))⟩, fun κ _ x => ⟨Or.inl, fun q => q.elim id (fun q => by omega)⟩, fun l y => (lbu hz).trans ?_, fun y => ?_⟩
  · rw [he y]
    exact ⟨fun q => q.imp id (fun q => ⟨hc, q⟩), fun q => q.imp id (fun q => q.2)⟩
  · rw [blx_or hz2, Bool.or_eq_true, he2 y]
    exact ⟨fun q => q.imp id (fun q => ⟨hc, hd, q⟩), fun q => q.imp id (fun q => q.2.2)⟩
theorem lpc_c (hc : c = 124) (hd : dp ≠ 0) (hz : z = bf dp ||| e) (he : ∀ y, blt e y = true ↔ y = i) (hz2 : z2 = jf (o dp).toNatClampNeg ||| e2) (he2 : ∀ y, blt e2 y = true ↔ y = i + 1) : LPC c i dp o jf mf bf (vp_updL jf (o dp).toNatClampNeg z2) mf (vp_updL bf dp z) st st := by
  refine ⟨fun x y => (lbu hz2).trans ?_, fun κ _ x => ⟨Or.inl, fun q => q.elim id (fun q => by omega)⟩, fun l y => (lbu hz).trans ?_, fun y => ⟨Or.inl, fun q => q.elim id (fun q => absurd q.2.1 hd)⟩⟩
  · rw [he2 y]
    exact ⟨fun q => q.imp id (fun q => Or.inr ⟨hc, by omega, q⟩), fun q => q.imp id (fun q => q.elim (fun q => absurd hc q.2.1) (fun q => q.2.2))⟩
  · rw [he y]
    exact ⟨fun q => q.imp id (fun q => ⟨hc, q⟩), fun q => q.imp id (fun q => q.2)⟩
end LP
/-! closing -/
section WR
variable {n m i j : Nat} {f f0 g : Nat → Int64} {z e : Int64}
/-- edges between the places up to n -/
def EQJ (f : Nat → Int64) (n x y : Nat) : Prop := x ≤ n ∧ blt (f x) y = true
/-- ways are found, as far as they go by places below m -/
def WRS (f0 f : Nat → Int64) (n m : Nat) : Prop := (∀ x y, x ≤ n → blt (f x) y = true → wlq (EQJ f0 n) x y) ∧ (∀ x y, x ≤ n → blt (f0 x) y = true → blt (f x) y = true) ∧ (∀ x, x ≤ n → blt (f x) x = true) ∧ ∀ v, v < m → ∀ x w, x ≤ n → v ≤ n → blt (f x) v = true → blt (f v) w = true → blt (f x) w = true
/-- each place leads to itself -/
def WR0 (f0 f : Nat → Int64) (i : Nat) : Prop := ∀ x y, blt (f x) y = true ↔ (blt (f0 x) y = true ∨ (x < i ∧ y = x))
theorem wr0_s (h : WR0 f0 f i) (hz : z = f i ||| e) (he : ∀ y, blt e y = true ↔ y = i) : WR0 f0 (vp_updL f i z) (i + 1) := fun x y => by
  rw [lbu hz, h x y, he y]
  constructor
  · rintro ((q | q) | q)
    · exact Or.inl q
    · exact Or.inr ⟨by omega, q.2⟩
    · exact Or.inr ⟨by omega, by omega⟩
  · rintro (q | q)
    · exact Or.inl (Or.inl q)
    · by_cases c : x = i
      · exact Or.inr ⟨c, by omega⟩
      · exact Or.inl (Or.inr ⟨by omega, q.2⟩)
theorem wrs_0 (h : WR0 f0 f i) (hi : n + 1 ≤ i) : WRS f0 f n 0 := by
  refine ⟨fun x y hx q => ?_, fun x y hx q => (h x y).mpr (Or.inl q), fun x hx => (h x x).mpr (Or.inr ⟨by omega, rfl⟩), fun v hv => absurd hv (Nat.not_lt_zero _)⟩
  rcases (h x y).mp q with q | q
  · exact wl_1 ⟨hx, q⟩
  · rw [q.2]
    exact wl_0
/-- in the sweep over k: the rows below i have been gone through -/
def WRK (f g : Nat → Int64) (k i : Nat) : Prop := ∀ x y, blt (g x) y = true ↔ (blt (f x) y = true ∨ (x < i ∧ blt (f x) k = true ∧ blt (f k) y = true))
theorem wrk_0 : WRK f f j 0 := fun x y => ⟨Or.inl, fun q => q.elim id (fun q => absurd q.1 (Nat.not_lt_zero _))⟩
theorem wrk_k (h : WRK f g j i) : ∀ y, blt (g j) y = true ↔ blt (f j) y = true := fun y => (h j y).trans ⟨fun q => q.elim id (fun q => q.2.2), Or.inl⟩
theorem wrk_f (h : WRK f g j i) : blt (g i) j = true ↔ blt (f i) j = true := (h i j).trans ⟨fun q => q.elim id (fun q => q.2.1), Or.inl⟩
theorem wrk_y (h : WRK f g j i) (hb : blt (g i) j = true) (hz : z = g i ||| g j) : WRK f (vp_updL g i z) j (i + 1) := fun x y => by
  rw [lbu hz, h x y, wrk_k h y]
  have hb2 := (wrk_f h).mp hb
  constructor
  · rintro ((q | q) | q)
    · exact Or.inl q
    · exact Or.inr ⟨by omega, q.2⟩
    · exact Or.inr ⟨by omega, by rw [q.1]; exact hb2, q.2⟩
  · rintro (q | q)
    · exact Or.inl (Or.inl q)
    · by_cases c : x = i
      · exact Or.inr ⟨c, q.2.2⟩
      · exact Or.inl (Or.inr ⟨by omega, q.2⟩)
theorem wrk_n (h : WRK f g j i) (hb : ¬ blt (g i) j = true) : WRK f g j (i + 1) := fun x y => by
  rw [h x y]
  constructor
  · rintro (q | q)
    · exact Or.inl q
    · exact Or.inr ⟨by omega, q.2⟩
  · rintro (q | q)
    · exact Or.inl q
    · by_cases c : x = i
      · exact absurd ((wrk_f h).mpr (by rw [← c]; exact q.2.1)) hb
      · exact Or.inr ⟨by omega, q.2⟩
theorem wrs_s (h : WRS f0 f n j) (hk : WRK f g j i) (hi : n + 1 ≤ i) (hj : j ≤ n) : WRS f0 g n (j + 1) := by
  obtain ⟨h1, h2, h3, h4⟩ := h
  refine ⟨fun x y hx q => ?_, fun x y hx q => (hk x y).mpr (Or.inl (h2 x y hx q)), fun x hx => (hk x x).mpr (Or.inl (h3 x hx)), fun v hv x w hx hvn a b => ?_⟩
  · rcases (hk x y).mp q with q | q
    · exact h1 x y hx q
    · exact wl_tr (h1 x j hx q.2.1) (h1 j y hj q.2.2)
  · have mk : blt (f x) j = true → blt (f j) w = true → blt (g x) w = true := fun a b => (hk x w).mpr (Or.inr ⟨by omega, a, b⟩)
    by_cases c : v = j
    · rw [c] at a b
      have a2 : blt (f x) j = true := (hk x j).mp a |>.elim id (fun q => q.2.1)
      exact mk a2 ((wrk_k hk w).mp b)
    · have vj : v < j := by omega
      rcases (hk x v).mp a with a | a
      · rcases (hk v w).mp b with b | b
        · exact (hk x w).mpr (Or.inl (h4 v vj x w hx hvn a b))
        · exact mk (h4 v vj x j hx hvn a b.2.1) b.2.2
      · rcases (hk v w).mp b with b | b
        · exact mk a.2.1 (h4 v vj j w hj hvn a.2.2 b)
        · exact mk a.2.1 b.2.2
theorem wrs_e (h : WRS f0 f n m) (hm : n + 1 ≤ m) (hb : ∀ x y, x ≤ n → blt (f0 x) y = true → y ≤ n) : ∀ x, x ≤ n → ∀ y, blt (f x) y = true ↔ wlq (EQJ f0 n) x y := fun x hx y => by
  obtain ⟨h1, h2, h3, h4⟩ := h
  refine ⟨h1 x y hx, fun q => ?_⟩
  have r := wl_in (E := EQJ f0 n) (P := fun y => y ≤ n ∧ blt (f x) y = true) (fun a b e hq => ⟨hb a b e.1 e.2, h4 a (by have := e.1; omega) x b hx e.1 hq.2 (h2 a b e.1 e.2)⟩) q ⟨hx, h3 x hx⟩
  exact r.2
end WR
/-- what closing leaves -/
def CLJ (n : Nat) (f0 f mf : Nat → Int64) (ac st st2 : Int64) : Prop := (∀ x, x ≤ n → ∀ y, blt (f x) y = true ↔ (wlq (EQJ f0 n) x y ∧ (blt ac y = true ∨ ∃ c, c < 26 ∧ blt (mf c) y = true))) ∧ ∀ y, blt st2 y = true ↔ ∃ x, blt st x = true ∧ blt (f x) y = true
/-- the pattern stands -/
theorem pca_of {T : Nat → Int32} {n : Nat} {b : Int} {o : Nat → Int32} {jf mf bf jf1 jf2 : Nat → Int64} {st st2 ac : Int64} (hg : PTS T n 0 b) (h : BLD T n n 0 o jf mf bf st) (ha : ∀ y, blt ac y = true ↔ y = n) (h1 : ∀ x y, blt (jf1 x) y = true ↔ (blt (jf x) y = true ∨ (blt (bf 0) x = true ∧ blt ac y = true))) (h2 : CLJ n jf1 jf2 mf ac st st2) : PCA T n (fun x y => blt (jf2 x) y) (fun c x => blt (mf c) x) (fun y => blt st2 y) (fun y => blt ac y) := by
  obtain ⟨b1, b2, b3, b4, b5, b6⟩ := h
  obtain ⟨i1, i2, -⟩ := pin_all n hg
  have d0 : (pst T n).1 = 0 := by omega
  have g1 := i1.1.1
  have bars : ∀ a x, (pst T n).2.2.2.2.1 0 a x → x < n := fun a x hA => by
    have c := geo_a i1.1 (show 0 ≤ (pst T n).1 by omega) hA
    have c2 := i1.1.2.2.2.1
    omega
  have ed : ∀ x y, blt (jf1 x) y = true ↔ EWQ T n x y := fun x y => by
    rw [h1 x y, b4 x y, b3 0 (by omega) x, ha y]
    show _ ↔ ((pst T n).2.2.1 x y ∨ ((∃ a, (pst T n).2.2.2.2.1 0 a x) ∧ y = n))
    exact ⟨fun q => q.elim (fun q => q.elim Or.inl (fun q => absurd q.1 (Nat.lt_irrefl _))) Or.inr, fun q => q.elim (fun q => Or.inl (Or.inl q)) Or.inr⟩
  have bd : ∀ x y, EWQ T n x y → x < n ∧ y ≤ n := fun x y q => by
    rcases q with q | ⟨⟨a, q⟩, e⟩
    · exact g1 x y q
    · exact ⟨bars a x q, by omega⟩
  have wl : ∀ x y, wlq (EQJ jf1 n) x y ↔ wlq (EWQ T n) x y := fun x y => wl_iff (fun u w => ⟨fun q => (ed u w).mp q.2, fun q => ⟨by have := (bd u w q).1; omega, (ed u w).mpr q⟩⟩)
  have en : ∀ y, (blt ac y = true ∨ ∃ c, c < 26 ∧ blt (mf c) y = true) ↔ (y = n ∨ LET T n y) := fun y => by
    rw [ha y]
    constructor
    · rintro (q | ⟨c, hc, q⟩)
      · exact Or.inl q
      · have w := (b5 c hc y).mp q
        exact Or.inr ⟨w.1, by unfold ptA; omega⟩
    · rintro (q | ⟨q1, q2⟩)
      · exact Or.inl q
      · unfold ptA at q2
        by_cases k : (T y).toInt = 46
        · exact Or.inr ⟨0, by omega, (b5 0 (by omega) y).mpr ⟨q1, Or.inl k⟩⟩
        · exact Or.inr ⟨((T y).toInt - 97).toNat, by omega, (b5 _ (by omega) y).mpr ⟨q1, Or.inr (by omega)⟩⟩
  have J : ∀ x, x ≤ n → ∀ y, blt (jf2 x) y = true ↔ (wlq (EWQ T n) x y ∧ (y = n ∨ LET T n y)) := fun x hx y => by rw [h2.1 x hx y, wl x y, en y]
  have sn : ∀ x, (x = 0 ∨ ∃ a b, (pst T n).2.2.2.2.1 0 a b ∧ x = b + 1) ↔ SWP T n x := fun x => by
    rw [← swp_all n hg x]
    exact ⟨fun q => q.elim (fun q => ⟨n, Or.inr ⟨q, rfl⟩⟩) (fun ⟨b, q⟩ => ⟨b, Or.inl q⟩), fun ⟨b, q⟩ => q.elim (fun q => Or.inr ⟨b, q⟩) (fun q => Or.inl q.1)⟩
  refine ⟨fun x hx y => J (x + 1) (by have := hx.1; omega) y, fun y => (h2.2 y).trans ?_, b5, ha⟩
  constructor
  · rintro ⟨x, q1, q2⟩
    have s1 := (sn x).mp ((b6 x).mp q1)
    have xn : x ≤ n := by
      obtain ⟨b, hb⟩ := s1
      rcases hb with hb | hb
      · have := bars x b hb
        have := geo_a i1.1 (show 0 ≤ (pst T n).1 by omega) hb
        omega
      · have := geo_q i1.1 (show 0 ≤ (pst T n).1 by omega)
        have := i1.1.2.2.2.1
        omega
    have w := (J x xn y).mp q2
    exact ⟨⟨x, s1, w.1⟩, w.2⟩
  · rintro ⟨⟨x, s1, w⟩, q⟩
    have xn : x ≤ n := by
      obtain ⟨b, hb⟩ := s1
      rcases hb with hb | hb
      · have := bars x b hb
        have := geo_a i1.1 (show 0 ≤ (pst T n).1 by omega) hb
        omega
      · have := geo_q i1.1 (show 0 ≤ (pst T n).1 by omega)
        have := i1.1.2.2.2.1
        omega
    exact ⟨x, (b6 x).mpr ((sn x).mpr s1), (J x xn y).mpr ⟨w, q⟩⟩
/-! FUNCTIONAL CONTRACTS, by fgen.py -/
theorem oc_192 : (Int32.ofInt (-1)).toInt = (-1) ∧ (Int32.ofInt 0).toInt = 0 ∧ (Int32.ofInt 1).toInt = 1 ∧ (Int64.ofInt 0).toInt = 0 ∧ (Int64.ofInt 1).toInt = 1 ∧ (Int64.ofInt 1000000007).toInt = 1000000007 := ⟨rfl, rfl, rfl, rfl, rfl, rfl⟩
set_option maxHeartbeats 4000000 in
/-- GraphHouse$Trees.power -/
theorem f_192 {Z : AmZ} {A : Nat → Nat} {s : GS} {ex : va_W} {d : Nat} {X : AmX} {x0 : Int64} {x1 : Int64} (hd : 1 ≤ d) (hI : Inv s) (q_0 : (0 ≤ (x0).toInt ∧ (x0).toInt < 1000000007)) (q_1 : (0 ≤ (x1).toInt)) : GC Z d 192 [.long x0, .long x1] (WW Z A s ++ ex) 0 0 (fun v u => ∃ z : Int64, v = some (.long z) ∧ u = WW Z A s ++ ex ∧ ((0 ≤ (z).toInt ∧ (z).toInt < 1000000007) ∧ MC (z).toInt (pwr (x0).toInt (x1).toInt.toNat))) X := by
  intro post xp hP hX
  have ct9 : ∀ (k9 : Nat) (y9_4 : Int64) (y9_6 : Int64) (y9_8 : Int64), (PWX (x0).toInt (x1).toInt (y9_4).toInt (y9_6).toInt (y9_8).toInt) → ((y9_8.toInt.toNat : Nat) : Int) < (k9 : Int) → GG Z (d - 1) 192 post (gx xp) (1 + k9 * 900) 9 (fun j => xlook j [(0, .long x0), (2, .long x1), (4, .long y9_4), (6, .long y9_6), (8, .long y9_8)]) [] (WW Z A s ++ ex) 0 0 := by
    intro k9
    induction k9 with
    | zero => intro y9_4 y9_6 y9_8 g9_0 mm9; exact absurd mm9 (Int.not_lt.mpr (Int.natCast_nonneg _))
    | succ k9 ih9 =>
      intro y9_4 y9_6 y9_8 g9_0 mm9
      refine gg_w (M := 1 + k9 * 900 + 900) (by omega) ?_
      refine g_lload 11 (gd rfl) rfl rfl ?_
      refine g_lconst 0 12 (gd rfl) rfl rfl ?_
      refine g_lcmp 13 (gd rfl) rfl (fun z12 e12 => ?_)
      have i12 := lc_in e12
      refine g_if_le 16 56 (gd rfl) rfl rfl (fun c13 => ?_) (fun c13 => ?_)
      · skip
        have i13 := z_le (-1) 0 c13 i12 rfl
        have c13a := lc_le e12 c13
        have i13a := lr_le1 (-9223372036854775808) 0 c13a (l_rng y9_8) (l_c 0 rfl) rfl
        refine g_lload 58 (gd rfl) rfl rfl ?_
        have n58 : (0 ≤ (y9_4).toInt ∧ (y9_4).toInt < 1000000007) ∧ MC (y9_4).toInt (pwr (x0).toInt (x1).toInt.toNat) := by exact pwi_e g9_0 (by have oc := oc_192; omega)
        exact g_lreturn (gd rfl) rfl (hP _ _ ⟨y9_4, rfl, rfl, n58⟩)
      · skip
        have i13 := z_gt 1 1 c13 i12 rfl
        have c13a := lc_gt e12 c13
        have i13a := lr_lt2 1 9223372036854775807 c13a (l_c 0 rfl) (l_rng y9_8) rfl
        refine g_lload 18 (gd rfl) rfl rfl ?_
        refine g_lconst 1 19 (gd rfl) rfl rfl ?_
        refine g_land 20 (gd rfl) rfl (fun z19 e19 => ?_)
        have i19 := inl_and2 e19 (l_c 1 rfl) rfl
        refine g_lconst 0 21 (gd rfl) rfl rfl ?_
        refine g_lcmp 22 (gd rfl) rfl (fun z21 e21 => ?_)
        have i21 := lc_in e21
        refine g_if_eq 25 36 (gd rfl) rfl rfl (fun c22 => ?_) (fun c22 => ?_)
        · skip
          have i22 := z_eq 0 0 c22 i21 rfl
          have c22a := lc_eq e21 c22
          have i22a := lr_eq1 0 0 c22a i19 (l_c 0 rfl) rfl
          refine g_lload 38 (gd rfl) rfl rfl ?_
          refine g_lload 40 (gd rfl) rfl rfl ?_
          refine g_lmul 41 (gd rfl) rfl (fun z40 e40 => ?_)
          refine g_ldc2_w 1000000007 44 (gd rfl) rfl rfl ?_
          refine g_lrem 45 (gd rfl) rfl (by decide) (fun z44 e44 => ?_)
          have i44 := l_rem (-1000000006) 1000000006 e44 rfl
          refine g_lstore 47 (gd rfl) rfl (Nat.le_of_ble_eq_true rfl) ?_
          refine g_lload 49 (gd rfl) rfl rfl ?_
          refine g_iconst 1 50 (gd rfl) rfl rfl ?_
          refine g_lshr 51 (gd rfl) rfl (fun z50 e50 => ?_)
          refine g_lstore 53 (gd rfl) rfl (Nat.le_of_ble_eq_true rfl) ?_
          refine g_goto 9 (gd rfl) rfl ?_
          have n9 : PWX (x0).toInt (x1).toInt (y9_4).toInt (z44).toInt (z50).toInt := by have kp : (Int64.ofInt 1000000007).toInt = 1000000007 := rfl; obtain ⟨b1, b2, b3, b4⟩ := g9_0; have m2 := mul_b ⟨b2.1, by omega⟩ ⟨b2.1, by omega⟩; have tq := lmul_t e40 (by omega) (by omega); have tp := lrem_v e44 (by omega) (by omega); rw [tq] at tp; have k2 : (z50).toInt = (y9_8).toInt / 2 := lsr_1 e50; have o1 := lan_2 e19; exact pwi_b ⟨b1, b2, b3, b4⟩ (by have oc := oc_192; omega) (by have oc := oc_192; omega) tp k2
          exact gg_w (by omega) (gg_f (gf_cons rfl (gf_cons rfl (gf_cons rfl (gf_cons rfl (gf_cons rfl gf_nil))))) (ih9  y9_4 z44 z50  n9 (mh2 e50 i13a rfl mm9)))
        · skip
          have c22a := lc_ne e21 c22
          have i22 := lr_ne1 1 1 c22a i19 (l_c 0 rfl) rfl
          refine g_lload 27 (gd rfl) rfl rfl ?_
          refine g_lload 29 (gd rfl) rfl rfl ?_
          refine g_lmul 30 (gd rfl) rfl (fun z29 e29 => ?_)
          refine g_ldc2_w 1000000007 33 (gd rfl) rfl rfl ?_
          refine g_lrem 34 (gd rfl) rfl (by decide) (fun z33 e33 => ?_)
          have i33 := l_rem (-1000000006) 1000000006 e33 rfl
          refine g_lstore 36 (gd rfl) rfl (Nat.le_of_ble_eq_true rfl) ?_
          refine g_lload 38 (gd rfl) rfl rfl ?_
          refine g_lload 40 (gd rfl) rfl rfl ?_
          refine g_lmul 41 (gd rfl) rfl (fun z40 e40 => ?_)
          refine g_ldc2_w 1000000007 44 (gd rfl) rfl rfl ?_
          refine g_lrem 45 (gd rfl) rfl (by decide) (fun z44 e44 => ?_)
          have i44 := l_rem (-1000000006) 1000000006 e44 rfl
          refine g_lstore 47 (gd rfl) rfl (Nat.le_of_ble_eq_true rfl) ?_
          refine g_lload 49 (gd rfl) rfl rfl ?_
          refine g_iconst 1 50 (gd rfl) rfl rfl ?_
          refine g_lshr 51 (gd rfl) rfl (fun z50 e50 => ?_)
          refine g_lstore 53 (gd rfl) rfl (Nat.le_of_ble_eq_true rfl) ?_
          refine g_goto 9 (gd rfl) rfl ?_
          have n9 : PWX (x0).toInt (x1).toInt (z33).toInt (z44).toInt (z50).toInt := by have kp : (Int64.ofInt 1000000007).toInt = 1000000007 := rfl; obtain ⟨b1, b2, b3, b4⟩ := g9_0; have m2 := mul_b ⟨b2.1, by omega⟩ ⟨b2.1, by omega⟩; have tq := lmul_t e40 (by omega) (by omega); have tp := lrem_v e44 (by omega) (by omega); rw [tq] at tp; have k2 : (z50).toInt = (y9_8).toInt / 2 := lsr_1 e50; have o1 := lan_2 e19; have m1 := mul_b ⟨b1.1, by omega⟩ ⟨b2.1, by omega⟩; have tm := lmul_t e29 (by omega) (by omega); have tr := lrem_v e33 (by omega) (by omega); rw [tm] at tr; exact pwi_a ⟨b1, b2, b3, b4⟩ (by have oc := oc_192; omega) (by have oc := oc_192; omega) tr tp k2
          exact gg_w (by omega) (gg_f (gf_cons rfl (gf_cons rfl (gf_cons rfl (gf_cons rfl (gf_cons rfl gf_nil))))) (ih9  z33 z44 z50  n9 (mh2 e50 i13a rfl mm9)))
  refine g_enter2 (k := 192) (N := 16602069666338596455301) (by omega) rfl (Nat.le_of_ble_eq_true rfl) ?_
  refine g_lconst 1 1 (gd rfl) rfl rfl ?_
  refine g_lstore 3 (gd rfl) rfl (Nat.le_of_ble_eq_true rfl) ?_
  refine g_lload_n 4 (gd rfl) rfl rfl ?_
  refine g_lstore 6 (gd rfl) rfl (Nat.le_of_ble_eq_true rfl) ?_
  refine g_lload_n 7 (gd rfl) rfl rfl ?_
  refine g_lstore 9 (gd rfl) rfl (Nat.le_of_ble_eq_true rfl) ?_
  have n9 : PWX (x0).toInt (x1).toInt ((Int64.ofInt 1)).toInt (x0).toInt (x1).toInt := by rw [show (Int64.ofInt 1).toInt = 1 from rfl]; exact pwi_0 q_0 q_1
  exact gg_w (by omega) (gg_f (gf_cons rfl (gf_cons rfl (gf_cons rfl (gf_cons rfl (gf_cons rfl gf_nil))))) (ct9 18446744073709551616  (Int64.ofInt 1) x0 x1  n9 (mh_in _)))

theorem oc_367 : (Int32.ofInt (-1)).toInt = (-1) ∧ (Int32.ofInt 0).toInt = 0 ∧ (Int32.ofInt 1).toInt = 1 ∧ (Int64.ofInt 0).toInt = 0 ∧ (Int64.ofInt 1).toInt = 1 ∧ (Int64.ofInt 2).toInt = 2 ∧ (Int64.ofInt 1000000007).toInt = 1000000007 := ⟨rfl, rfl, rfl, rfl, rfl, rfl, rfl⟩
set_option maxHeartbeats 4000000 in
/-- GraphHouseModel.power -/
theorem f_367 {Z : AmZ} {A : Nat → Nat} {s : GS} {ex : va_W} {d : Nat} {X : AmX} {x0 : Int64} {x1 : Int64} (hd : 1 ≤ d) (hI : Inv s) (q_0 : (0 ≤ (x0).toInt ∧ (x0).toInt < 1000000007)) (q_1 : (0 ≤ (x1).toInt)) : GC Z d 367 [.long x0, .long x1] (WW Z A s ++ ex) 0 0 (fun v u => ∃ z : Int64, v = some (.long z) ∧ u = WW Z A s ++ ex ∧ ((0 ≤ (z).toInt ∧ (z).toInt < 1000000007) ∧ MC (z).toInt (pwr (x0).toInt (x1).toInt.toNat))) X := by
  intro post xp hP hX
  have ct9 : ∀ (k9 : Nat) (y9_4 : Int64) (y9_6 : Int64) (y9_8 : Int64), (PWX (x0).toInt (x1).toInt (y9_4).toInt (y9_6).toInt (y9_8).toInt) → ((y9_8.toInt.toNat : Nat) : Int) < (k9 : Int) → GG Z (d - 1) 367 post (gx xp) (1 + k9 * 900) 9 (fun j => xlook j [(0, .long x0), (2, .long x1), (4, .long y9_4), (6, .long y9_6), (8, .long y9_8)]) [] (WW Z A s ++ ex) 0 0 := by
    intro k9
    induction k9 with
    | zero => intro y9_4 y9_6 y9_8 g9_0 mm9; exact absurd mm9 (Int.not_lt.mpr (Int.natCast_nonneg _))
    | succ k9 ih9 =>
      intro y9_4 y9_6 y9_8 g9_0 mm9
      refine gg_w (M := 1 + k9 * 900 + 900) (by omega) ?_
      refine g_lload 11 (gd rfl) rfl rfl ?_
      refine g_lconst 0 12 (gd rfl) rfl rfl ?_
      refine g_lcmp 13 (gd rfl) rfl (fun z12 e12 => ?_)
      have i12 := lc_in e12
      refine g_if_le 16 65 (gd rfl) rfl rfl (fun c13 => ?_) (fun c13 => ?_)
      · skip
        have i13 := z_le (-1) 0 c13 i12 rfl
        have c13a := lc_le e12 c13
        have i13a := lr_le1 (-9223372036854775808) 0 c13a (l_rng y9_8) (l_c 0 rfl) rfl
        refine g_lload 67 (gd rfl) rfl rfl ?_
        have n67 : (0 ≤ (y9_4).toInt ∧ (y9_4).toInt < 1000000007) ∧ MC (y9_4).toInt (pwr (x0).toInt (x1).toInt.toNat) := by exact pwi_e g9_0 (by have oc := oc_367; omega)
        exact g_lreturn (gd rfl) rfl (hP _ _ ⟨y9_4, rfl, rfl, n67⟩)
      · skip
        have i13 := z_gt 1 1 c13 i12 rfl
        have c13a := lc_gt e12 c13
        have i13a := lr_lt2 1 9223372036854775807 c13a (l_c 0 rfl) (l_rng y9_8) rfl
        refine g_lload 18 (gd rfl) rfl rfl ?_
        refine g_ldc2_w 2 21 (gd rfl) rfl rfl ?_
        refine g_lrem 22 (gd rfl) rfl (by decide) (fun z21 e21 => ?_)
        have i21 := l_rem (-1) 1 e21 rfl
        refine g_lconst 1 23 (gd rfl) rfl rfl ?_
        refine g_lcmp 24 (gd rfl) rfl (fun z23 e23 => ?_)
        have i23 := lc_in e23
        refine g_if_ne 27 39 (gd rfl) rfl rfl (fun c24 => ?_) (fun c24 => ?_)
        · skip
          have c24a := lc_ne e23 c24
          have i24 := lr_ne1 (-1) 0 c24a i21 (l_c 1 rfl) rfl
          refine g_lload 41 (gd rfl) rfl rfl ?_
          refine g_lstore 43 (gd rfl) rfl (Nat.le_of_ble_eq_true rfl) ?_
          refine g_lload 45 (gd rfl) rfl rfl ?_
          refine g_lload 47 (gd rfl) rfl rfl ?_
          refine g_lmul 48 (gd rfl) rfl (fun z47 e47 => ?_)
          refine g_ldc2_w 1000000007 51 (gd rfl) rfl rfl ?_
          refine g_lrem 52 (gd rfl) rfl (by decide) (fun z51 e51 => ?_)
          have i51 := l_rem (-1000000006) 1000000006 e51 rfl
          refine g_lstore 54 (gd rfl) rfl (Nat.le_of_ble_eq_true rfl) ?_
          refine g_lload 56 (gd rfl) rfl rfl ?_
          refine g_ldc2_w 2 59 (gd rfl) rfl rfl ?_
          refine g_ldiv 60 (gd rfl) rfl (by decide) (fun z59 e59 => ?_)
          refine g_lstore 62 (gd rfl) rfl (Nat.le_of_ble_eq_true rfl) ?_
          refine g_goto 9 (gd rfl) rfl ?_
          have n9 : PWX (x0).toInt (x1).toInt (y9_4).toInt (z51).toInt (z59).toInt := by have kp : (Int64.ofInt 1000000007).toInt = 1000000007 := rfl; obtain ⟨b1, b2, b3, b4⟩ := g9_0; have m2 := mul_b ⟨b2.1, by omega⟩ ⟨b2.1, by omega⟩; have tq := lmul_t e47 (by omega) (by omega); have tp := lrem_v e51 (by omega) (by omega); rw [tq] at tp; have k2 : (z59).toInt = (y9_8).toInt / 2 := ldiv_v (y := Int64.ofInt 2) e59 (by omega) (by decide); have o1 := (show (z21).toInt = (y9_8).toInt % 2 from lrem_w (y := Int64.ofInt 2) e21 (by omega) (by have h9 := (l_rng y9_8).2; omega) (by decide)); exact pwi_b ⟨b1, b2, b3, b4⟩ (by have oc := oc_367; omega) (by have oc := oc_367; omega) tp k2
          exact gg_w (by omega) (gg_f (gf_cons rfl (gf_cons rfl (gf_cons rfl (gf_cons rfl (gf_cons rfl gf_nil))))) (ih9  y9_4 z51 z59  n9 (mh e59 i13a rfl mm9)))
        · skip
          have i24 := z_eq 0 0 c24 i23 rfl
          have c24a := lc_eq e23 c24
          have i24a := lr_eq1 1 1 c24a i21 (l_c 1 rfl) rfl
          refine g_lload 29 (gd rfl) rfl rfl ?_
          refine g_lload 31 (gd rfl) rfl rfl ?_
          refine g_lmul 32 (gd rfl) rfl (fun z31 e31 => ?_)
          refine g_ldc2_w 1000000007 35 (gd rfl) rfl rfl ?_
          refine g_lrem 36 (gd rfl) rfl (by decide) (fun z35 e35 => ?_)
          have i35 := l_rem (-1000000006) 1000000006 e35 rfl
          refine g_goto 41 (gd rfl) rfl ?_
          refine g_lstore 43 (gd rfl) rfl (Nat.le_of_ble_eq_true rfl) ?_
          refine g_lload 45 (gd rfl) rfl rfl ?_
          refine g_lload 47 (gd rfl) rfl rfl ?_
          refine g_lmul 48 (gd rfl) rfl (fun z47 e47 => ?_)
          refine g_ldc2_w 1000000007 51 (gd rfl) rfl rfl ?_
          refine g_lrem 52 (gd rfl) rfl (by decide) (fun z51 e51 => ?_)
          have i51 := l_rem (-1000000006) 1000000006 e51 rfl
          refine g_lstore 54 (gd rfl) rfl (Nat.le_of_ble_eq_true rfl) ?_
          refine g_lload 56 (gd rfl) rfl rfl ?_
          refine g_ldc2_w 2 59 (gd rfl) rfl rfl ?_
          refine g_ldiv 60 (gd rfl) rfl (by decide) (fun z59 e59 => ?_)
          refine g_lstore 62 (gd rfl) rfl (Nat.le_of_ble_eq_true rfl) ?_
          refine g_goto 9 (gd rfl) rfl ?_
          have n9 : PWX (x0).toInt (x1).toInt (z35).toInt (z51).toInt (z59).toInt := by have kp : (Int64.ofInt 1000000007).toInt = 1000000007 := rfl; obtain ⟨b1, b2, b3, b4⟩ := g9_0; have m2 := mul_b ⟨b2.1, by omega⟩ ⟨b2.1, by omega⟩; have tq := lmul_t e47 (by omega) (by omega); have tp := lrem_v e51 (by omega) (by omega); rw [tq] at tp; have k2 : (z59).toInt = (y9_8).toInt / 2 := ldiv_v (y := Int64.ofInt 2) e59 (by omega) (by decide); have o1 := (show (z21).toInt = (y9_8).toInt % 2 from lrem_w (y := Int64.ofInt 2) e21 (by omega) (by have h9 := (l_rng y9_8).2; omega) (by decide)); have m1 := mul_b ⟨b1.1, by omega⟩ ⟨b2.1, by omega⟩; have tm := lmul_t e31 (by omega) (by omega); have tr := lrem_v e35 (by omega) (by omega); rw [tm] at tr; exact pwi_a ⟨b1, b2, b3, b4⟩ (by have oc := oc_367; omega) (by have oc := oc_367; omega) tr tp k2
          exact gg_w (by omega) (gg_f (gf_cons rfl (gf_cons rfl (gf_cons rfl (gf_cons rfl (gf_cons rfl gf_nil))))) (ih9  z35 z51 z59  n9 (mh e59 i13a rfl mm9)))
  refine g_enter2 (k := 367) (N := 16602069666338596455301) (by omega) rfl (Nat.le_of_ble_eq_true rfl) ?_
  refine g_lconst 1 1 (gd rfl) rfl rfl ?_
  refine g_lstore 3 (gd rfl) rfl (Nat.le_of_ble_eq_true rfl) ?_
  refine g_lload_n 4 (gd rfl) rfl rfl ?_
  refine g_lstore 6 (gd rfl) rfl (Nat.le_of_ble_eq_true rfl) ?_
  refine g_lload_n 7 (gd rfl) rfl rfl ?_
  refine g_lstore 9 (gd rfl) rfl (Nat.le_of_ble_eq_true rfl) ?_
  have n9 : PWX (x0).toInt (x1).toInt ((Int64.ofInt 1)).toInt (x0).toInt (x1).toInt := by rw [show (Int64.ofInt 1).toInt = 1 from rfl]; exact pwi_0 q_0 q_1
  exact gg_w (by omega) (gg_f (gf_cons rfl (gf_cons rfl (gf_cons rfl (gf_cons rfl (gf_cons rfl gf_nil))))) (ct9 18446744073709551616  (Int64.ofInt 1) x0 x1  n9 (mh_in _)))

theorem oc_191_76 : (Int32.ofInt (-1)).toInt = (-1) ∧ (Int32.ofInt 0).toInt = 0 ∧ (Int32.ofInt 1).toInt = 1 ∧ (Int32.ofInt 32).toInt = 32 := ⟨rfl, rfl, rfl, rfl⟩
/-- GraphHouse$Trees.swapRows -/
theorem f_191_76 {Z : AmZ} {A : Nat → Nat} {s : GS} {ex : va_W} {d : Nat} {X : AmX} {x1 : Int32} {x2 : Int32} (hd : 1 ≤ d) (hI : Inv s) (h1 : In x1 0 30) (h2 : In x2 0 30) (q_0 : ((x1).toInt ≠ (x2).toInt)) : GC Z d 191 [.ref (A 76), .int x1, .int x2] (WW Z A s ++ ex) 0 0 (fun v u => ∃ t : GS, Inv t ∧ Fr fm_191_76 s t ∧ v = none ∧ u = WW Z A t ++ ex ∧ (∀ k : Nat, k < 1024 → (t).2.1 85 k = swf (s.2.1 85) (x1).toNatClampNeg (x2).toNatClampNeg k)) X := by
  intro post xp hP hX
  have ct2 : ∀ (k2 : Nat) (sc2 : GS) (y2_3 : Int32), Inv sc2 → Fr fm_191_76 s sc2 → (In y2_3 0 32) → (SWI (s.2.1 85) ((sc2).2.1 85) (x1).toNatClampNeg (x2).toNatClampNeg (y2_3).toNatClampNeg) → 32 - (y2_3).toInt < (k2 : Int) → GG Z (d - 1) 191 post (gx xp) (1 + k2 * 900) 2 (fun j => xlook j [(0, .ref (A 76)), (1, .int x1), (2, .int x2), (3, .int y2_3)]) [] (WW Z A sc2 ++ ex) 0 0 := by
    intro k2
    induction k2 with
    | zero => intro sc2 y2_3 hIc2 hFc2 j2_3 g2_0 mm2; exact m_no mm2 j2_3 rfl
    | succ k2 ih2 =>
      intro sc2 y2_3 hIc2 hFc2 j2_3 g2_0 mm2
      refine gg_w (M := 1 + k2 * 900 + 900) (by omega) ?_
      refine g_iload_n 3 (gd rfl) rfl rfl ?_
      refine g_bipush 32 5 (gd rfl) rfl rfl ?_
      refine g_cmp_ge 8 62 (gd rfl) rfl rfl (fun c5 => ?_) (fun c5 => ?_)
      · skip
        have i5 := r_le2 32 32 c5 (in_c 32 rfl) j2_3 rfl
        have n62 : ∀ k : Nat, k < 1024 → (sc2).2.1 85 k = swf (s.2.1 85) (x1).toNatClampNeg (x2).toNatClampNeg k := by exact swi_e g2_0 (show 32 ≤ (y2_3).toInt.toNat from (by have a0 := h2; unfold In at a0; have a1 := h1; unfold In at a1; have a2 := i5; unfold In at a2; have oc := oc_191_76; omega))
        exact g_return (gd rfl) rfl (hP _ _ ⟨sc2, hIc2, hFc2, rfl, rfl, n62⟩)
      · skip
        have i5 := r_lt1 0 31 c5 j2_3 (in_c 32 rfl) rfl
        refine g_aload_n 9 (gd rfl) rfl rfl ?_
        refine g_getA (q2 := 85) 12 (gd rfl) rfl rfl rfl rfl ?_
        refine g_iload_n 13 (gd rfl) rfl rfl ?_
        refine g_bipush 32 15 (gd rfl) rfl rfl ?_
        refine g_imul 16 (gd rfl) rfl (fun z15 e15 => ?_)
        have i15 := in_mulc 32 0 960 (Or.inr e15) h1 rfl rfl
        refine g_iload_n 17 (gd rfl) rfl rfl ?_
        refine g_iadd 18 (gd rfl) rfl (fun z17 e17 => ?_)
        have i17 := in_add 0 991 e17 i15 i5 rfl rfl
        refine g_laload 19 (gd rfl) rfl (n := 1024) rfl (in_ix i17 rfl) (fun z18 e18 => ?_)
        refine g_lstore 21 (gd rfl) rfl (Nat.le_of_ble_eq_true rfl) ?_
        refine g_aload_n 22 (gd rfl) rfl rfl ?_
        refine g_getA (q2 := 85) 25 (gd rfl) rfl rfl rfl rfl ?_
        refine g_iload_n 26 (gd rfl) rfl rfl ?_
        refine g_bipush 32 28 (gd rfl) rfl rfl ?_
        refine g_imul 29 (gd rfl) rfl (fun z28 e28 => ?_)
        have i28 := in_mulc 32 0 960 (Or.inr e28) h1 rfl rfl
        refine g_iload_n 30 (gd rfl) rfl rfl ?_
        refine g_iadd 31 (gd rfl) rfl (fun z30 e30 => ?_)
        have i30 := in_add 0 991 e30 i28 i5 rfl rfl
        refine g_aload_n 32 (gd rfl) rfl rfl ?_
        refine g_getA (q2 := 85) 35 (gd rfl) rfl rfl rfl rfl ?_
        refine g_iload_n 36 (gd rfl) rfl rfl ?_
        refine g_bipush 32 38 (gd rfl) rfl rfl ?_
        refine g_imul 39 (gd rfl) rfl (fun z38 e38 => ?_)
        have i38 := in_mulc 32 0 960 (Or.inr e38) h2 rfl rfl
        refine g_iload_n 40 (gd rfl) rfl rfl ?_
        refine g_iadd 41 (gd rfl) rfl (fun z40 e40 => ?_)
        have i40 := in_add 0 991 e40 i38 i5 rfl rfl
        refine g_laload 42 (gd rfl) rfl (n := 1024) rfl (in_ix i40 rfl) (fun z41 e41 => ?_)
        refine g_lastore 43 (gd rfl) rfl (n := 1024) rfl (in_ix i30 rfl) ?_
        have hI42 := inv_sL (q := 85) (j := z30.toNatClampNeg) (x := z41) hIc2 rfl (l_rng z41)
        refine g_aload_n 44 (gd rfl) rfl rfl ?_
        refine g_getA (q2 := 85) 47 (gd rfl) rfl rfl rfl rfl ?_
        refine g_iload_n 48 (gd rfl) rfl rfl ?_
        refine g_bipush 32 50 (gd rfl) rfl rfl ?_
        refine g_imul 51 (gd rfl) rfl (fun z50 e50 => ?_)
        have i50 := in_mulc 32 0 960 (Or.inr e50) h2 rfl rfl
        refine g_iload_n 52 (gd rfl) rfl rfl ?_
        refine g_iadd 53 (gd rfl) rfl (fun z52 e52 => ?_)
        have i52 := in_add 0 991 e52 i50 i5 rfl rfl
        refine g_lload 55 (gd rfl) rfl rfl ?_
        refine g_lastore 56 (gd rfl) rfl (n := 1024) rfl (in_ix i52 rfl) ?_
        have hI55 := inv_sL (q := 85) (j := z52.toNatClampNeg) (x := z18) hI42 rfl (l_rng z18)
        refine g_iinc 59 (gd rfl) rfl rfl (Nat.le_of_ble_eq_true rfl) (fun z56 e56 => ?_)
        have i56 := in_add 1 32 e56 i5 (in_c 1 rfl) rfl rfl
        refine g_goto 2 (gd rfl) rfl ?_
        have n2 : SWI (s.2.1 85) (((sL (sL sc2 85 z30.toNatClampNeg z41) 85 z52.toNatClampNeg z18)).2.1 85) (x1).toNatClampNeg (x2).toNatClampNeg (z56).toNatClampNeg := by rw [sL_w, sL_w, show (z56).toNatClampNeg = (y2_3).toNatClampNeg + 1 from (by show (z56).toInt.toNat = (y2_3).toInt.toNat + 1; have a0 := h2; unfold In at a0; have a1 := h1; unfold In at a1; have a2 := i5; unfold In at a2; have a3 := i56; unfold In at a3; have a4 := t_add e56 i5 (in_c 1 rfl) rfl; have a5 := (in_c 1 rfl); unfold In at a5; have a6 := i52; unfold In at a6; have a7 := t_add e52 i50 i5 rfl; have a8 := i50; unfold In at a8; have a9 := (t_mulc 32 (Or.inr e50) h2 rfl).1; have a10 := i40; unfold In at a10; have a11 := t_add e40 i38 i5 rfl; have a12 := i38; unfold In at a12; have a13 := (t_mulc 32 (Or.inr e38) h2 rfl).1; have a14 := i30; unfold In at a14; have a15 := t_add e30 i28 i5 rfl; have a16 := i28; unfold In at a16; have a17 := (t_mulc 32 (Or.inr e28) h1 rfl).1; have a18 := i17; unfold In at a18; have a19 := t_add e17 i15 i5 rfl; have a20 := i15; unfold In at a20; have a21 := (t_mulc 32 (Or.inr e15) h1 rfl).1; have oc := oc_191_76; omega)]; exact swi_s g2_0 (show (y2_3).toInt.toNat < 32 from (by have a0 := h2; unfold In at a0; have a1 := h1; unfold In at a1; have a2 := i5; unfold In at a2; have a3 := i56; unfold In at a3; have a4 := t_add e56 i5 (in_c 1 rfl) rfl; have a5 := (in_c 1 rfl); unfold In at a5; have a6 := i52; unfold In at a6; have a7 := t_add e52 i50 i5 rfl; have a8 := i50; unfold In at a8; have a9 := (t_mulc 32 (Or.inr e50) h2 rfl).1; have a10 := i40; unfold In at a10; have a11 := t_add e40 i38 i5 rfl; have a12 := i38; unfold In at a12; have a13 := (t_mulc 32 (Or.inr e38) h2 rfl).1; have a14 := i30; unfold In at a14; have a15 := t_add e30 i28 i5 rfl; have a16 := i28; unfold In at a16; have a17 := (t_mulc 32 (Or.inr e28) h1 rfl).1; have a18 := i17; unfold In at a18; have a19 := t_add e17 i15 i5 rfl; have a20 := i15; unfold In at a20; have a21 := (t_mulc 32 (Or.inr e15) h1 rfl).1; have oc := oc_191_76; omega)) (show (x1).toInt.toNat < 32 from (by have a0 := h2; unfold In at a0; have a1 := h1; unfold In at a1; have a2 := i5; unfold In at a2; have a3 := i56; unfold In at a3; have a4 := t_add e56 i5 (in_c 1 rfl) rfl; have a5 := (in_c 1 rfl); unfold In at a5; have a6 := i52; unfold In at a6; have a7 := t_add e52 i50 i5 rfl; have a8 := i50; unfold In at a8; have a9 := (t_mulc 32 (Or.inr e50) h2 rfl).1; have a10 := i40; unfold In at a10; have a11 := t_add e40 i38 i5 rfl; have a12 := i38; unfold In at a12; have a13 := (t_mulc 32 (Or.inr e38) h2 rfl).1; have a14 := i30; unfold In at a14; have a15 := t_add e30 i28 i5 rfl; have a16 := i28; unfold In at a16; have a17 := (t_mulc 32 (Or.inr e28) h1 rfl).1; have a18 := i17; unfold In at a18; have a19 := t_add e17 i15 i5 rfl; have a20 := i15; unfold In at a20; have a21 := (t_mulc 32 (Or.inr e15) h1 rfl).1; have oc := oc_191_76; omega)) (show (x2).toInt.toNat < 32 from (by have a0 := h2; unfold In at a0; have a1 := h1; unfold In at a1; have a2 := i5; unfold In at a2; have a3 := i56; unfold In at a3; have a4 := t_add e56 i5 (in_c 1 rfl) rfl; have a5 := (in_c 1 rfl); unfold In at a5; have a6 := i52; unfold In at a6; have a7 := t_add e52 i50 i5 rfl; have a8 := i50; unfold In at a8; have a9 := (t_mulc 32 (Or.inr e50) h2 rfl).1; have a10 := i40; unfold In at a10; have a11 := t_add e40 i38 i5 rfl; have a12 := i38; unfold In at a12; have a13 := (t_mulc 32 (Or.inr e38) h2 rfl).1; have a14 := i30; unfold In at a14; have a15 := t_add e30 i28 i5 rfl; have a16 := i28; unfold In at a16; have a17 := (t_mulc 32 (Or.inr e28) h1 rfl).1; have a18 := i17; unfold In at a18; have a19 := t_add e17 i15 i5 rfl; have a20 := i15; unfold In at a20; have a21 := (t_mulc 32 (Or.inr e15) h1 rfl).1; have oc := oc_191_76; omega)) (fun h => by have h9 : (x1).toInt.toNat = (x2).toInt.toNat := h; have a0 := h2; unfold In at a0; have a1 := h1; unfold In at a1; have a2 := i5; unfold In at a2; have a3 := i56; unfold In at a3; have a4 := t_add e56 i5 (in_c 1 rfl) rfl; have a5 := (in_c 1 rfl); unfold In at a5; have a6 := i52; unfold In at a6; have a7 := t_add e52 i50 i5 rfl; have a8 := i50; unfold In at a8; have a9 := (t_mulc 32 (Or.inr e50) h2 rfl).1; have a10 := i40; unfold In at a10; have a11 := t_add e40 i38 i5 rfl; have a12 := i38; unfold In at a12; have a13 := (t_mulc 32 (Or.inr e38) h2 rfl).1; have a14 := i30; unfold In at a14; have a15 := t_add e30 i28 i5 rfl; have a16 := i28; unfold In at a16; have a17 := (t_mulc 32 (Or.inr e28) h1 rfl).1; have a18 := i17; unfold In at a18; have a19 := t_add e17 i15 i5 rfl; have a20 := i15; unfold In at a20; have a21 := (t_mulc 32 (Or.inr e15) h1 rfl).1; have oc := oc_191_76; omega) (show z30.toNatClampNeg = 32 * (x1).toNatClampNeg + (y2_3).toNatClampNeg from (by show z30.toInt.toNat = 32 * (x1).toInt.toNat + (y2_3).toInt.toNat; have a0 := h2; unfold In at a0; have a1 := h1; unfold In at a1; have a2 := i5; unfold In at a2; have a3 := i56; unfold In at a3; have a4 := t_add e56 i5 (in_c 1 rfl) rfl; have a5 := (in_c 1 rfl); unfold In at a5; have a6 := i52; unfold In at a6; have a7 := t_add e52 i50 i5 rfl; have a8 := i50; unfold In at a8; have a9 := (t_mulc 32 (Or.inr e50) h2 rfl).1; have a10 := i40; unfold In at a10; have a11 := t_add e40 i38 i5 rfl; have a12 := i38; unfold In at a12; have a13 := (t_mulc 32 (Or.inr e38) h2 rfl).1; have a14 := i30; unfold In at a14; have a15 := t_add e30 i28 i5 rfl; have a16 := i28; unfold In at a16; have a17 := (t_mulc 32 (Or.inr e28) h1 rfl).1; have a18 := i17; unfold In at a18; have a19 := t_add e17 i15 i5 rfl; have a20 := i15; unfold In at a20; have a21 := (t_mulc 32 (Or.inr e15) h1 rfl).1; have oc := oc_191_76; omega)) (show z52.toNatClampNeg = 32 * (x2).toNatClampNeg + (y2_3).toNatClampNeg from (by show z52.toInt.toNat = 32 * (x2).toInt.toNat + (y2_3).toInt.toNat; have a0 := h2; unfold In at a0; have a1 := h1; unfold In at a1; have a2 := i5; unfold In at a2; have a3 := i56; unfold In at a3; have a4 := t_add e56 i5 (in_c 1 rfl) rfl; have a5 := (in_c 1 rfl); unfold In at a5; have a6 := i52; unfold In at a6; have a7 := t_add e52 i50 i5 rfl; have a8 := i50; unfold In at a8; have a9 := (t_mulc 32 (Or.inr e50) h2 rfl).1; have a10 := i40; unfold In at a10; have a11 := t_add e40 i38 i5 rfl; have a12 := i38; unfold In at a12; have a13 := (t_mulc 32 (Or.inr e38) h2 rfl).1; have a14 := i30; unfold In at a14; have a15 := t_add e30 i28 i5 rfl; have a16 := i28; unfold In at a16; have a17 := (t_mulc 32 (Or.inr e28) h1 rfl).1; have a18 := i17; unfold In at a18; have a19 := t_add e17 i15 i5 rfl; have a20 := i15; unfold In at a20; have a21 := (t_mulc 32 (Or.inr e15) h1 rfl).1; have oc := oc_191_76; omega)) (by rw [e18]; exact congrArg (sc2.2.1 85) (show z17.toInt.toNat = z30.toInt.toNat from (by have a0 := h2; unfold In at a0; have a1 := h1; unfold In at a1; have a2 := i5; unfold In at a2; have a3 := i56; unfold In at a3; have a4 := t_add e56 i5 (in_c 1 rfl) rfl; have a5 := (in_c 1 rfl); unfold In at a5; have a6 := i52; unfold In at a6; have a7 := t_add e52 i50 i5 rfl; have a8 := i50; unfold In at a8; have a9 := (t_mulc 32 (Or.inr e50) h2 rfl).1; have a10 := i40; unfold In at a10; have a11 := t_add e40 i38 i5 rfl; have a12 := i38; unfold In at a12; have a13 := (t_mulc 32 (Or.inr e38) h2 rfl).1; have a14 := i30; unfold In at a14; have a15 := t_add e30 i28 i5 rfl; have a16 := i28; unfold In at a16; have a17 := (t_mulc 32 (Or.inr e28) h1 rfl).1; have a18 := i17; unfold In at a18; have a19 := t_add e17 i15 i5 rfl; have a20 := i15; unfold In at a20; have a21 := (t_mulc 32 (Or.inr e15) h1 rfl).1; have oc := oc_191_76; omega))) (by rw [e41]; exact congrArg (sc2.2.1 85) (show z40.toInt.toNat = z52.toInt.toNat from (by have a0 := h2; unfold In at a0; have a1 := h1; unfold In at a1; have a2 := i5; unfold In at a2; have a3 := i56; unfold In at a3; have a4 := t_add e56 i5 (in_c 1 rfl) rfl; have a5 := (in_c 1 rfl); unfold In at a5; have a6 := i52; unfold In at a6; have a7 := t_add e52 i50 i5 rfl; have a8 := i50; unfold In at a8; have a9 := (t_mulc 32 (Or.inr e50) h2 rfl).1; have a10 := i40; unfold In at a10; have a11 := t_add e40 i38 i5 rfl; have a12 := i38; unfold In at a12; have a13 := (t_mulc 32 (Or.inr e38) h2 rfl).1; have a14 := i30; unfold In at a14; have a15 := t_add e30 i28 i5 rfl; have a16 := i28; unfold In at a16; have a17 := (t_mulc 32 (Or.inr e28) h1 rfl).1; have a18 := i17; unfold In at a18; have a19 := t_add e17 i15 i5 rfl; have a20 := i15; unfold In at a20; have a21 := (t_mulc 32 (Or.inr e15) h1 rfl).1; have oc := oc_191_76; omega)))
        exact gg_w (by omega) (gg_f (gf_cons rfl (gf_cons rfl (gf_cons rfl (gf_cons rfl gf_nil)))) (ih2 (sL (sL sc2 85 z30.toNatClampNeg z41) 85 z52.toNatClampNeg z18) z56 hI55 (fr_sL rfl (fr_sL rfl hFc2)) (in_w 0 32 i56 rfl) n2 (m_up mm2 (t_add e56 i5 (in_c 1 rfl) rfl) (in_w 1 1 (in_c 1 rfl) rfl))))
  refine g_enter2 (k := 191) (N := 30601) (by omega) rfl (Nat.le_of_ble_eq_true rfl) ?_
  refine g_iconst 0 1 (gd rfl) rfl rfl ?_
  refine g_istore_n 2 (gd rfl) rfl (Nat.le_of_ble_eq_true rfl) ?_
  have n2 : SWI (s.2.1 85) ((s).2.1 85) (x1).toNatClampNeg (x2).toNatClampNeg ((Int32.ofInt 0)).toNatClampNeg := by exact swi_0
  exact gg_w (by omega) (gg_f (gf_cons rfl (gf_cons rfl (gf_cons rfl (gf_cons rfl gf_nil)))) (ct2 33 s (Int32.ofInt 0) hI fr_rf (in_w 0 32 (in_c 0 rfl) rfl) n2 (m_in 33 (in_w 0 32 (in_c 0 rfl) rfl) rfl)))

theorem oc_190_76 : (Int32.ofInt (-1)).toInt = (-1) ∧ (Int32.ofInt 0).toInt = 0 ∧ (Int32.ofInt 1).toInt = 1 ∧ (Int32.ofInt 32).toInt = 32 ∧ (Int64.ofInt 0).toInt = 0 ∧ (Int64.ofInt 1000000005).toInt = 1000000005 ∧ (Int64.ofInt 1000000007).toInt = 1000000007 := ⟨rfl, rfl, rfl, rfl, rfl, rfl, rfl⟩
set_option maxHeartbeats 8000000 in
/-- GraphHouse$Trees.pivot -/
theorem f_190_76 {Z : AmZ} {A : Nat → Nat} {s : GS} {ex : va_W} {d : Nat} {X : AmX} {x1 : Int32} {x2 : Int32} (hd : 2 ≤ d) (hI : Inv s) (h1 : In x1 0 30) (h2 : In x2 1 31) (q_0 : GRD ((s).2.1 85)) (q_1 : ((x1).toInt < (x2).toInt)) : GC Z d 190 [.ref (A 76), .int x1, .int x2] (WW Z A s ++ ex) 0 0 (fun v u => ∃ t : GS, Inv t ∧ Fr fm_190_76 s t ∧ ∃ z : Int64, v = some (.long z) ∧ u = WW Z A t ++ ex ∧ (PVP (s.2.1 85) ((t).2.1 85) (x1).toNatClampNeg (x2).toNatClampNeg (z).toInt)) X := by
  intro post xp hP hX
  have ct75 : ∀ (k75 : Nat) (sc75 : GS) (y75_3 : Int32) (y75_4 : Int64) (y75_6 : Int64) (y75_8 : Int32), Inv sc75 → Fr fm_190_76 s sc75 → (In y75_3 0 30) → (In y75_8 1 31) → ((x1).toInt < (y75_8).toInt) → (GRD ((sc75).2.1 85)) → (PVJ (swf (s.2.1 85) (y75_3).toNatClampNeg (x1).toNatClampNeg) ((sc75).2.1 85) (x1).toNatClampNeg (x2).toNatClampNeg (y75_8).toNatClampNeg (x1).toNatClampNeg (y75_6).toInt) → ((y75_4).toInt = gat (swf (s.2.1 85) (y75_3).toNatClampNeg (x1).toNatClampNeg) (x1).toNatClampNeg (x1).toNatClampNeg) → (MC (gat (swf (s.2.1 85) (y75_3).toNatClampNeg (x1).toNatClampNeg) (x1).toNatClampNeg (x1).toNatClampNeg * (y75_6).toInt) 1) → ((0 ≤ (y75_6).toInt ∧ (y75_6).toInt < 1000000007)) → (((x1).toInt ≤ (y75_3).toInt ∧ (y75_3).toInt < (x2).toInt)) → 31 - (y75_8).toInt < (k75 : Int) → GG Z (d - 1) 190 post (gx xp) (1 + k75 * 31501) 75 (fun j => xlook j [(0, .ref (A 76)), (1, .int x1), (2, .int x2), (3, .int y75_3), (4, .long y75_4), (6, .long y75_6), (8, .int y75_8)]) [] (WW Z A sc75 ++ ex) 0 0 := by
    intro k75
    induction k75 with
    | zero => intro sc75 y75_3 y75_4 y75_6 y75_8 hIc75 hFc75 j75_3 j75_8 n75_0 g75_0 g75_1 g75_2 g75_3 g75_4 g75_5 mm75; exact m_no mm75 j75_8 rfl
    | succ k75 ih75 =>
      intro sc75 y75_3 y75_4 y75_6 y75_8 hIc75 hFc75 j75_3 j75_8 n75_0 g75_0 g75_1 g75_2 g75_3 g75_4 g75_5 mm75
      refine gg_w (M := 1 + k75 * 31501 + 31501) (by omega) ?_
      have ct109 : ∀ (k109 : Nat) (sc109 : GS) (y109_9 : Int64) (y109_11 : Int32), Inv sc109 → Fr fm_190_76 s sc109 → (In x2 2 31) → (In y75_8 1 30) → (In y109_11 0 31) → ((x1).toInt ≤ (y109_11).toInt) → ((y109_11).toInt ≤ (x2).toInt) → (GRD ((sc109).2.1 85)) → (PVJ (swf (s.2.1 85) (y75_3).toNatClampNeg (x1).toNatClampNeg) ((sc109).2.1 85) (x1).toNatClampNeg (x2).toNatClampNeg (y75_8).toNatClampNeg (y109_11).toNatClampNeg (y75_6).toInt) → ((y109_9).toInt = tms (swf (s.2.1 85) (y75_3).toNatClampNeg (x1).toNatClampNeg) (y75_6).toInt (x1).toNatClampNeg (y75_8).toNatClampNeg) → 31 - (y109_11).toInt < (k109 : Int) → GG Z (d - 1) 190 post (gx xp) (1 + k75 * 31501 + 1 + k109 * 900) 109 (fun j => xlook j [(0, .ref (A 76)), (1, .int x1), (2, .int x2), (3, .int y75_3), (4, .long y75_4), (6, .long y75_6), (8, .int y75_8), (9, .long y109_9), (11, .int y109_11)]) [] (WW Z A sc109 ++ ex) 0 0 := by
        intro k109
        induction k109 with
        | zero => intro sc109 y109_9 y109_11 hIc109 hFc109 j109_2 j109_8 j109_11 n109_0 n109_1 g109_0 g109_1 g109_2 mm109; exact m_no mm109 j109_11 rfl
        | succ k109 ih109 =>
          intro sc109 y109_9 y109_11 hIc109 hFc109 j109_2 j109_8 j109_11 n109_0 n109_1 g109_0 g109_1 g109_2 mm109
          refine gg_w (M := 1 + k75 * 31501 + 1 + k109 * 900 + 900) (by omega) ?_
          refine g_iload 111 (gd rfl) rfl rfl ?_
          refine g_iload_n 112 (gd rfl) rfl rfl ?_
          refine g_cmp_ge 115 174 (gd rfl) rfl rfl (fun c112 => ?_) (fun c112 => ?_)
          · skip
            have i112 := r_le2 2 31 c112 j109_2 j109_11 rfl
            refine g_iinc 177 (gd rfl) rfl rfl (Nat.le_of_ble_eq_true rfl) (fun z174 e174 => ?_)
            have i174 := in_add 2 31 e174 j109_8 (in_c 1 rfl) rfl rfl
            refine g_goto 75 (gd rfl) rfl ?_
            have n75 : (x1).toInt < (z174).toInt := by have a0 := j109_8; unfold In at a0; have a1 := j75_3; unfold In at a1; have a2 := j109_2; unfold In at a2; have a3 := h1; unfold In at a3; have a4 := i112; unfold In at a4; have a5 := i174; unfold In at a5; have a6 := t_add e174 j109_8 (in_c 1 rfl) rfl; have a7 := (in_c 1 rfl); unfold In at a7; have oc := oc_190_76; omega
            have n75a : GRD ((sc109).2.1 85) := by exact g109_0
            have n75b : PVJ (swf (s.2.1 85) (y75_3).toNatClampNeg (x1).toNatClampNeg) ((sc109).2.1 85) (x1).toNatClampNeg (x2).toNatClampNeg (z174).toNatClampNeg (x1).toNatClampNeg (y75_6).toInt := by first | exact pvj_e g109_1 (show (x1).toInt.toNat < (y75_8).toInt.toNat from (by have a0 := j109_8; unfold In at a0; have a1 := j75_3; unfold In at a1; have a2 := j109_2; unfold In at a2; have a3 := h1; unfold In at a3; have a4 := i112; unfold In at a4; have a5 := i174; unfold In at a5; have a6 := t_add e174 j109_8 (in_c 1 rfl) rfl; have a7 := (in_c 1 rfl); unfold In at a7; have oc := oc_190_76; omega)) (show (x1).toInt.toNat ≤ (y109_11).toInt.toNat from (by have a0 := j109_8; unfold In at a0; have a1 := j75_3; unfold In at a1; have a2 := j109_2; unfold In at a2; have a3 := h1; unfold In at a3; have a4 := i112; unfold In at a4; have a5 := i174; unfold In at a5; have a6 := t_add e174 j109_8 (in_c 1 rfl) rfl; have a7 := (in_c 1 rfl); unfold In at a7; have oc := oc_190_76; omega)) (show (y109_11).toInt.toNat ≤ (x2).toInt.toNat from (by have a0 := j109_8; unfold In at a0; have a1 := j75_3; unfold In at a1; have a2 := j109_2; unfold In at a2; have a3 := h1; unfold In at a3; have a4 := i112; unfold In at a4; have a5 := i174; unfold In at a5; have a6 := t_add e174 j109_8 (in_c 1 rfl) rfl; have a7 := (in_c 1 rfl); unfold In at a7; have oc := oc_190_76; omega)) (Or.inl (show (y109_11).toInt.toNat = (x2).toInt.toNat from (by have a0 := j109_8; unfold In at a0; have a1 := j75_3; unfold In at a1; have a2 := j109_2; unfold In at a2; have a3 := h1; unfold In at a3; have a4 := i112; unfold In at a4; have a5 := i174; unfold In at a5; have a6 := t_add e174 j109_8 (in_c 1 rfl) rfl; have a7 := (in_c 1 rfl); unfold In at a7; have oc := oc_190_76; omega))) (show (z174).toInt.toNat = (y75_8).toInt.toNat + 1 from (by have a0 := j109_8; unfold In at a0; have a1 := j75_3; unfold In at a1; have a2 := j109_2; unfold In at a2; have a3 := h1; unfold In at a3; have a4 := i112; unfold In at a4; have a5 := i174; unfold In at a5; have a6 := t_add e174 j109_8 (in_c 1 rfl) rfl; have a7 := (in_c 1 rfl); unfold In at a7; have oc := oc_190_76; omega)) | exact pvj_e g109_1 (show (x1).toInt.toNat < (y75_8).toInt.toNat from (by have a0 := j109_8; unfold In at a0; have a1 := j75_3; unfold In at a1; have a2 := j109_2; unfold In at a2; have a3 := h1; unfold In at a3; have a4 := i112; unfold In at a4; have a5 := i174; unfold In at a5; have a6 := t_add e174 j109_8 (in_c 1 rfl) rfl; have a7 := (in_c 1 rfl); unfold In at a7; have oc := oc_190_76; omega)) (show (x1).toInt.toNat ≤ (y109_11).toInt.toNat from (by have a0 := j109_8; unfold In at a0; have a1 := j75_3; unfold In at a1; have a2 := j109_2; unfold In at a2; have a3 := h1; unfold In at a3; have a4 := i112; unfold In at a4; have a5 := i174; unfold In at a5; have a6 := t_add e174 j109_8 (in_c 1 rfl) rfl; have a7 := (in_c 1 rfl); unfold In at a7; have oc := oc_190_76; omega)) (show (y109_11).toInt.toNat ≤ (x2).toInt.toNat from (by have a0 := j109_8; unfold In at a0; have a1 := j75_3; unfold In at a1; have a2 := j109_2; unfold In at a2; have a3 := h1; unfold In at a3; have a4 := i112; unfold In at a4; have a5 := i174; unfold In at a5; have a6 := t_add e174 j109_8 (in_c 1 rfl) rfl; have a7 := (in_c 1 rfl); unfold In at a7; have oc := oc_190_76; omega)) (Or.inr (by rw [← g109_2]; have a0 := j109_8; unfold In at a0; have a1 := j75_3; unfold In at a1; have a2 := j109_2; unfold In at a2; have a3 := h1; unfold In at a3; have a4 := i112; unfold In at a4; have a5 := i174; unfold In at a5; have a6 := t_add e174 j109_8 (in_c 1 rfl) rfl; have a7 := (in_c 1 rfl); unfold In at a7; have oc := oc_190_76; omega)) (show (z174).toInt.toNat = (y75_8).toInt.toNat + 1 from (by have a0 := j109_8; unfold In at a0; have a1 := j75_3; unfold In at a1; have a2 := j109_2; unfold In at a2; have a3 := h1; unfold In at a3; have a4 := i112; unfold In at a4; have a5 := i174; unfold In at a5; have a6 := t_add e174 j109_8 (in_c 1 rfl) rfl; have a7 := (in_c 1 rfl); unfold In at a7; have oc := oc_190_76; omega))
            have n75c : (y75_4).toInt = gat (swf (s.2.1 85) (y75_3).toNatClampNeg (x1).toNatClampNeg) (x1).toNatClampNeg (x1).toNatClampNeg := by exact g75_2
            have n75d : MC (gat (swf (s.2.1 85) (y75_3).toNatClampNeg (x1).toNatClampNeg) (x1).toNatClampNeg (x1).toNatClampNeg * (y75_6).toInt) 1 := by exact g75_3
            have n75e : (0 ≤ (y75_6).toInt ∧ (y75_6).toInt < 1000000007) := by exact g75_4
            have n75f : ((x1).toInt ≤ (y75_3).toInt ∧ (y75_3).toInt < (x2).toInt) := by exact g75_5
            exact gg_w (by omega) (gg_f (gf_cons rfl (gf_cons rfl (gf_cons rfl (gf_cons rfl (gf_cons rfl (gf_cons rfl (gf_cons rfl gf_nil))))))) (ih75 sc109 y75_3 y75_4 y75_6 z174 hIc109 hFc109 (in_w 0 30 j75_3 rfl) (in_w 1 31 i174 rfl) n75 n75a n75b n75c n75d n75e n75f (m_up mm75 (t_add e174 j109_8 (in_c 1 rfl) rfl) (in_w 1 1 (in_c 1 rfl) rfl))))
          · skip
            have i112 := r_lt1 0 30 c112 j109_11 j109_2 rfl
            refine g_lload 117 (gd rfl) rfl rfl ?_
            refine g_lconst 0 118 (gd rfl) rfl rfl ?_
            refine g_lcmp 119 (gd rfl) rfl (fun z118 e118 => ?_)
            have i118 := lc_in e118
            refine g_if_eq 122 174 (gd rfl) rfl rfl (fun c119 => ?_) (fun c119 => ?_)
            · skip
              have i119 := z_eq 0 0 c119 i118 rfl
              have c119a := lc_eq e118 c119
              have i119a := lr_eq1 0 0 c119a (l_rng y109_9) (l_c 0 rfl) rfl
              refine g_iinc 177 (gd rfl) rfl rfl (Nat.le_of_ble_eq_true rfl) (fun z174 e174 => ?_)
              have i174 := in_add 2 31 e174 j109_8 (in_c 1 rfl) rfl rfl
              refine g_goto 75 (gd rfl) rfl ?_
              have n75 : (x1).toInt < (z174).toInt := by have a0 := j109_8; unfold In at a0; have a1 := j75_3; unfold In at a1; have a2 := j109_2; unfold In at a2; have a3 := h1; unfold In at a3; have a4 := i112; unfold In at a4; have a5 := i174; unfold In at a5; have a6 := t_add e174 j109_8 (in_c 1 rfl) rfl; have a7 := (in_c 1 rfl); unfold In at a7; have oc := oc_190_76; omega
              have n75a : GRD ((sc109).2.1 85) := by exact g109_0
              have n75b : PVJ (swf (s.2.1 85) (y75_3).toNatClampNeg (x1).toNatClampNeg) ((sc109).2.1 85) (x1).toNatClampNeg (x2).toNatClampNeg (z174).toNatClampNeg (x1).toNatClampNeg (y75_6).toInt := by first | exact pvj_e g109_1 (show (x1).toInt.toNat < (y75_8).toInt.toNat from (by have a0 := j109_8; unfold In at a0; have a1 := j75_3; unfold In at a1; have a2 := j109_2; unfold In at a2; have a3 := h1; unfold In at a3; have a4 := i112; unfold In at a4; have a5 := i174; unfold In at a5; have a6 := t_add e174 j109_8 (in_c 1 rfl) rfl; have a7 := (in_c 1 rfl); unfold In at a7; have oc := oc_190_76; omega)) (show (x1).toInt.toNat ≤ (y109_11).toInt.toNat from (by have a0 := j109_8; unfold In at a0; have a1 := j75_3; unfold In at a1; have a2 := j109_2; unfold In at a2; have a3 := h1; unfold In at a3; have a4 := i112; unfold In at a4; have a5 := i174; unfold In at a5; have a6 := t_add e174 j109_8 (in_c 1 rfl) rfl; have a7 := (in_c 1 rfl); unfold In at a7; have oc := oc_190_76; omega)) (show (y109_11).toInt.toNat ≤ (x2).toInt.toNat from (by have a0 := j109_8; unfold In at a0; have a1 := j75_3; unfold In at a1; have a2 := j109_2; unfold In at a2; have a3 := h1; unfold In at a3; have a4 := i112; unfold In at a4; have a5 := i174; unfold In at a5; have a6 := t_add e174 j109_8 (in_c 1 rfl) rfl; have a7 := (in_c 1 rfl); unfold In at a7; have oc := oc_190_76; omega)) (Or.inl (show (y109_11).toInt.toNat = (x2).toInt.toNat from (by have a0 := j109_8; unfold In at a0; have a1 := j75_3; unfold In at a1; have a2 := j109_2; unfold In at a2; have a3 := h1; unfold In at a3; have a4 := i112; unfold In at a4; have a5 := i174; unfold In at a5; have a6 := t_add e174 j109_8 (in_c 1 rfl) rfl; have a7 := (in_c 1 rfl); unfold In at a7; have oc := oc_190_76; omega))) (show (z174).toInt.toNat = (y75_8).toInt.toNat + 1 from (by have a0 := j109_8; unfold In at a0; have a1 := j75_3; unfold In at a1; have a2 := j109_2; unfold In at a2; have a3 := h1; unfold In at a3; have a4 := i112; unfold In at a4; have a5 := i174; unfold In at a5; have a6 := t_add e174 j109_8 (in_c 1 rfl) rfl; have a7 := (in_c 1 rfl); unfold In at a7; have oc := oc_190_76; omega)) | exact pvj_e g109_1 (show (x1).toInt.toNat < (y75_8).toInt.toNat from (by have a0 := j109_8; unfold In at a0; have a1 := j75_3; unfold In at a1; have a2 := j109_2; unfold In at a2; have a3 := h1; unfold In at a3; have a4 := i112; unfold In at a4; have a5 := i174; unfold In at a5; have a6 := t_add e174 j109_8 (in_c 1 rfl) rfl; have a7 := (in_c 1 rfl); unfold In at a7; have oc := oc_190_76; omega)) (show (x1).toInt.toNat ≤ (y109_11).toInt.toNat from (by have a0 := j109_8; unfold In at a0; have a1 := j75_3; unfold In at a1; have a2 := j109_2; unfold In at a2; have a3 := h1; unfold In at a3; have a4 := i112; unfold In at a4; have a5 := i174; unfold In at a5; have a6 := t_add e174 j109_8 (in_c 1 rfl) rfl; have a7 := (in_c 1 rfl); unfold In at a7; have oc := oc_190_76; omega)) (show (y109_11).toInt.toNat ≤ (x2).toInt.toNat from (by have a0 := j109_8; unfold In at a0; have a1 := j75_3; unfold In at a1; have a2 := j109_2; unfold In at a2; have a3 := h1; unfold In at a3; have a4 := i112; unfold In at a4; have a5 := i174; unfold In at a5; have a6 := t_add e174 j109_8 (in_c 1 rfl) rfl; have a7 := (in_c 1 rfl); unfold In at a7; have oc := oc_190_76; omega)) (Or.inr (by rw [← g109_2]; have a0 := j109_8; unfold In at a0; have a1 := j75_3; unfold In at a1; have a2 := j109_2; unfold In at a2; have a3 := h1; unfold In at a3; have a4 := i112; unfold In at a4; have a5 := i174; unfold In at a5; have a6 := t_add e174 j109_8 (in_c 1 rfl) rfl; have a7 := (in_c 1 rfl); unfold In at a7; have oc := oc_190_76; omega)) (show (z174).toInt.toNat = (y75_8).toInt.toNat + 1 from (by have a0 := j109_8; unfold In at a0; have a1 := j75_3; unfold In at a1; have a2 := j109_2; unfold In at a2; have a3 := h1; unfold In at a3; have a4 := i112; unfold In at a4; have a5 := i174; unfold In at a5; have a6 := t_add e174 j109_8 (in_c 1 rfl) rfl; have a7 := (in_c 1 rfl); unfold In at a7; have oc := oc_190_76; omega))
              have n75c : (y75_4).toInt = gat (swf (s.2.1 85) (y75_3).toNatClampNeg (x1).toNatClampNeg) (x1).toNatClampNeg (x1).toNatClampNeg := by exact g75_2
              have n75d : MC (gat (swf (s.2.1 85) (y75_3).toNatClampNeg (x1).toNatClampNeg) (x1).toNatClampNeg (x1).toNatClampNeg * (y75_6).toInt) 1 := by exact g75_3
              have n75e : (0 ≤ (y75_6).toInt ∧ (y75_6).toInt < 1000000007) := by exact g75_4
              have n75f : ((x1).toInt ≤ (y75_3).toInt ∧ (y75_3).toInt < (x2).toInt) := by exact g75_5
              exact gg_w (by omega) (gg_f (gf_cons rfl (gf_cons rfl (gf_cons rfl (gf_cons rfl (gf_cons rfl (gf_cons rfl (gf_cons rfl gf_nil))))))) (ih75 sc109 y75_3 y75_4 y75_6 z174 hIc109 hFc109 (in_w 0 30 j75_3 rfl) (in_w 1 31 i174 rfl) n75 n75a n75b n75c n75d n75e n75f (m_up mm75 (t_add e174 j109_8 (in_c 1 rfl) rfl) (in_w 1 1 (in_c 1 rfl) rfl))))
            · skip
              have c119a := lc_ne e118 c119
              refine g_aload_n 123 (gd rfl) rfl rfl ?_
              refine g_getA (q2 := 85) 126 (gd rfl) rfl rfl rfl rfl ?_
              refine g_iload 128 (gd rfl) rfl rfl ?_
              refine g_bipush 32 130 (gd rfl) rfl rfl ?_
              refine g_imul 131 (gd rfl) rfl (fun z130 e130 => ?_)
              have i130 := in_mulc 32 32 960 (Or.inr e130) j109_8 rfl rfl
              refine g_iload 133 (gd rfl) rfl rfl ?_
              refine g_iadd 134 (gd rfl) rfl (fun z133 e133 => ?_)
              have i133 := in_add 32 990 e133 i130 i112 rfl rfl
              refine g_aload_n 135 (gd rfl) rfl rfl ?_
              refine g_getA (q2 := 85) 138 (gd rfl) rfl rfl rfl rfl ?_
              refine g_iload 140 (gd rfl) rfl rfl ?_
              refine g_bipush 32 142 (gd rfl) rfl rfl ?_
              refine g_imul 143 (gd rfl) rfl (fun z142 e142 => ?_)
              have i142 := in_mulc 32 32 960 (Or.inr e142) j109_8 rfl rfl
              refine g_iload 145 (gd rfl) rfl rfl ?_
              refine g_iadd 146 (gd rfl) rfl (fun z145 e145 => ?_)
              have i145 := in_add 32 990 e145 i142 i112 rfl rfl
              refine g_laload 147 (gd rfl) rfl (n := 1024) rfl (in_ix i145 rfl) (fun z146 e146 => ?_)
              refine g_lload 149 (gd rfl) rfl rfl ?_
              refine g_aload_n 150 (gd rfl) rfl rfl ?_
              refine g_getA (q2 := 85) 153 (gd rfl) rfl rfl rfl rfl ?_
              refine g_iload_n 154 (gd rfl) rfl rfl ?_
              refine g_bipush 32 156 (gd rfl) rfl rfl ?_
              refine g_imul 157 (gd rfl) rfl (fun z156 e156 => ?_)
              have i156 := in_mulc 32 0 960 (Or.inr e156) h1 rfl rfl
              refine g_iload 159 (gd rfl) rfl rfl ?_
              refine g_iadd 160 (gd rfl) rfl (fun z159 e159 => ?_)
              have i159 := in_add 0 990 e159 i156 i112 rfl rfl
              refine g_laload 161 (gd rfl) rfl (n := 1024) rfl (in_ix i159 rfl) (fun z160 e160 => ?_)
              refine g_lmul 162 (gd rfl) rfl (fun z161 e161 => ?_)
              refine g_ladd 163 (gd rfl) rfl (fun z162 e162 => ?_)
              refine g_ldc2_w 1000000007 166 (gd rfl) rfl rfl ?_
              refine g_lrem 167 (gd rfl) rfl (by decide) (fun z166 e166 => ?_)
              have i166 := l_rem (-1000000006) 1000000006 e166 rfl
              refine g_lastore 168 (gd rfl) rfl (n := 1024) rfl (in_ix i133 rfl) ?_
              have hI167 := inv_sL (q := 85) (j := z133.toNatClampNeg) (x := z166) hIc109 rfl (l_rng z166)
              refine g_iinc 171 (gd rfl) rfl rfl (Nat.le_of_ble_eq_true rfl) (fun z168 e168 => ?_)
              have i168 := in_add 1 31 e168 i112 (in_c 1 rfl) rfl rfl
              refine g_goto 109 (gd rfl) rfl ?_
              have n109 : (x1).toInt ≤ (z168).toInt := by have a0 := j109_8; unfold In at a0; have a1 := j75_3; unfold In at a1; have a2 := j109_2; unfold In at a2; have a3 := h1; unfold In at a3; have a4 := i112; unfold In at a4; have a5 := i168; unfold In at a5; have a6 := t_add e168 i112 (in_c 1 rfl) rfl; have a7 := (in_c 1 rfl); unfold In at a7; have a8 := i159; unfold In at a8; have a9 := t_add e159 i156 i112 rfl; have a10 := i156; unfold In at a10; have a11 := (t_mulc 32 (Or.inr e156) h1 rfl).1; have a12 := i145; unfold In at a12; have a13 := t_add e145 i142 i112 rfl; have a14 := i142; unfold In at a14; have a15 := (t_mulc 32 (Or.inr e142) j109_8 rfl).1; have a16 := i133; unfold In at a16; have a17 := t_add e133 i130 i112 rfl; have a18 := i130; unfold In at a18; have a19 := (t_mulc 32 (Or.inr e130) j109_8 rfl).1; have oc := oc_190_76; omega
              have n109a : (z168).toInt ≤ (x2).toInt := by have a0 := j109_8; unfold In at a0; have a1 := j75_3; unfold In at a1; have a2 := j109_2; unfold In at a2; have a3 := h1; unfold In at a3; have a4 := i112; unfold In at a4; have a5 := i168; unfold In at a5; have a6 := t_add e168 i112 (in_c 1 rfl) rfl; have a7 := (in_c 1 rfl); unfold In at a7; have a8 := i159; unfold In at a8; have a9 := t_add e159 i156 i112 rfl; have a10 := i156; unfold In at a10; have a11 := (t_mulc 32 (Or.inr e156) h1 rfl).1; have a12 := i145; unfold In at a12; have a13 := t_add e145 i142 i112 rfl; have a14 := i142; unfold In at a14; have a15 := (t_mulc 32 (Or.inr e142) j109_8 rfl).1; have a16 := i133; unfold In at a16; have a17 := t_add e133 i130 i112 rfl; have a18 := i130; unfold In at a18; have a19 := (t_mulc 32 (Or.inr e130) j109_8 rfl).1; have oc := oc_190_76; omega
              have n109b : GRD (((sL sc109 85 z133.toNatClampNeg z166)).2.1 85) := by have cb := g75_5; have kp : (Int64.ofInt 1000000007).toInt = 1000000007 := rfl; have r1 := (show (z146).toInt = gat (sc109.2.1 85) (y75_8).toNatClampNeg (y109_11).toNatClampNeg from congrArg Int64.toInt (e146.trans (congrArg (sc109.2.1 85) (show z145.toNatClampNeg = 32 * (y75_8).toNatClampNeg + (y109_11).toNatClampNeg from (by show z145.toInt.toNat = 32 * (y75_8).toInt.toNat + (y109_11).toInt.toNat; have a0 := j109_8; unfold In at a0; have a1 := j75_3; unfold In at a1; have a2 := j109_2; unfold In at a2; have a3 := h1; unfold In at a3; have a4 := i112; unfold In at a4; have a5 := i168; unfold In at a5; have a6 := t_add e168 i112 (in_c 1 rfl) rfl; have a7 := (in_c 1 rfl); unfold In at a7; have a8 := i159; unfold In at a8; have a9 := t_add e159 i156 i112 rfl; have a10 := i156; unfold In at a10; have a11 := (t_mulc 32 (Or.inr e156) h1 rfl).1; have a12 := i145; unfold In at a12; have a13 := t_add e145 i142 i112 rfl; have a14 := i142; unfold In at a14; have a15 := (t_mulc 32 (Or.inr e142) j109_8 rfl).1; have a16 := i133; unfold In at a16; have a17 := t_add e133 i130 i112 rfl; have a18 := i130; unfold In at a18; have a19 := (t_mulc 32 (Or.inr e130) j109_8 rfl).1; have oc := oc_190_76; omega))))); have r2 := (show (z160).toInt = gat (sc109.2.1 85) (x1).toNatClampNeg (y109_11).toNatClampNeg from congrArg Int64.toInt (e160.trans (congrArg (sc109.2.1 85) (show z159.toNatClampNeg = 32 * (x1).toNatClampNeg + (y109_11).toNatClampNeg from (by show z159.toInt.toNat = 32 * (x1).toInt.toNat + (y109_11).toInt.toNat; have a0 := j109_8; unfold In at a0; have a1 := j75_3; unfold In at a1; have a2 := j109_2; unfold In at a2; have a3 := h1; unfold In at a3; have a4 := i112; unfold In at a4; have a5 := i168; unfold In at a5; have a6 := t_add e168 i112 (in_c 1 rfl) rfl; have a7 := (in_c 1 rfl); unfold In at a7; have a8 := i159; unfold In at a8; have a9 := t_add e159 i156 i112 rfl; have a10 := i156; unfold In at a10; have a11 := (t_mulc 32 (Or.inr e156) h1 rfl).1; have a12 := i145; unfold In at a12; have a13 := t_add e145 i142 i112 rfl; have a14 := i142; unfold In at a14; have a15 := (t_mulc 32 (Or.inr e142) j109_8 rfl).1; have a16 := i133; unfold In at a16; have a17 := t_add e133 i130 i112 rfl; have a18 := i130; unfold In at a18; have a19 := (t_mulc 32 (Or.inr e130) j109_8 rfl).1; have oc := oc_190_76; omega))))); have b1 := grd_g g109_0 (i := (y75_8).toNatClampNeg) (j := (y109_11).toNatClampNeg) (show (y75_8).toInt.toNat < 32 from (by have a0 := j109_8; unfold In at a0; have a1 := j75_3; unfold In at a1; have a2 := j109_2; unfold In at a2; have a3 := h1; unfold In at a3; have a4 := i112; unfold In at a4; have a5 := i168; unfold In at a5; have a6 := t_add e168 i112 (in_c 1 rfl) rfl; have a7 := (in_c 1 rfl); unfold In at a7; have a8 := i159; unfold In at a8; have a9 := t_add e159 i156 i112 rfl; have a10 := i156; unfold In at a10; have a11 := (t_mulc 32 (Or.inr e156) h1 rfl).1; have a12 := i145; unfold In at a12; have a13 := t_add e145 i142 i112 rfl; have a14 := i142; unfold In at a14; have a15 := (t_mulc 32 (Or.inr e142) j109_8 rfl).1; have a16 := i133; unfold In at a16; have a17 := t_add e133 i130 i112 rfl; have a18 := i130; unfold In at a18; have a19 := (t_mulc 32 (Or.inr e130) j109_8 rfl).1; have oc := oc_190_76; omega)) (show (y109_11).toInt.toNat < 32 from (by have a0 := j109_8; unfold In at a0; have a1 := j75_3; unfold In at a1; have a2 := j109_2; unfold In at a2; have a3 := h1; unfold In at a3; have a4 := i112; unfold In at a4; have a5 := i168; unfold In at a5; have a6 := t_add e168 i112 (in_c 1 rfl) rfl; have a7 := (in_c 1 rfl); unfold In at a7; have a8 := i159; unfold In at a8; have a9 := t_add e159 i156 i112 rfl; have a10 := i156; unfold In at a10; have a11 := (t_mulc 32 (Or.inr e156) h1 rfl).1; have a12 := i145; unfold In at a12; have a13 := t_add e145 i142 i112 rfl; have a14 := i142; unfold In at a14; have a15 := (t_mulc 32 (Or.inr e142) j109_8 rfl).1; have a16 := i133; unfold In at a16; have a17 := t_add e133 i130 i112 rfl; have a18 := i130; unfold In at a18; have a19 := (t_mulc 32 (Or.inr e130) j109_8 rfl).1; have oc := oc_190_76; omega)); have b2 := grd_g g109_0 (i := (x1).toNatClampNeg) (j := (y109_11).toNatClampNeg) (show (x1).toInt.toNat < 32 from (by have a0 := j109_8; unfold In at a0; have a1 := j75_3; unfold In at a1; have a2 := j109_2; unfold In at a2; have a3 := h1; unfold In at a3; have a4 := i112; unfold In at a4; have a5 := i168; unfold In at a5; have a6 := t_add e168 i112 (in_c 1 rfl) rfl; have a7 := (in_c 1 rfl); unfold In at a7; have a8 := i159; unfold In at a8; have a9 := t_add e159 i156 i112 rfl; have a10 := i156; unfold In at a10; have a11 := (t_mulc 32 (Or.inr e156) h1 rfl).1; have a12 := i145; unfold In at a12; have a13 := t_add e145 i142 i112 rfl; have a14 := i142; unfold In at a14; have a15 := (t_mulc 32 (Or.inr e142) j109_8 rfl).1; have a16 := i133; unfold In at a16; have a17 := t_add e133 i130 i112 rfl; have a18 := i130; unfold In at a18; have a19 := (t_mulc 32 (Or.inr e130) j109_8 rfl).1; have oc := oc_190_76; omega)) (show (y109_11).toInt.toNat < 32 from (by have a0 := j109_8; unfold In at a0; have a1 := j75_3; unfold In at a1; have a2 := j109_2; unfold In at a2; have a3 := h1; unfold In at a3; have a4 := i112; unfold In at a4; have a5 := i168; unfold In at a5; have a6 := t_add e168 i112 (in_c 1 rfl) rfl; have a7 := (in_c 1 rfl); unfold In at a7; have a8 := i159; unfold In at a8; have a9 := t_add e159 i156 i112 rfl; have a10 := i156; unfold In at a10; have a11 := (t_mulc 32 (Or.inr e156) h1 rfl).1; have a12 := i145; unfold In at a12; have a13 := t_add e145 i142 i112 rfl; have a14 := i142; unfold In at a14; have a15 := (t_mulc 32 (Or.inr e142) j109_8 rfl).1; have a16 := i133; unfold In at a16; have a17 := t_add e133 i130 i112 rfl; have a18 := i130; unfold In at a18; have a19 := (t_mulc 32 (Or.inr e130) j109_8 rfl).1; have oc := oc_190_76; omega)); have tb : 0 ≤ (y109_9).toInt ∧ (y109_9).toInt < 1000000007 := (by rw [g109_2]; unfold tms; omega); rw [← r1] at b1; rw [← r2] at b2; have mb := mul_b (a := (y109_9).toInt) (b := (z160).toInt) ⟨tb.1, by omega⟩ ⟨b2.1, by omega⟩; have t161 := lmul_t e161 (by omega) (by omega); have t162 := ladd_t e162 (by omega) (by omega); have t166 := lrem_v e166 (by omega) (by omega); rw [sL_w]; exact grd_u g109_0 ⟨by omega, by omega⟩
              have n109c : PVJ (swf (s.2.1 85) (y75_3).toNatClampNeg (x1).toNatClampNeg) (((sL sc109 85 z133.toNatClampNeg z166)).2.1 85) (x1).toNatClampNeg (x2).toNatClampNeg (y75_8).toNatClampNeg (z168).toNatClampNeg (y75_6).toInt := by have cb := g75_5; have kp : (Int64.ofInt 1000000007).toInt = 1000000007 := rfl; have r1 := (show (z146).toInt = gat (sc109.2.1 85) (y75_8).toNatClampNeg (y109_11).toNatClampNeg from congrArg Int64.toInt (e146.trans (congrArg (sc109.2.1 85) (show z145.toNatClampNeg = 32 * (y75_8).toNatClampNeg + (y109_11).toNatClampNeg from (by show z145.toInt.toNat = 32 * (y75_8).toInt.toNat + (y109_11).toInt.toNat; have a0 := j109_8; unfold In at a0; have a1 := j75_3; unfold In at a1; have a2 := j109_2; unfold In at a2; have a3 := h1; unfold In at a3; have a4 := i112; unfold In at a4; have a5 := i168; unfold In at a5; have a6 := t_add e168 i112 (in_c 1 rfl) rfl; have a7 := (in_c 1 rfl); unfold In at a7; have a8 := i159; unfold In at a8; have a9 := t_add e159 i156 i112 rfl; have a10 := i156; unfold In at a10; have a11 := (t_mulc 32 (Or.inr e156) h1 rfl).1; have a12 := i145; unfold In at a12; have a13 := t_add e145 i142 i112 rfl; have a14 := i142; unfold In at a14; have a15 := (t_mulc 32 (Or.inr e142) j109_8 rfl).1; have a16 := i133; unfold In at a16; have a17 := t_add e133 i130 i112 rfl; have a18 := i130; unfold In at a18; have a19 := (t_mulc 32 (Or.inr e130) j109_8 rfl).1; have oc := oc_190_76; omega))))); have r2 := (show (z160).toInt = gat (sc109.2.1 85) (x1).toNatClampNeg (y109_11).toNatClampNeg from congrArg Int64.toInt (e160.trans (congrArg (sc109.2.1 85) (show z159.toNatClampNeg = 32 * (x1).toNatClampNeg + (y109_11).toNatClampNeg from (by show z159.toInt.toNat = 32 * (x1).toInt.toNat + (y109_11).toInt.toNat; have a0 := j109_8; unfold In at a0; have a1 := j75_3; unfold In at a1; have a2 := j109_2; unfold In at a2; have a3 := h1; unfold In at a3; have a4 := i112; unfold In at a4; have a5 := i168; unfold In at a5; have a6 := t_add e168 i112 (in_c 1 rfl) rfl; have a7 := (in_c 1 rfl); unfold In at a7; have a8 := i159; unfold In at a8; have a9 := t_add e159 i156 i112 rfl; have a10 := i156; unfold In at a10; have a11 := (t_mulc 32 (Or.inr e156) h1 rfl).1; have a12 := i145; unfold In at a12; have a13 := t_add e145 i142 i112 rfl; have a14 := i142; unfold In at a14; have a15 := (t_mulc 32 (Or.inr e142) j109_8 rfl).1; have a16 := i133; unfold In at a16; have a17 := t_add e133 i130 i112 rfl; have a18 := i130; unfold In at a18; have a19 := (t_mulc 32 (Or.inr e130) j109_8 rfl).1; have oc := oc_190_76; omega))))); have b1 := grd_g g109_0 (i := (y75_8).toNatClampNeg) (j := (y109_11).toNatClampNeg) (show (y75_8).toInt.toNat < 32 from (by have a0 := j109_8; unfold In at a0; have a1 := j75_3; unfold In at a1; have a2 := j109_2; unfold In at a2; have a3 := h1; unfold In at a3; have a4 := i112; unfold In at a4; have a5 := i168; unfold In at a5; have a6 := t_add e168 i112 (in_c 1 rfl) rfl; have a7 := (in_c 1 rfl); unfold In at a7; have a8 := i159; unfold In at a8; have a9 := t_add e159 i156 i112 rfl; have a10 := i156; unfold In at a10; have a11 := (t_mulc 32 (Or.inr e156) h1 rfl).1; have a12 := i145; unfold In at a12; have a13 := t_add e145 i142 i112 rfl; have a14 := i142; unfold In at a14; have a15 := (t_mulc 32 (Or.inr e142) j109_8 rfl).1; have a16 := i133; unfold In at a16; have a17 := t_add e133 i130 i112 rfl; have a18 := i130; unfold In at a18; have a19 := (t_mulc 32 (Or.inr e130) j109_8 rfl).1; have oc := oc_190_76; omega)) (show (y109_11).toInt.toNat < 32 from (by have a0 := j109_8; unfold In at a0; have a1 := j75_3; unfold In at a1; have a2 := j109_2; unfold In at a2; have a3 := h1; unfold In at a3; have a4 := i112; unfold In at a4; have a5 := i168; unfold In at a5; have a6 := t_add e168 i112 (in_c 1 rfl) rfl; have a7 := (in_c 1 rfl); unfold In at a7; have a8 := i159; unfold In at a8; have a9 := t_add e159 i156 i112 rfl; have a10 := i156; unfold In at a10; have a11 := (t_mulc 32 (Or.inr e156) h1 rfl).1; have a12 := i145; unfold In at a12; have a13 := t_add e145 i142 i112 rfl; have a14 := i142; unfold In at a14; have a15 := (t_mulc 32 (Or.inr e142) j109_8 rfl).1; have a16 := i133; unfold In at a16; have a17 := t_add e133 i130 i112 rfl; have a18 := i130; unfold In at a18; have a19 := (t_mulc 32 (Or.inr e130) j109_8 rfl).1; have oc := oc_190_76; omega)); have b2 := grd_g g109_0 (i := (x1).toNatClampNeg) (j := (y109_11).toNatClampNeg) (show (x1).toInt.toNat < 32 from (by have a0 := j109_8; unfold In at a0; have a1 := j75_3; unfold In at a1; have a2 := j109_2; unfold In at a2; have a3 := h1; unfold In at a3; have a4 := i112; unfold In at a4; have a5 := i168; unfold In at a5; have a6 := t_add e168 i112 (in_c 1 rfl) rfl; have a7 := (in_c 1 rfl); unfold In at a7; have a8 := i159; unfold In at a8; have a9 := t_add e159 i156 i112 rfl; have a10 := i156; unfold In at a10; have a11 := (t_mulc 32 (Or.inr e156) h1 rfl).1; have a12 := i145; unfold In at a12; have a13 := t_add e145 i142 i112 rfl; have a14 := i142; unfold In at a14; have a15 := (t_mulc 32 (Or.inr e142) j109_8 rfl).1; have a16 := i133; unfold In at a16; have a17 := t_add e133 i130 i112 rfl; have a18 := i130; unfold In at a18; have a19 := (t_mulc 32 (Or.inr e130) j109_8 rfl).1; have oc := oc_190_76; omega)) (show (y109_11).toInt.toNat < 32 from (by have a0 := j109_8; unfold In at a0; have a1 := j75_3; unfold In at a1; have a2 := j109_2; unfold In at a2; have a3 := h1; unfold In at a3; have a4 := i112; unfold In at a4; have a5 := i168; unfold In at a5; have a6 := t_add e168 i112 (in_c 1 rfl) rfl; have a7 := (in_c 1 rfl); unfold In at a7; have a8 := i159; unfold In at a8; have a9 := t_add e159 i156 i112 rfl; have a10 := i156; unfold In at a10; have a11 := (t_mulc 32 (Or.inr e156) h1 rfl).1; have a12 := i145; unfold In at a12; have a13 := t_add e145 i142 i112 rfl; have a14 := i142; unfold In at a14; have a15 := (t_mulc 32 (Or.inr e142) j109_8 rfl).1; have a16 := i133; unfold In at a16; have a17 := t_add e133 i130 i112 rfl; have a18 := i130; unfold In at a18; have a19 := (t_mulc 32 (Or.inr e130) j109_8 rfl).1; have oc := oc_190_76; omega)); have tb : 0 ≤ (y109_9).toInt ∧ (y109_9).toInt < 1000000007 := (by rw [g109_2]; unfold tms; omega); rw [← r1] at b1; rw [← r2] at b2; have mb := mul_b (a := (y109_9).toInt) (b := (z160).toInt) ⟨tb.1, by omega⟩ ⟨b2.1, by omega⟩; have t161 := lmul_t e161 (by omega) (by omega); have t162 := ladd_t e162 (by omega) (by omega); have t166 := lrem_v e166 (by omega) (by omega); rw [sL_w, show (z168).toNatClampNeg = (y109_11).toNatClampNeg + 1 from (by show (z168).toInt.toNat = (y109_11).toInt.toNat + 1; have a0 := j109_8; unfold In at a0; have a1 := j75_3; unfold In at a1; have a2 := j109_2; unfold In at a2; have a3 := h1; unfold In at a3; have a4 := i112; unfold In at a4; have a5 := i168; unfold In at a5; have a6 := t_add e168 i112 (in_c 1 rfl) rfl; have a7 := (in_c 1 rfl); unfold In at a7; have a8 := i159; unfold In at a8; have a9 := t_add e159 i156 i112 rfl; have a10 := i156; unfold In at a10; have a11 := (t_mulc 32 (Or.inr e156) h1 rfl).1; have a12 := i145; unfold In at a12; have a13 := t_add e145 i142 i112 rfl; have a14 := i142; unfold In at a14; have a15 := (t_mulc 32 (Or.inr e142) j109_8 rfl).1; have a16 := i133; unfold In at a16; have a17 := t_add e133 i130 i112 rfl; have a18 := i130; unfold In at a18; have a19 := (t_mulc 32 (Or.inr e130) j109_8 rfl).1; have oc := oc_190_76; omega)]; exact pvj_s g109_1 (show (x1).toInt.toNat < (y75_8).toInt.toNat from (by have a0 := j109_8; unfold In at a0; have a1 := j75_3; unfold In at a1; have a2 := j109_2; unfold In at a2; have a3 := h1; unfold In at a3; have a4 := i112; unfold In at a4; have a5 := i168; unfold In at a5; have a6 := t_add e168 i112 (in_c 1 rfl) rfl; have a7 := (in_c 1 rfl); unfold In at a7; have a8 := i159; unfold In at a8; have a9 := t_add e159 i156 i112 rfl; have a10 := i156; unfold In at a10; have a11 := (t_mulc 32 (Or.inr e156) h1 rfl).1; have a12 := i145; unfold In at a12; have a13 := t_add e145 i142 i112 rfl; have a14 := i142; unfold In at a14; have a15 := (t_mulc 32 (Or.inr e142) j109_8 rfl).1; have a16 := i133; unfold In at a16; have a17 := t_add e133 i130 i112 rfl; have a18 := i130; unfold In at a18; have a19 := (t_mulc 32 (Or.inr e130) j109_8 rfl).1; have oc := oc_190_76; omega)) (show (y75_8).toInt.toNat < 32 from (by have a0 := j109_8; unfold In at a0; have a1 := j75_3; unfold In at a1; have a2 := j109_2; unfold In at a2; have a3 := h1; unfold In at a3; have a4 := i112; unfold In at a4; have a5 := i168; unfold In at a5; have a6 := t_add e168 i112 (in_c 1 rfl) rfl; have a7 := (in_c 1 rfl); unfold In at a7; have a8 := i159; unfold In at a8; have a9 := t_add e159 i156 i112 rfl; have a10 := i156; unfold In at a10; have a11 := (t_mulc 32 (Or.inr e156) h1 rfl).1; have a12 := i145; unfold In at a12; have a13 := t_add e145 i142 i112 rfl; have a14 := i142; unfold In at a14; have a15 := (t_mulc 32 (Or.inr e142) j109_8 rfl).1; have a16 := i133; unfold In at a16; have a17 := t_add e133 i130 i112 rfl; have a18 := i130; unfold In at a18; have a19 := (t_mulc 32 (Or.inr e130) j109_8 rfl).1; have oc := oc_190_76; omega)) (show (y109_11).toInt.toNat < 32 from (by have a0 := j109_8; unfold In at a0; have a1 := j75_3; unfold In at a1; have a2 := j109_2; unfold In at a2; have a3 := h1; unfold In at a3; have a4 := i112; unfold In at a4; have a5 := i168; unfold In at a5; have a6 := t_add e168 i112 (in_c 1 rfl) rfl; have a7 := (in_c 1 rfl); unfold In at a7; have a8 := i159; unfold In at a8; have a9 := t_add e159 i156 i112 rfl; have a10 := i156; unfold In at a10; have a11 := (t_mulc 32 (Or.inr e156) h1 rfl).1; have a12 := i145; unfold In at a12; have a13 := t_add e145 i142 i112 rfl; have a14 := i142; unfold In at a14; have a15 := (t_mulc 32 (Or.inr e142) j109_8 rfl).1; have a16 := i133; unfold In at a16; have a17 := t_add e133 i130 i112 rfl; have a18 := i130; unfold In at a18; have a19 := (t_mulc 32 (Or.inr e130) j109_8 rfl).1; have oc := oc_190_76; omega)) (show (x1).toInt.toNat ≤ (y109_11).toInt.toNat from (by have a0 := j109_8; unfold In at a0; have a1 := j75_3; unfold In at a1; have a2 := j109_2; unfold In at a2; have a3 := h1; unfold In at a3; have a4 := i112; unfold In at a4; have a5 := i168; unfold In at a5; have a6 := t_add e168 i112 (in_c 1 rfl) rfl; have a7 := (in_c 1 rfl); unfold In at a7; have a8 := i159; unfold In at a8; have a9 := t_add e159 i156 i112 rfl; have a10 := i156; unfold In at a10; have a11 := (t_mulc 32 (Or.inr e156) h1 rfl).1; have a12 := i145; unfold In at a12; have a13 := t_add e145 i142 i112 rfl; have a14 := i142; unfold In at a14; have a15 := (t_mulc 32 (Or.inr e142) j109_8 rfl).1; have a16 := i133; unfold In at a16; have a17 := t_add e133 i130 i112 rfl; have a18 := i130; unfold In at a18; have a19 := (t_mulc 32 (Or.inr e130) j109_8 rfl).1; have oc := oc_190_76; omega)) (show z133.toNatClampNeg = 32 * (y75_8).toNatClampNeg + (y109_11).toNatClampNeg from (by show z133.toInt.toNat = 32 * (y75_8).toInt.toNat + (y109_11).toInt.toNat; have a0 := j109_8; unfold In at a0; have a1 := j75_3; unfold In at a1; have a2 := j109_2; unfold In at a2; have a3 := h1; unfold In at a3; have a4 := i112; unfold In at a4; have a5 := i168; unfold In at a5; have a6 := t_add e168 i112 (in_c 1 rfl) rfl; have a7 := (in_c 1 rfl); unfold In at a7; have a8 := i159; unfold In at a8; have a9 := t_add e159 i156 i112 rfl; have a10 := i156; unfold In at a10; have a11 := (t_mulc 32 (Or.inr e156) h1 rfl).1; have a12 := i145; unfold In at a12; have a13 := t_add e145 i142 i112 rfl; have a14 := i142; unfold In at a14; have a15 := (t_mulc 32 (Or.inr e142) j109_8 rfl).1; have a16 := i133; unfold In at a16; have a17 := t_add e133 i130 i112 rfl; have a18 := i130; unfold In at a18; have a19 := (t_mulc 32 (Or.inr e130) j109_8 rfl).1; have oc := oc_190_76; omega)) (by rw [t166, t162, t161, ← r1, ← r2, ← g109_2]; exact mc_e _)
              have n109d : (y109_9).toInt = tms (swf (s.2.1 85) (y75_3).toNatClampNeg (x1).toNatClampNeg) (y75_6).toInt (x1).toNatClampNeg (y75_8).toNatClampNeg := by exact g109_2
              exact gg_w (by omega) (gg_f (gf_cons rfl (gf_cons rfl (gf_cons rfl (gf_cons rfl (gf_cons rfl (gf_cons rfl (gf_cons rfl (gf_cons rfl (gf_cons rfl gf_nil))))))))) (ih109 (sL sc109 85 z133.toNatClampNeg z166) y109_9 z168 hI167 (fr_sL rfl hFc109) (in_w 2 31 j109_2 rfl) (in_w 1 30 j109_8 rfl) (in_w 0 31 i168 rfl) n109 n109a n109b n109c n109d (m_up mm109 (t_add e168 i112 (in_c 1 rfl) rfl) (in_w 1 1 (in_c 1 rfl) rfl))))
      refine g_iload 77 (gd rfl) rfl rfl ?_
      refine g_iload_n 78 (gd rfl) rfl rfl ?_
      refine g_cmp_ge 81 180 (gd rfl) rfl rfl (fun c78 => ?_) (fun c78 => ?_)
      · skip
        refine g_iload_n 181 (gd rfl) rfl rfl ?_
        refine g_iload_n 182 (gd rfl) rfl rfl ?_
        refine g_cmp_ne 185 190 (gd rfl) rfl rfl (fun c182 => ?_) (fun c182 => ?_)
        · skip
          refine g_ldc2_w 1000000007 193 (gd rfl) rfl rfl ?_
          refine g_lload 195 (gd rfl) rfl rfl ?_
          refine g_lsub 196 (gd rfl) rfl (fun z195 e195 => ?_)
          have n196 : PVP (s.2.1 85) ((sc75).2.1 85) (x1).toNatClampNeg (x2).toNatClampNeg (z195).toInt := by have cb := g75_5; have kp : (Int64.ofInt 1000000007).toInt = 1000000007 := rfl; have gx := grd_g (grd_w (a := (y75_3).toNatClampNeg) (b := (x1).toNatClampNeg) q_0 (show (y75_3).toInt.toNat < 32 from (by have a0 := h2; unfold In at a0; have a1 := h1; unfold In at a1; have a2 := j75_8; unfold In at a2; have a3 := j75_3; unfold In at a3; have oc := oc_190_76; omega)) (show (x1).toInt.toNat < 32 from (by have a0 := h2; unfold In at a0; have a1 := h1; unfold In at a1; have a2 := j75_8; unfold In at a2; have a3 := j75_3; unfold In at a3; have oc := oc_190_76; omega))) (show (x1).toInt.toNat < 32 from (by have a0 := h2; unfold In at a0; have a1 := h1; unfold In at a1; have a2 := j75_8; unfold In at a2; have a3 := j75_3; unfold In at a3; have oc := oc_190_76; omega)) (show (x1).toInt.toNat < 32 from (by have a0 := h2; unfold In at a0; have a1 := h1; unfold In at a1; have a2 := j75_8; unfold In at a2; have a3 := j75_3; unfold In at a3; have oc := oc_190_76; omega)); rw [← g75_2] at gx; have t195 := lsub_t e195 (by omega) (by omega); rw [kp] at t195; exact pvp_y g75_0 g75_1 (show (x2).toInt.toNat ≤ (y75_8).toInt.toNat from (by have a0 := h2; unfold In at a0; have a1 := h1; unfold In at a1; have a2 := j75_8; unfold In at a2; have a3 := j75_3; unfold In at a3; have oc := oc_190_76; omega)) (show (x2).toInt.toNat ≤ 32 from (by have a0 := h2; unfold In at a0; have a1 := h1; unfold In at a1; have a2 := j75_8; unfold In at a2; have a3 := j75_3; unfold In at a3; have oc := oc_190_76; omega)) (show (x1).toInt.toNat < (x2).toInt.toNat from (by have a0 := h2; unfold In at a0; have a1 := h1; unfold In at a1; have a2 := j75_8; unfold In at a2; have a3 := j75_3; unfold In at a3; have oc := oc_190_76; omega)) (show (x1).toInt.toNat ≤ (y75_3).toInt.toNat from (by have a0 := h2; unfold In at a0; have a1 := h1; unfold In at a1; have a2 := j75_8; unfold In at a2; have a3 := j75_3; unfold In at a3; have oc := oc_190_76; omega)) (show (y75_3).toInt.toNat < (x2).toInt.toNat from (by have a0 := h2; unfold In at a0; have a1 := h1; unfold In at a1; have a2 := j75_8; unfold In at a2; have a3 := j75_3; unfold In at a3; have oc := oc_190_76; omega)) (fun i j _ _ => rfl) g75_3 ⟨by omega, by omega⟩ (Or.inr ⟨fun h => by have h9 : (y75_3).toInt.toNat = (x1).toInt.toNat := h; have a0 := h2; unfold In at a0; have a1 := h1; unfold In at a1; have a2 := j75_8; unfold In at a2; have a3 := j75_3; unfold In at a3; have oc := oc_190_76; omega, by rw [t195, g75_2]⟩)
          exact g_lreturn (gd rfl) rfl (hP _ _ ⟨sc75, hIc75, hFc75, z195, rfl, rfl, n196⟩)
        · skip
          refine g_lload 187 (gd rfl) rfl rfl ?_
          refine g_goto 196 (gd rfl) rfl ?_
          have n196 : PVP (s.2.1 85) ((sc75).2.1 85) (x1).toNatClampNeg (x2).toNatClampNeg (y75_4).toInt := by have cb := g75_5; have kp : (Int64.ofInt 1000000007).toInt = 1000000007 := rfl; have gx := grd_g (grd_w (a := (y75_3).toNatClampNeg) (b := (x1).toNatClampNeg) q_0 (show (y75_3).toInt.toNat < 32 from (by have a0 := h2; unfold In at a0; have a1 := h1; unfold In at a1; have a2 := j75_8; unfold In at a2; have a3 := j75_3; unfold In at a3; have oc := oc_190_76; omega)) (show (x1).toInt.toNat < 32 from (by have a0 := h2; unfold In at a0; have a1 := h1; unfold In at a1; have a2 := j75_8; unfold In at a2; have a3 := j75_3; unfold In at a3; have oc := oc_190_76; omega))) (show (x1).toInt.toNat < 32 from (by have a0 := h2; unfold In at a0; have a1 := h1; unfold In at a1; have a2 := j75_8; unfold In at a2; have a3 := j75_3; unfold In at a3; have oc := oc_190_76; omega)) (show (x1).toInt.toNat < 32 from (by have a0 := h2; unfold In at a0; have a1 := h1; unfold In at a1; have a2 := j75_8; unfold In at a2; have a3 := j75_3; unfold In at a3; have oc := oc_190_76; omega)); rw [← g75_2] at gx;  exact pvp_y g75_0 g75_1 (show (x2).toInt.toNat ≤ (y75_8).toInt.toNat from (by have a0 := h2; unfold In at a0; have a1 := h1; unfold In at a1; have a2 := j75_8; unfold In at a2; have a3 := j75_3; unfold In at a3; have oc := oc_190_76; omega)) (show (x2).toInt.toNat ≤ 32 from (by have a0 := h2; unfold In at a0; have a1 := h1; unfold In at a1; have a2 := j75_8; unfold In at a2; have a3 := j75_3; unfold In at a3; have oc := oc_190_76; omega)) (show (x1).toInt.toNat < (x2).toInt.toNat from (by have a0 := h2; unfold In at a0; have a1 := h1; unfold In at a1; have a2 := j75_8; unfold In at a2; have a3 := j75_3; unfold In at a3; have oc := oc_190_76; omega)) (show (x1).toInt.toNat ≤ (y75_3).toInt.toNat from (by have a0 := h2; unfold In at a0; have a1 := h1; unfold In at a1; have a2 := j75_8; unfold In at a2; have a3 := j75_3; unfold In at a3; have oc := oc_190_76; omega)) (show (y75_3).toInt.toNat < (x2).toInt.toNat from (by have a0 := h2; unfold In at a0; have a1 := h1; unfold In at a1; have a2 := j75_8; unfold In at a2; have a3 := j75_3; unfold In at a3; have oc := oc_190_76; omega)) (fun i j _ _ => rfl) g75_3 ⟨by omega, by omega⟩ (Or.inl ⟨show (y75_3).toInt.toNat = (x1).toInt.toNat from (by have a0 := h2; unfold In at a0; have a1 := h1; unfold In at a1; have a2 := j75_8; unfold In at a2; have a3 := j75_3; unfold In at a3; have oc := oc_190_76; omega), g75_2⟩)
          exact g_lreturn (gd rfl) rfl (hP _ _ ⟨sc75, hIc75, hFc75, y75_4, rfl, rfl, n196⟩)
      · skip
        have i78 := r_lt1 1 30 c78 j75_8 h2 rfl
        have i78a := r_lt2 2 31 c78 j75_8 h2 rfl
        refine g_ldc2_w 1000000007 84 (gd rfl) rfl rfl ?_
        refine g_aload_n 85 (gd rfl) rfl rfl ?_
        refine g_getA (q2 := 85) 88 (gd rfl) rfl rfl rfl rfl ?_
        refine g_iload 90 (gd rfl) rfl rfl ?_
        refine g_bipush 32 92 (gd rfl) rfl rfl ?_
        refine g_imul 93 (gd rfl) rfl (fun z92 e92 => ?_)
        have i92 := in_mulc 32 32 960 (Or.inr e92) i78 rfl rfl
        refine g_iload_n 94 (gd rfl) rfl rfl ?_
        refine g_iadd 95 (gd rfl) rfl (fun z94 e94 => ?_)
        have i94 := in_add 32 990 e94 i92 h1 rfl rfl
        refine g_laload 96 (gd rfl) rfl (n := 1024) rfl (in_ix i94 rfl) (fun z95 e95 => ?_)
        refine g_lsub 97 (gd rfl) rfl (fun z96 e96 => ?_)
        refine g_lload 99 (gd rfl) rfl rfl ?_
        refine g_lmul 100 (gd rfl) rfl (fun z99 e99 => ?_)
        refine g_ldc2_w 1000000007 103 (gd rfl) rfl rfl ?_
        refine g_lrem 104 (gd rfl) rfl (by decide) (fun z103 e103 => ?_)
        have i103 := l_rem (-1000000006) 1000000006 e103 rfl
        refine g_lstore 106 (gd rfl) rfl (Nat.le_of_ble_eq_true rfl) ?_
        refine g_iload_n 107 (gd rfl) rfl rfl ?_
        refine g_istore 109 (gd rfl) rfl (Nat.le_of_ble_eq_true rfl) ?_
        have n109 : (x1).toInt ≤ (x1).toInt := by have a0 := i78a; unfold In at a0; have a1 := h1; unfold In at a1; have a2 := i78; unfold In at a2; have a3 := j75_3; unfold In at a3; have a4 := i94; unfold In at a4; have a5 := t_add e94 i92 h1 rfl; have a6 := i92; unfold In at a6; have a7 := (t_mulc 32 (Or.inr e92) i78 rfl).1; have oc := oc_190_76; omega
        have n109a : (x1).toInt ≤ (x2).toInt := by have a0 := i78a; unfold In at a0; have a1 := h1; unfold In at a1; have a2 := i78; unfold In at a2; have a3 := j75_3; unfold In at a3; have a4 := i94; unfold In at a4; have a5 := t_add e94 i92 h1 rfl; have a6 := i92; unfold In at a6; have a7 := (t_mulc 32 (Or.inr e92) i78 rfl).1; have oc := oc_190_76; omega
        have n109b : GRD ((sc75).2.1 85) := by exact g75_0
        have n109c : PVJ (swf (s.2.1 85) (y75_3).toNatClampNeg (x1).toNatClampNeg) ((sc75).2.1 85) (x1).toNatClampNeg (x2).toNatClampNeg (y75_8).toNatClampNeg (x1).toNatClampNeg (y75_6).toInt := by exact g75_1
        have n109d : (z103).toInt = tms (swf (s.2.1 85) (y75_3).toNatClampNeg (x1).toNatClampNeg) (y75_6).toInt (x1).toNatClampNeg (y75_8).toNatClampNeg := by have kp : (Int64.ofInt 1000000007).toInt = 1000000007 := rfl; have e9 : (z95).toInt = gat (swf (s.2.1 85) (y75_3).toNatClampNeg (x1).toNatClampNeg) (y75_8).toNatClampNeg (x1).toNatClampNeg := (congrArg Int64.toInt (e95.trans (congrArg (sc75.2.1 85) (show z94.toNatClampNeg = 32 * (y75_8).toNatClampNeg + (x1).toNatClampNeg from (by show z94.toInt.toNat = 32 * (y75_8).toInt.toNat + (x1).toInt.toNat; have a0 := i78a; unfold In at a0; have a1 := h1; unfold In at a1; have a2 := i78; unfold In at a2; have a3 := j75_3; unfold In at a3; have a4 := i94; unfold In at a4; have a5 := t_add e94 i92 h1 rfl; have a6 := i92; unfold In at a6; have a7 := (t_mulc 32 (Or.inr e92) i78 rfl).1; have oc := oc_190_76; omega))))).trans ((g75_1 (y75_8).toNatClampNeg (x1).toNatClampNeg (show (y75_8).toInt.toNat < 32 from (by have a0 := i78a; unfold In at a0; have a1 := h1; unfold In at a1; have a2 := i78; unfold In at a2; have a3 := j75_3; unfold In at a3; have a4 := i94; unfold In at a4; have a5 := t_add e94 i92 h1 rfl; have a6 := i92; unfold In at a6; have a7 := (t_mulc 32 (Or.inr e92) i78 rfl).1; have oc := oc_190_76; omega)) (show (x1).toInt.toNat < 32 from (by have a0 := i78a; unfold In at a0; have a1 := h1; unfold In at a1; have a2 := i78; unfold In at a2; have a3 := j75_3; unfold In at a3; have a4 := i94; unfold In at a4; have a5 := t_add e94 i92 h1 rfl; have a6 := i92; unfold In at a6; have a7 := (t_mulc 32 (Or.inr e92) i78 rfl).1; have oc := oc_190_76; omega))).2 (by unfold PVC; omega)); have gx := g75_0 (32 * (y75_8).toNatClampNeg + (x1).toNatClampNeg) (by have h9 := (show (y75_8).toInt.toNat < 32 from (by have a0 := i78a; unfold In at a0; have a1 := h1; unfold In at a1; have a2 := i78; unfold In at a2; have a3 := j75_3; unfold In at a3; have a4 := i94; unfold In at a4; have a5 := t_add e94 i92 h1 rfl; have a6 := i92; unfold In at a6; have a7 := (t_mulc 32 (Or.inr e92) i78 rfl).1; have oc := oc_190_76; omega)); have h8 := (show (x1).toInt.toNat < 32 from (by have a0 := i78a; unfold In at a0; have a1 := h1; unfold In at a1; have a2 := i78; unfold In at a2; have a3 := j75_3; unfold In at a3; have a4 := i94; unfold In at a4; have a5 := t_add e94 i92 h1 rfl; have a6 := i92; unfold In at a6; have a7 := (t_mulc 32 (Or.inr e92) i78 rfl).1; have oc := oc_190_76; omega)); have h7 : (y75_8).toNatClampNeg = (y75_8).toInt.toNat := rfl; have h6 : (x1).toNatClampNeg = (x1).toInt.toNat := rfl; omega); have e8 : (sc75.2.1 85 (32 * (y75_8).toNatClampNeg + (x1).toNatClampNeg)).toInt = (z95).toInt := (congrArg Int64.toInt (e95.trans (congrArg (sc75.2.1 85) (show z94.toNatClampNeg = 32 * (y75_8).toNatClampNeg + (x1).toNatClampNeg from (by show z94.toInt.toNat = 32 * (y75_8).toInt.toNat + (x1).toInt.toNat; have a0 := i78a; unfold In at a0; have a1 := h1; unfold In at a1; have a2 := i78; unfold In at a2; have a3 := j75_3; unfold In at a3; have a4 := i94; unfold In at a4; have a5 := t_add e94 i92 h1 rfl; have a6 := i92; unfold In at a6; have a7 := (t_mulc 32 (Or.inr e92) i78 rfl).1; have oc := oc_190_76; omega))))).symm; rw [e8] at gx; have t96 := lsub_t e96 (by omega) (by omega); have w9 := g75_4; have mb := mul_b (a := (z96).toInt) (b := (y75_6).toInt) ⟨by omega, by omega⟩ ⟨w9.1, by omega⟩; have t99 := lmul_t e99 (by omega) (by omega); have t103 := lrem_v e103 (by omega) (by omega); rw [t103, t99, t96, kp, e9]; rfl
        exact gg_w (by omega) (gg_f (gf_cons rfl (gf_cons rfl (gf_cons rfl (gf_cons rfl (gf_cons rfl (gf_cons rfl (gf_cons rfl (gf_cons rfl (gf_cons rfl gf_nil))))))))) (ct109 32 sc75 z103 x1 hIc75 hFc75 (in_w 2 31 i78a rfl) (in_w 1 30 i78 rfl) (in_w 0 31 h1 rfl) n109 n109a n109b n109c n109d (m_in 32 (in_w 0 31 h1 rfl) rfl)))
  have ct2 : ∀ (k2 : Nat) (sc2 : GS) (y2_3 : Int32), Inv sc2 → Fr fm_190_76 s sc2 → (In y2_3 0 31) → ((x1).toInt ≤ (y2_3).toInt) → ((sc2).2.1 85 = (s.2.1 85)) → (∀ i : Nat, (x1).toNatClampNeg ≤ i → i < (y2_3).toNatClampNeg → gat (s.2.1 85) i (x1).toNatClampNeg = 0) → 31 - (y2_3).toInt < (k2 : Int) → GG Z (d - 1) 190 post (gx xp) (976533 + k2 * 900) 2 (fun j => xlook j [(0, .ref (A 76)), (1, .int x1), (2, .int x2), (3, .int y2_3)]) [] (WW Z A sc2 ++ ex) 0 0 := by
    intro k2
    induction k2 with
    | zero => intro sc2 y2_3 hIc2 hFc2 j2_3 n2_0 g2_0 g2_1 mm2; exact m_no mm2 j2_3 rfl
    | succ k2 ih2 =>
      intro sc2 y2_3 hIc2 hFc2 j2_3 n2_0 g2_0 g2_1 mm2
      refine gg_w (M := 976533 + k2 * 900 + 900) (by omega) ?_
      refine g_iload_n 3 (gd rfl) rfl rfl ?_
      refine g_iload_n 4 (gd rfl) rfl rfl ?_
      refine g_cmp_ge 7 29 (gd rfl) rfl rfl (fun c4 => ?_) (fun c4 => ?_)
      · skip
        have i4 := r_le2 1 31 c4 h2 j2_3 rfl
        refine g_iload_n 30 (gd rfl) rfl rfl ?_
        refine g_iload_n 31 (gd rfl) rfl rfl ?_
        refine g_cmp_lt 34 36 (gd rfl) rfl rfl (fun c31 => ?_) (fun c31 => ?_)
        · skip
          have i31 := r_lt1 1 30 c31 i4 h2 rfl
          have i31a := r_lt2 2 31 c31 i4 h2 rfl
          refine g_iload_n 37 (gd rfl) rfl rfl ?_
          refine g_iload_n 38 (gd rfl) rfl rfl ?_
          refine g_cmp_eq 41 47 (gd rfl) rfl rfl (fun c38 => ?_) (fun c38 => ?_)
          · skip
            have i38 := r_eq2 1 30 c38 i31 h1 rfl
            refine g_aload_n 48 (gd rfl) rfl rfl ?_
            refine g_getA (q2 := 85) 51 (gd rfl) rfl rfl rfl rfl ?_
            refine g_iload_n 52 (gd rfl) rfl rfl ?_
            refine g_bipush 32 54 (gd rfl) rfl rfl ?_
            refine g_imul 55 (gd rfl) rfl (fun z54 e54 => ?_)
            have i54 := in_mulc 32 32 960 (Or.inr e54) i38 rfl rfl
            refine g_iload_n 56 (gd rfl) rfl rfl ?_
            refine g_iadd 57 (gd rfl) rfl (fun z56 e56 => ?_)
            have i56 := in_add 33 990 e56 i54 i38 rfl rfl
            refine g_laload 58 (gd rfl) rfl (n := 1024) rfl (in_ix i56 rfl) (fun z57 e57 => ?_)
            refine g_lstore 60 (gd rfl) rfl (Nat.le_of_ble_eq_true rfl) ?_
            refine g_lload 62 (gd rfl) rfl rfl ?_
            refine g_ldc2_w 1000000005 65 (gd rfl) rfl rfl ?_
            have p65 : (0 ≤ (z57).toInt ∧ (z57).toInt < 1000000007) := by exfalso; have a0 := i31a; unfold In at a0; have a1 := i38; unfold In at a1; have a2 := i31; unfold In at a2; have a3 := i56; unfold In at a3; have a4 := t_add e56 i54 i38 rfl; have a5 := i54; unfold In at a5; have a6 := (t_mulc 32 (Or.inr e54) i38 rfl).1; have oc := oc_190_76; omega
            have p65a : (0 ≤ ((Int64.ofInt 1000000005)).toInt) := by decide
            refine g_calls (As := [.long z57, .long (Int64.ofInt 1000000005)]) (r := []) 68 (gd rfl) rfl rfl rfl rfl rfl (Nat.le_of_ble_eq_true rfl) (Nat.zero_le _) (Nat.zero_le _) (f_192 (by omega) hIc2 p65 p65a) (fun v u h => ?_)
            obtain ⟨z65, rfl, rfl, p65b⟩ := h
            show GG _ _ _ _ _ _ _ _ [.long z65] _ _ _
            refine g_lstore 70 (gd rfl) rfl (Nat.le_of_ble_eq_true rfl) ?_
            refine g_iload_n 71 (gd rfl) rfl rfl ?_
            refine g_iconst 1 72 (gd rfl) rfl rfl ?_
            refine g_iadd 73 (gd rfl) rfl (fun z72 e72 => ?_)
            have i72 := in_add 2 31 e72 i38 (in_c 1 rfl) rfl rfl
            refine g_istore 75 (gd rfl) rfl (Nat.le_of_ble_eq_true rfl) ?_
            have n75 : (x1).toInt < (z72).toInt := by have a0 := i31a; unfold In at a0; have a1 := i38; unfold In at a1; have a2 := i31; unfold In at a2; have a3 := i72; unfold In at a3; have a4 := t_add e72 i38 (in_c 1 rfl) rfl; have a5 := (in_c 1 rfl); unfold In at a5; have a6 := i56; unfold In at a6; have a7 := t_add e56 i54 i38 rfl; have a8 := i54; unfold In at a8; have a9 := (t_mulc 32 (Or.inr e54) i38 rfl).1; have oc := oc_190_76; omega
            have n75a : GRD ((sc2).2.1 85) := by exfalso; have a0 := i31a; unfold In at a0; have a1 := i38; unfold In at a1; have a2 := i31; unfold In at a2; have a3 := i72; unfold In at a3; have a4 := t_add e72 i38 (in_c 1 rfl) rfl; have a5 := (in_c 1 rfl); unfold In at a5; have a6 := i56; unfold In at a6; have a7 := t_add e56 i54 i38 rfl; have a8 := i54; unfold In at a8; have a9 := (t_mulc 32 (Or.inr e54) i38 rfl).1; have oc := oc_190_76; omega
            have n75b : PVJ (swf (s.2.1 85) (y2_3).toNatClampNeg (x1).toNatClampNeg) ((sc2).2.1 85) (x1).toNatClampNeg (x2).toNatClampNeg (z72).toNatClampNeg (x1).toNatClampNeg (z65).toInt := by exfalso; have a0 := i31a; unfold In at a0; have a1 := i38; unfold In at a1; have a2 := i31; unfold In at a2; have a3 := i72; unfold In at a3; have a4 := t_add e72 i38 (in_c 1 rfl) rfl; have a5 := (in_c 1 rfl); unfold In at a5; have a6 := i56; unfold In at a6; have a7 := t_add e56 i54 i38 rfl; have a8 := i54; unfold In at a8; have a9 := (t_mulc 32 (Or.inr e54) i38 rfl).1; have oc := oc_190_76; omega
            have n75c : (z57).toInt = gat (swf (s.2.1 85) (y2_3).toNatClampNeg (x1).toNatClampNeg) (x1).toNatClampNeg (x1).toNatClampNeg := by exfalso; have a0 := i31a; unfold In at a0; have a1 := i38; unfold In at a1; have a2 := i31; unfold In at a2; have a3 := i72; unfold In at a3; have a4 := t_add e72 i38 (in_c 1 rfl) rfl; have a5 := (in_c 1 rfl); unfold In at a5; have a6 := i56; unfold In at a6; have a7 := t_add e56 i54 i38 rfl; have a8 := i54; unfold In at a8; have a9 := (t_mulc 32 (Or.inr e54) i38 rfl).1; have oc := oc_190_76; omega
            have n75d : MC (gat (swf (s.2.1 85) (y2_3).toNatClampNeg (x1).toNatClampNeg) (x1).toNatClampNeg (x1).toNatClampNeg * (z65).toInt) 1 := by exfalso; have a0 := i31a; unfold In at a0; have a1 := i38; unfold In at a1; have a2 := i31; unfold In at a2; have a3 := i72; unfold In at a3; have a4 := t_add e72 i38 (in_c 1 rfl) rfl; have a5 := (in_c 1 rfl); unfold In at a5; have a6 := i56; unfold In at a6; have a7 := t_add e56 i54 i38 rfl; have a8 := i54; unfold In at a8; have a9 := (t_mulc 32 (Or.inr e54) i38 rfl).1; have oc := oc_190_76; omega
            have n75e : (0 ≤ (z65).toInt ∧ (z65).toInt < 1000000007) := by exfalso; have a0 := i31a; unfold In at a0; have a1 := i38; unfold In at a1; have a2 := i31; unfold In at a2; have a3 := i72; unfold In at a3; have a4 := t_add e72 i38 (in_c 1 rfl) rfl; have a5 := (in_c 1 rfl); unfold In at a5; have a6 := i56; unfold In at a6; have a7 := t_add e56 i54 i38 rfl; have a8 := i54; unfold In at a8; have a9 := (t_mulc 32 (Or.inr e54) i38 rfl).1; have oc := oc_190_76; omega
            have n75f : ((x1).toInt ≤ (y2_3).toInt ∧ (y2_3).toInt < (x2).toInt) := by exfalso; have a0 := i31a; unfold In at a0; have a1 := i38; unfold In at a1; have a2 := i31; unfold In at a2; have a3 := i72; unfold In at a3; have a4 := t_add e72 i38 (in_c 1 rfl) rfl; have a5 := (in_c 1 rfl); unfold In at a5; have a6 := i56; unfold In at a6; have a7 := t_add e56 i54 i38 rfl; have a8 := i54; unfold In at a8; have a9 := (t_mulc 32 (Or.inr e54) i38 rfl).1; have oc := oc_190_76; omega
            exact gg_w (by omega) (gg_f (gf_cons rfl (gf_cons rfl (gf_cons rfl (gf_cons rfl (gf_cons rfl (gf_cons rfl (gf_cons rfl gf_nil))))))) (ct75 31 sc2 y2_3 z57 z65 z72 hIc2 hFc2 (in_w 0 30 i31 rfl) (in_w 1 31 i72 rfl) n75 n75a n75b n75c n75d n75e n75f (m_in 31 (in_w 1 31 i72 rfl) rfl)))
          · skip
            refine g_aload_n 42 (gd rfl) rfl rfl ?_
            refine g_iload_n 43 (gd rfl) rfl rfl ?_
            refine g_iload_n 44 (gd rfl) rfl rfl ?_
            have p44 : ((y2_3).toInt ≠ (x1).toInt) := by have a0 := i31a; unfold In at a0; have a1 := h1; unfold In at a1; have a2 := i31; unfold In at a2; have oc := oc_190_76; omega
            refine g_callv (X := _) (As := [.int y2_3, .int x1]) (r := []) (b := A 76) (q := 76) 47 (gd rfl) rfl rfl rfl rfl rfl (ww_o rfl) (Nat.le_of_ble_eq_true rfl) (Nat.zero_le _) (Nat.zero_le _) (f_191_76 (by omega) hIc2 (in_w 0 30 i31 rfl) (in_w 0 30 h1 rfl) p44) (fun e u h => h) (fun v u h => ?_)
            obtain ⟨s44, hI44, hF44, rfl, rfl, p44a⟩ := h
            show GG _ _ _ _ _ _ _ _ [] _ _ _
            refine g_aload_n 48 (gd rfl) rfl rfl ?_
            refine g_getA (q2 := 85) 51 (gd rfl) rfl rfl rfl rfl ?_
            refine g_iload_n 52 (gd rfl) rfl rfl ?_
            refine g_bipush 32 54 (gd rfl) rfl rfl ?_
            refine g_imul 55 (gd rfl) rfl (fun z54 e54 => ?_)
            have i54 := in_mulc 32 0 960 (Or.inr e54) h1 rfl rfl
            refine g_iload_n 56 (gd rfl) rfl rfl ?_
            refine g_iadd 57 (gd rfl) rfl (fun z56 e56 => ?_)
            have i56 := in_add 0 990 e56 i54 h1 rfl rfl
            refine g_laload 58 (gd rfl) rfl (n := 1024) rfl (in_ix i56 rfl) (fun z57 e57 => ?_)
            refine g_lstore 60 (gd rfl) rfl (Nat.le_of_ble_eq_true rfl) ?_
            refine g_lload 62 (gd rfl) rfl rfl ?_
            refine g_ldc2_w 1000000005 65 (gd rfl) rfl rfl ?_
            have p65 : (0 ≤ (z57).toInt ∧ (z57).toInt < 1000000007) := by exfalso; have a0 := i31a; unfold In at a0; have a1 := h1; unfold In at a1; have a2 := i31; unfold In at a2; have a3 := i56; unfold In at a3; have a4 := t_add e56 i54 h1 rfl; have a5 := i54; unfold In at a5; have a6 := (t_mulc 32 (Or.inr e54) h1 rfl).1; have oc := oc_190_76; omega
            have p65a : (0 ≤ ((Int64.ofInt 1000000005)).toInt) := by decide
            refine g_calls (As := [.long z57, .long (Int64.ofInt 1000000005)]) (r := []) 68 (gd rfl) rfl rfl rfl rfl rfl (Nat.le_of_ble_eq_true rfl) (Nat.zero_le _) (Nat.zero_le _) (f_192 (by omega) hI44 p65 p65a) (fun v u h => ?_)
            obtain ⟨z65, rfl, rfl, p65b⟩ := h
            show GG _ _ _ _ _ _ _ _ [.long z65] _ _ _
            refine g_lstore 70 (gd rfl) rfl (Nat.le_of_ble_eq_true rfl) ?_
            refine g_iload_n 71 (gd rfl) rfl rfl ?_
            refine g_iconst 1 72 (gd rfl) rfl rfl ?_
            refine g_iadd 73 (gd rfl) rfl (fun z72 e72 => ?_)
            have i72 := in_add 1 31 e72 h1 (in_c 1 rfl) rfl rfl
            refine g_istore 75 (gd rfl) rfl (Nat.le_of_ble_eq_true rfl) ?_
            have n75 : (x1).toInt < (z72).toInt := by have a0 := i31a; unfold In at a0; have a1 := h1; unfold In at a1; have a2 := i31; unfold In at a2; have a3 := i72; unfold In at a3; have a4 := t_add e72 h1 (in_c 1 rfl) rfl; have a5 := (in_c 1 rfl); unfold In at a5; have a6 := i56; unfold In at a6; have a7 := t_add e56 i54 h1 rfl; have a8 := i54; unfold In at a8; have a9 := (t_mulc 32 (Or.inr e54) h1 rfl).1; have oc := oc_190_76; omega
            have n75a : GRD ((s44).2.1 85) := by exfalso; have a0 := i31a; unfold In at a0; have a1 := h1; unfold In at a1; have a2 := i31; unfold In at a2; have a3 := i72; unfold In at a3; have a4 := t_add e72 h1 (in_c 1 rfl) rfl; have a5 := (in_c 1 rfl); unfold In at a5; have a6 := i56; unfold In at a6; have a7 := t_add e56 i54 h1 rfl; have a8 := i54; unfold In at a8; have a9 := (t_mulc 32 (Or.inr e54) h1 rfl).1; have oc := oc_190_76; omega
            have n75b : PVJ (swf (s.2.1 85) (y2_3).toNatClampNeg (x1).toNatClampNeg) ((s44).2.1 85) (x1).toNatClampNeg (x2).toNatClampNeg (z72).toNatClampNeg (x1).toNatClampNeg (z65).toInt := by exfalso; have a0 := i31a; unfold In at a0; have a1 := h1; unfold In at a1; have a2 := i31; unfold In at a2; have a3 := i72; unfold In at a3; have a4 := t_add e72 h1 (in_c 1 rfl) rfl; have a5 := (in_c 1 rfl); unfold In at a5; have a6 := i56; unfold In at a6; have a7 := t_add e56 i54 h1 rfl; have a8 := i54; unfold In at a8; have a9 := (t_mulc 32 (Or.inr e54) h1 rfl).1; have oc := oc_190_76; omega
            have n75c : (z57).toInt = gat (swf (s.2.1 85) (y2_3).toNatClampNeg (x1).toNatClampNeg) (x1).toNatClampNeg (x1).toNatClampNeg := by exfalso; have a0 := i31a; unfold In at a0; have a1 := h1; unfold In at a1; have a2 := i31; unfold In at a2; have a3 := i72; unfold In at a3; have a4 := t_add e72 h1 (in_c 1 rfl) rfl; have a5 := (in_c 1 rfl); unfold In at a5; have a6 := i56; unfold In at a6; have a7 := t_add e56 i54 h1 rfl; have a8 := i54; unfold In at a8; have a9 := (t_mulc 32 (Or.inr e54) h1 rfl).1; have oc := oc_190_76; omega
            have n75d : MC (gat (swf (s.2.1 85) (y2_3).toNatClampNeg (x1).toNatClampNeg) (x1).toNatClampNeg (x1).toNatClampNeg * (z65).toInt) 1 := by exfalso; have a0 := i31a; unfold In at a0; have a1 := h1; unfold In at a1; have a2 := i31; unfold In at a2; have a3 := i72; unfold In at a3; have a4 := t_add e72 h1 (in_c 1 rfl) rfl; have a5 := (in_c 1 rfl); unfold In at a5; have a6 := i56; unfold In at a6; have a7 := t_add e56 i54 h1 rfl; have a8 := i54; unfold In at a8; have a9 := (t_mulc 32 (Or.inr e54) h1 rfl).1; have oc := oc_190_76; omega
            have n75e : (0 ≤ (z65).toInt ∧ (z65).toInt < 1000000007) := by exfalso; have a0 := i31a; unfold In at a0; have a1 := h1; unfold In at a1; have a2 := i31; unfold In at a2; have a3 := i72; unfold In at a3; have a4 := t_add e72 h1 (in_c 1 rfl) rfl; have a5 := (in_c 1 rfl); unfold In at a5; have a6 := i56; unfold In at a6; have a7 := t_add e56 i54 h1 rfl; have a8 := i54; unfold In at a8; have a9 := (t_mulc 32 (Or.inr e54) h1 rfl).1; have oc := oc_190_76; omega
            have n75f : ((x1).toInt ≤ (y2_3).toInt ∧ (y2_3).toInt < (x2).toInt) := by exfalso; have a0 := i31a; unfold In at a0; have a1 := h1; unfold In at a1; have a2 := i31; unfold In at a2; have a3 := i72; unfold In at a3; have a4 := t_add e72 h1 (in_c 1 rfl) rfl; have a5 := (in_c 1 rfl); unfold In at a5; have a6 := i56; unfold In at a6; have a7 := t_add e56 i54 h1 rfl; have a8 := i54; unfold In at a8; have a9 := (t_mulc 32 (Or.inr e54) h1 rfl).1; have oc := oc_190_76; omega
            exact gg_w (by omega) (gg_f (gf_cons rfl (gf_cons rfl (gf_cons rfl (gf_cons rfl (gf_cons rfl (gf_cons rfl (gf_cons rfl gf_nil))))))) (ct75 31 s44 y2_3 z57 z65 z72 hI44 (fr_tr rfl hFc2 hF44) (in_w 0 30 i31 rfl) (in_w 1 31 i72 rfl) n75 n75a n75b n75c n75d n75e n75f (m_in 31 (in_w 1 31 i72 rfl) rfl)))
        · skip
          refine g_lconst 0 35 (gd rfl) rfl rfl ?_
          have n35 : PVP (s.2.1 85) ((sc2).2.1 85) (x1).toNatClampNeg (x2).toNatClampNeg ((Int64.ofInt 0)).toInt := by exact pvp_0 (by rw [g2_0]; exact q_0) (show (x1).toInt.toNat < (x2).toInt.toNat from (by have a0 := h2; unfold In at a0; have a1 := h1; unfold In at a1; have a2 := i4; unfold In at a2; have oc := oc_190_76; omega)) (fun i ha hb => g2_1 i ha (show i < (y2_3).toInt.toNat from (by have h9 : (x2).toNatClampNeg = (x2).toInt.toNat := rfl; have a0 := h2; unfold In at a0; have a1 := h1; unfold In at a1; have a2 := i4; unfold In at a2; have oc := oc_190_76; omega)))
          exact g_lreturn (gd rfl) rfl (hP _ _ ⟨sc2, hIc2, hFc2, (Int64.ofInt 0), rfl, rfl, n35⟩)
      · skip
        have i4 := r_lt1 0 30 c4 j2_3 h2 rfl
        refine g_aload_n 8 (gd rfl) rfl rfl ?_
        refine g_getA (q2 := 85) 11 (gd rfl) rfl rfl rfl rfl ?_
        refine g_iload_n 12 (gd rfl) rfl rfl ?_
        refine g_bipush 32 14 (gd rfl) rfl rfl ?_
        refine g_imul 15 (gd rfl) rfl (fun z14 e14 => ?_)
        have i14 := in_mulc 32 0 960 (Or.inr e14) i4 rfl rfl
        refine g_iload_n 16 (gd rfl) rfl rfl ?_
        refine g_iadd 17 (gd rfl) rfl (fun z16 e16 => ?_)
        have i16 := in_add 0 990 e16 i14 h1 rfl rfl
        refine g_laload 18 (gd rfl) rfl (n := 1024) rfl (in_ix i16 rfl) (fun z17 e17 => ?_)
        refine g_lconst 0 19 (gd rfl) rfl rfl ?_
        refine g_lcmp 20 (gd rfl) rfl (fun z19 e19 => ?_)
        have i19 := lc_in e19
        refine g_if_ne 23 29 (gd rfl) rfl rfl (fun c20 => ?_) (fun c20 => ?_)
        · skip
          have c20a := lc_ne e19 c20
          refine g_iload_n 30 (gd rfl) rfl rfl ?_
          refine g_iload_n 31 (gd rfl) rfl rfl ?_
          refine g_cmp_lt 34 36 (gd rfl) rfl rfl (fun c31 => ?_) (fun c31 => ?_)
          · skip
            refine g_iload_n 37 (gd rfl) rfl rfl ?_
            refine g_iload_n 38 (gd rfl) rfl rfl ?_
            refine g_cmp_eq 41 47 (gd rfl) rfl rfl (fun c38 => ?_) (fun c38 => ?_)
            · skip
              refine g_aload_n 48 (gd rfl) rfl rfl ?_
              refine g_getA (q2 := 85) 51 (gd rfl) rfl rfl rfl rfl ?_
              refine g_iload_n 52 (gd rfl) rfl rfl ?_
              refine g_bipush 32 54 (gd rfl) rfl rfl ?_
              refine g_imul 55 (gd rfl) rfl (fun z54 e54 => ?_)
              have i54 := in_mulc 32 0 960 (Or.inr e54) h1 rfl rfl
              refine g_iload_n 56 (gd rfl) rfl rfl ?_
              refine g_iadd 57 (gd rfl) rfl (fun z56 e56 => ?_)
              have i56 := in_add 0 990 e56 i54 h1 rfl rfl
              refine g_laload 58 (gd rfl) rfl (n := 1024) rfl (in_ix i56 rfl) (fun z57 e57 => ?_)
              refine g_lstore 60 (gd rfl) rfl (Nat.le_of_ble_eq_true rfl) ?_
              refine g_lload 62 (gd rfl) rfl rfl ?_
              refine g_ldc2_w 1000000005 65 (gd rfl) rfl rfl ?_
              have p65 : (0 ≤ (z57).toInt ∧ (z57).toInt < 1000000007) := by have eqf : ∀ k, k < 1024 → sc2.2.1 85 k = (swf (s.2.1 85) (y2_3).toNatClampNeg (x1).toNatClampNeg) k := (fun k _ => by rw [g2_0, swf_s (show (y2_3).toInt.toNat = (x1).toInt.toNat from (by have a0 := h2; unfold In at a0; have a1 := h1; unfold In at a1; have a2 := i4; unfold In at a2; have a3 := i56; unfold In at a3; have a4 := t_add e56 i54 h1 rfl; have a5 := i54; unfold In at a5; have a6 := (t_mulc 32 (Or.inr e54) h1 rfl).1; have a7 := i16; unfold In at a7; have a8 := t_add e16 i14 h1 rfl; have a9 := i14; unfold In at a9; have a10 := (t_mulc 32 (Or.inr e14) i4 rfl).1; have oc := oc_190_76; omega))]); have ez : z56.toNatClampNeg = 32 * (x1).toNatClampNeg + (x1).toNatClampNeg := (by show z56.toInt.toNat = 32 * (x1).toInt.toNat + (x1).toInt.toNat; have a0 := h2; unfold In at a0; have a1 := h1; unfold In at a1; have a2 := i4; unfold In at a2; have a3 := i56; unfold In at a3; have a4 := t_add e56 i54 h1 rfl; have a5 := i54; unfold In at a5; have a6 := (t_mulc 32 (Or.inr e54) h1 rfl).1; have a7 := i16; unfold In at a7; have a8 := t_add e16 i14 h1 rfl; have a9 := i14; unfold In at a9; have a10 := (t_mulc 32 (Or.inr e14) i4 rfl).1; have oc := oc_190_76; omega); have tp : (z57).toInt = gat (swf (s.2.1 85) (y2_3).toNatClampNeg (x1).toNatClampNeg) (x1).toNatClampNeg (x1).toNatClampNeg := (by show (z57).toInt = ((swf (s.2.1 85) (y2_3).toNatClampNeg (x1).toNatClampNeg) (32 * (x1).toNatClampNeg + (x1).toNatClampNeg)).toInt; rw [← ez, e57]; exact congrArg Int64.toInt (eqf _ (show z56.toInt.toNat < 1024 from (by have a0 := h2; unfold In at a0; have a1 := h1; unfold In at a1; have a2 := i4; unfold In at a2; have a3 := i56; unfold In at a3; have a4 := t_add e56 i54 h1 rfl; have a5 := i54; unfold In at a5; have a6 := (t_mulc 32 (Or.inr e54) h1 rfl).1; have a7 := i16; unfold In at a7; have a8 := t_add e16 i14 h1 rfl; have a9 := i14; unfold In at a9; have a10 := (t_mulc 32 (Or.inr e14) i4 rfl).1; have oc := oc_190_76; omega)))); have gr := grd_w q_0 (show (y2_3).toInt.toNat < 32 from (by have a0 := h2; unfold In at a0; have a1 := h1; unfold In at a1; have a2 := i4; unfold In at a2; have a3 := i56; unfold In at a3; have a4 := t_add e56 i54 h1 rfl; have a5 := i54; unfold In at a5; have a6 := (t_mulc 32 (Or.inr e54) h1 rfl).1; have a7 := i16; unfold In at a7; have a8 := t_add e16 i14 h1 rfl; have a9 := i14; unfold In at a9; have a10 := (t_mulc 32 (Or.inr e14) i4 rfl).1; have oc := oc_190_76; omega)) (show (x1).toInt.toNat < 32 from (by have a0 := h2; unfold In at a0; have a1 := h1; unfold In at a1; have a2 := i4; unfold In at a2; have a3 := i56; unfold In at a3; have a4 := t_add e56 i54 h1 rfl; have a5 := i54; unfold In at a5; have a6 := (t_mulc 32 (Or.inr e54) h1 rfl).1; have a7 := i16; unfold In at a7; have a8 := t_add e16 i14 h1 rfl; have a9 := i14; unfold In at a9; have a10 := (t_mulc 32 (Or.inr e14) i4 rfl).1; have oc := oc_190_76; omega)); have gx := grd_g gr (show (x1).toInt.toNat < 32 from (by have a0 := h2; unfold In at a0; have a1 := h1; unfold In at a1; have a2 := i4; unfold In at a2; have a3 := i56; unfold In at a3; have a4 := t_add e56 i54 h1 rfl; have a5 := i54; unfold In at a5; have a6 := (t_mulc 32 (Or.inr e54) h1 rfl).1; have a7 := i16; unfold In at a7; have a8 := t_add e16 i14 h1 rfl; have a9 := i14; unfold In at a9; have a10 := (t_mulc 32 (Or.inr e14) i4 rfl).1; have oc := oc_190_76; omega)) (show (x1).toInt.toNat < 32 from (by have a0 := h2; unfold In at a0; have a1 := h1; unfold In at a1; have a2 := i4; unfold In at a2; have a3 := i56; unfold In at a3; have a4 := t_add e56 i54 h1 rfl; have a5 := i54; unfold In at a5; have a6 := (t_mulc 32 (Or.inr e54) h1 rfl).1; have a7 := i16; unfold In at a7; have a8 := t_add e16 i14 h1 rfl; have a9 := i14; unfold In at a9; have a10 := (t_mulc 32 (Or.inr e14) i4 rfl).1; have oc := oc_190_76; omega)); rw [← tp] at gx; exact gx
              have p65a : (0 ≤ ((Int64.ofInt 1000000005)).toInt) := by decide
              refine g_calls (As := [.long z57, .long (Int64.ofInt 1000000005)]) (r := []) 68 (gd rfl) rfl rfl rfl rfl rfl (Nat.le_of_ble_eq_true rfl) (Nat.zero_le _) (Nat.zero_le _) (f_192 (by omega) hIc2 p65 p65a) (fun v u h => ?_)
              obtain ⟨z65, rfl, rfl, p65b⟩ := h
              show GG _ _ _ _ _ _ _ _ [.long z65] _ _ _
              refine g_lstore 70 (gd rfl) rfl (Nat.le_of_ble_eq_true rfl) ?_
              refine g_iload_n 71 (gd rfl) rfl rfl ?_
              refine g_iconst 1 72 (gd rfl) rfl rfl ?_
              refine g_iadd 73 (gd rfl) rfl (fun z72 e72 => ?_)
              have i72 := in_add 1 31 e72 h1 (in_c 1 rfl) rfl rfl
              refine g_istore 75 (gd rfl) rfl (Nat.le_of_ble_eq_true rfl) ?_
              have n75 : (x1).toInt < (z72).toInt := by have a0 := h2; unfold In at a0; have a1 := h1; unfold In at a1; have a2 := i4; unfold In at a2; have a3 := i72; unfold In at a3; have a4 := t_add e72 h1 (in_c 1 rfl) rfl; have a5 := (in_c 1 rfl); unfold In at a5; have a6 := i56; unfold In at a6; have a7 := t_add e56 i54 h1 rfl; have a8 := i54; unfold In at a8; have a9 := (t_mulc 32 (Or.inr e54) h1 rfl).1; have a10 := i16; unfold In at a10; have a11 := t_add e16 i14 h1 rfl; have a12 := i14; unfold In at a12; have a13 := (t_mulc 32 (Or.inr e14) i4 rfl).1; have oc := oc_190_76; omega
              have n75a : GRD ((sc2).2.1 85) := by have eqf : ∀ k, k < 1024 → sc2.2.1 85 k = (swf (s.2.1 85) (y2_3).toNatClampNeg (x1).toNatClampNeg) k := (fun k _ => by rw [g2_0, swf_s (show (y2_3).toInt.toNat = (x1).toInt.toNat from (by have a0 := h2; unfold In at a0; have a1 := h1; unfold In at a1; have a2 := i4; unfold In at a2; have a3 := i72; unfold In at a3; have a4 := t_add e72 h1 (in_c 1 rfl) rfl; have a5 := (in_c 1 rfl); unfold In at a5; have a6 := i56; unfold In at a6; have a7 := t_add e56 i54 h1 rfl; have a8 := i54; unfold In at a8; have a9 := (t_mulc 32 (Or.inr e54) h1 rfl).1; have a10 := i16; unfold In at a10; have a11 := t_add e16 i14 h1 rfl; have a12 := i14; unfold In at a12; have a13 := (t_mulc 32 (Or.inr e14) i4 rfl).1; have oc := oc_190_76; omega))]); exact grd_cg eqf (grd_w q_0 (show (y2_3).toInt.toNat < 32 from (by have a0 := h2; unfold In at a0; have a1 := h1; unfold In at a1; have a2 := i4; unfold In at a2; have a3 := i72; unfold In at a3; have a4 := t_add e72 h1 (in_c 1 rfl) rfl; have a5 := (in_c 1 rfl); unfold In at a5; have a6 := i56; unfold In at a6; have a7 := t_add e56 i54 h1 rfl; have a8 := i54; unfold In at a8; have a9 := (t_mulc 32 (Or.inr e54) h1 rfl).1; have a10 := i16; unfold In at a10; have a11 := t_add e16 i14 h1 rfl; have a12 := i14; unfold In at a12; have a13 := (t_mulc 32 (Or.inr e14) i4 rfl).1; have oc := oc_190_76; omega)) (show (x1).toInt.toNat < 32 from (by have a0 := h2; unfold In at a0; have a1 := h1; unfold In at a1; have a2 := i4; unfold In at a2; have a3 := i72; unfold In at a3; have a4 := t_add e72 h1 (in_c 1 rfl) rfl; have a5 := (in_c 1 rfl); unfold In at a5; have a6 := i56; unfold In at a6; have a7 := t_add e56 i54 h1 rfl; have a8 := i54; unfold In at a8; have a9 := (t_mulc 32 (Or.inr e54) h1 rfl).1; have a10 := i16; unfold In at a10; have a11 := t_add e16 i14 h1 rfl; have a12 := i14; unfold In at a12; have a13 := (t_mulc 32 (Or.inr e14) i4 rfl).1; have oc := oc_190_76; omega)))
              have n75b : PVJ (swf (s.2.1 85) (y2_3).toNatClampNeg (x1).toNatClampNeg) ((sc2).2.1 85) (x1).toNatClampNeg (x2).toNatClampNeg (z72).toNatClampNeg (x1).toNatClampNeg (z65).toInt := by have eqf : ∀ k, k < 1024 → sc2.2.1 85 k = (swf (s.2.1 85) (y2_3).toNatClampNeg (x1).toNatClampNeg) k := (fun k _ => by rw [g2_0, swf_s (show (y2_3).toInt.toNat = (x1).toInt.toNat from (by have a0 := h2; unfold In at a0; have a1 := h1; unfold In at a1; have a2 := i4; unfold In at a2; have a3 := i72; unfold In at a3; have a4 := t_add e72 h1 (in_c 1 rfl) rfl; have a5 := (in_c 1 rfl); unfold In at a5; have a6 := i56; unfold In at a6; have a7 := t_add e56 i54 h1 rfl; have a8 := i54; unfold In at a8; have a9 := (t_mulc 32 (Or.inr e54) h1 rfl).1; have a10 := i16; unfold In at a10; have a11 := t_add e16 i14 h1 rfl; have a12 := i14; unfold In at a12; have a13 := (t_mulc 32 (Or.inr e14) i4 rfl).1; have oc := oc_190_76; omega))]); exact pvj_0 (show (z72).toInt.toNat = (x1).toInt.toNat + 1 from (by have a0 := h2; unfold In at a0; have a1 := h1; unfold In at a1; have a2 := i4; unfold In at a2; have a3 := i72; unfold In at a3; have a4 := t_add e72 h1 (in_c 1 rfl) rfl; have a5 := (in_c 1 rfl); unfold In at a5; have a6 := i56; unfold In at a6; have a7 := t_add e56 i54 h1 rfl; have a8 := i54; unfold In at a8; have a9 := (t_mulc 32 (Or.inr e54) h1 rfl).1; have a10 := i16; unfold In at a10; have a11 := t_add e16 i14 h1 rfl; have a12 := i14; unfold In at a12; have a13 := (t_mulc 32 (Or.inr e14) i4 rfl).1; have oc := oc_190_76; omega)) eqf
              have n75c : (z57).toInt = gat (swf (s.2.1 85) (y2_3).toNatClampNeg (x1).toNatClampNeg) (x1).toNatClampNeg (x1).toNatClampNeg := by have eqf : ∀ k, k < 1024 → sc2.2.1 85 k = (swf (s.2.1 85) (y2_3).toNatClampNeg (x1).toNatClampNeg) k := (fun k _ => by rw [g2_0, swf_s (show (y2_3).toInt.toNat = (x1).toInt.toNat from (by have a0 := h2; unfold In at a0; have a1 := h1; unfold In at a1; have a2 := i4; unfold In at a2; have a3 := i72; unfold In at a3; have a4 := t_add e72 h1 (in_c 1 rfl) rfl; have a5 := (in_c 1 rfl); unfold In at a5; have a6 := i56; unfold In at a6; have a7 := t_add e56 i54 h1 rfl; have a8 := i54; unfold In at a8; have a9 := (t_mulc 32 (Or.inr e54) h1 rfl).1; have a10 := i16; unfold In at a10; have a11 := t_add e16 i14 h1 rfl; have a12 := i14; unfold In at a12; have a13 := (t_mulc 32 (Or.inr e14) i4 rfl).1; have oc := oc_190_76; omega))]); have ez : z56.toNatClampNeg = 32 * (x1).toNatClampNeg + (x1).toNatClampNeg := (by show z56.toInt.toNat = 32 * (x1).toInt.toNat + (x1).toInt.toNat; have a0 := h2; unfold In at a0; have a1 := h1; unfold In at a1; have a2 := i4; unfold In at a2; have a3 := i72; unfold In at a3; have a4 := t_add e72 h1 (in_c 1 rfl) rfl; have a5 := (in_c 1 rfl); unfold In at a5; have a6 := i56; unfold In at a6; have a7 := t_add e56 i54 h1 rfl; have a8 := i54; unfold In at a8; have a9 := (t_mulc 32 (Or.inr e54) h1 rfl).1; have a10 := i16; unfold In at a10; have a11 := t_add e16 i14 h1 rfl; have a12 := i14; unfold In at a12; have a13 := (t_mulc 32 (Or.inr e14) i4 rfl).1; have oc := oc_190_76; omega); have tp : (z57).toInt = gat (swf (s.2.1 85) (y2_3).toNatClampNeg (x1).toNatClampNeg) (x1).toNatClampNeg (x1).toNatClampNeg := (by show (z57).toInt = ((swf (s.2.1 85) (y2_3).toNatClampNeg (x1).toNatClampNeg) (32 * (x1).toNatClampNeg + (x1).toNatClampNeg)).toInt; rw [← ez, e57]; exact congrArg Int64.toInt (eqf _ (show z56.toInt.toNat < 1024 from (by have a0 := h2; unfold In at a0; have a1 := h1; unfold In at a1; have a2 := i4; unfold In at a2; have a3 := i72; unfold In at a3; have a4 := t_add e72 h1 (in_c 1 rfl) rfl; have a5 := (in_c 1 rfl); unfold In at a5; have a6 := i56; unfold In at a6; have a7 := t_add e56 i54 h1 rfl; have a8 := i54; unfold In at a8; have a9 := (t_mulc 32 (Or.inr e54) h1 rfl).1; have a10 := i16; unfold In at a10; have a11 := t_add e16 i14 h1 rfl; have a12 := i14; unfold In at a12; have a13 := (t_mulc 32 (Or.inr e14) i4 rfl).1; have oc := oc_190_76; omega)))); have gr := grd_w q_0 (show (y2_3).toInt.toNat < 32 from (by have a0 := h2; unfold In at a0; have a1 := h1; unfold In at a1; have a2 := i4; unfold In at a2; have a3 := i72; unfold In at a3; have a4 := t_add e72 h1 (in_c 1 rfl) rfl; have a5 := (in_c 1 rfl); unfold In at a5; have a6 := i56; unfold In at a6; have a7 := t_add e56 i54 h1 rfl; have a8 := i54; unfold In at a8; have a9 := (t_mulc 32 (Or.inr e54) h1 rfl).1; have a10 := i16; unfold In at a10; have a11 := t_add e16 i14 h1 rfl; have a12 := i14; unfold In at a12; have a13 := (t_mulc 32 (Or.inr e14) i4 rfl).1; have oc := oc_190_76; omega)) (show (x1).toInt.toNat < 32 from (by have a0 := h2; unfold In at a0; have a1 := h1; unfold In at a1; have a2 := i4; unfold In at a2; have a3 := i72; unfold In at a3; have a4 := t_add e72 h1 (in_c 1 rfl) rfl; have a5 := (in_c 1 rfl); unfold In at a5; have a6 := i56; unfold In at a6; have a7 := t_add e56 i54 h1 rfl; have a8 := i54; unfold In at a8; have a9 := (t_mulc 32 (Or.inr e54) h1 rfl).1; have a10 := i16; unfold In at a10; have a11 := t_add e16 i14 h1 rfl; have a12 := i14; unfold In at a12; have a13 := (t_mulc 32 (Or.inr e14) i4 rfl).1; have oc := oc_190_76; omega)); have gx := grd_g gr (show (x1).toInt.toNat < 32 from (by have a0 := h2; unfold In at a0; have a1 := h1; unfold In at a1; have a2 := i4; unfold In at a2; have a3 := i72; unfold In at a3; have a4 := t_add e72 h1 (in_c 1 rfl) rfl; have a5 := (in_c 1 rfl); unfold In at a5; have a6 := i56; unfold In at a6; have a7 := t_add e56 i54 h1 rfl; have a8 := i54; unfold In at a8; have a9 := (t_mulc 32 (Or.inr e54) h1 rfl).1; have a10 := i16; unfold In at a10; have a11 := t_add e16 i14 h1 rfl; have a12 := i14; unfold In at a12; have a13 := (t_mulc 32 (Or.inr e14) i4 rfl).1; have oc := oc_190_76; omega)) (show (x1).toInt.toNat < 32 from (by have a0 := h2; unfold In at a0; have a1 := h1; unfold In at a1; have a2 := i4; unfold In at a2; have a3 := i72; unfold In at a3; have a4 := t_add e72 h1 (in_c 1 rfl) rfl; have a5 := (in_c 1 rfl); unfold In at a5; have a6 := i56; unfold In at a6; have a7 := t_add e56 i54 h1 rfl; have a8 := i54; unfold In at a8; have a9 := (t_mulc 32 (Or.inr e54) h1 rfl).1; have a10 := i16; unfold In at a10; have a11 := t_add e16 i14 h1 rfl; have a12 := i14; unfold In at a12; have a13 := (t_mulc 32 (Or.inr e14) i4 rfl).1; have oc := oc_190_76; omega)); rw [← tp] at gx; exact tp
              have n75d : MC (gat (swf (s.2.1 85) (y2_3).toNatClampNeg (x1).toNatClampNeg) (x1).toNatClampNeg (x1).toNatClampNeg * (z65).toInt) 1 := by have eqf : ∀ k, k < 1024 → sc2.2.1 85 k = (swf (s.2.1 85) (y2_3).toNatClampNeg (x1).toNatClampNeg) k := (fun k _ => by rw [g2_0, swf_s (show (y2_3).toInt.toNat = (x1).toInt.toNat from (by have a0 := h2; unfold In at a0; have a1 := h1; unfold In at a1; have a2 := i4; unfold In at a2; have a3 := i72; unfold In at a3; have a4 := t_add e72 h1 (in_c 1 rfl) rfl; have a5 := (in_c 1 rfl); unfold In at a5; have a6 := i56; unfold In at a6; have a7 := t_add e56 i54 h1 rfl; have a8 := i54; unfold In at a8; have a9 := (t_mulc 32 (Or.inr e54) h1 rfl).1; have a10 := i16; unfold In at a10; have a11 := t_add e16 i14 h1 rfl; have a12 := i14; unfold In at a12; have a13 := (t_mulc 32 (Or.inr e14) i4 rfl).1; have oc := oc_190_76; omega))]); have ez : z56.toNatClampNeg = 32 * (x1).toNatClampNeg + (x1).toNatClampNeg := (by show z56.toInt.toNat = 32 * (x1).toInt.toNat + (x1).toInt.toNat; have a0 := h2; unfold In at a0; have a1 := h1; unfold In at a1; have a2 := i4; unfold In at a2; have a3 := i72; unfold In at a3; have a4 := t_add e72 h1 (in_c 1 rfl) rfl; have a5 := (in_c 1 rfl); unfold In at a5; have a6 := i56; unfold In at a6; have a7 := t_add e56 i54 h1 rfl; have a8 := i54; unfold In at a8; have a9 := (t_mulc 32 (Or.inr e54) h1 rfl).1; have a10 := i16; unfold In at a10; have a11 := t_add e16 i14 h1 rfl; have a12 := i14; unfold In at a12; have a13 := (t_mulc 32 (Or.inr e14) i4 rfl).1; have oc := oc_190_76; omega); have tp : (z57).toInt = gat (swf (s.2.1 85) (y2_3).toNatClampNeg (x1).toNatClampNeg) (x1).toNatClampNeg (x1).toNatClampNeg := (by show (z57).toInt = ((swf (s.2.1 85) (y2_3).toNatClampNeg (x1).toNatClampNeg) (32 * (x1).toNatClampNeg + (x1).toNatClampNeg)).toInt; rw [← ez, e57]; exact congrArg Int64.toInt (eqf _ (show z56.toInt.toNat < 1024 from (by have a0 := h2; unfold In at a0; have a1 := h1; unfold In at a1; have a2 := i4; unfold In at a2; have a3 := i72; unfold In at a3; have a4 := t_add e72 h1 (in_c 1 rfl) rfl; have a5 := (in_c 1 rfl); unfold In at a5; have a6 := i56; unfold In at a6; have a7 := t_add e56 i54 h1 rfl; have a8 := i54; unfold In at a8; have a9 := (t_mulc 32 (Or.inr e54) h1 rfl).1; have a10 := i16; unfold In at a10; have a11 := t_add e16 i14 h1 rfl; have a12 := i14; unfold In at a12; have a13 := (t_mulc 32 (Or.inr e14) i4 rfl).1; have oc := oc_190_76; omega)))); have gr := grd_w q_0 (show (y2_3).toInt.toNat < 32 from (by have a0 := h2; unfold In at a0; have a1 := h1; unfold In at a1; have a2 := i4; unfold In at a2; have a3 := i72; unfold In at a3; have a4 := t_add e72 h1 (in_c 1 rfl) rfl; have a5 := (in_c 1 rfl); unfold In at a5; have a6 := i56; unfold In at a6; have a7 := t_add e56 i54 h1 rfl; have a8 := i54; unfold In at a8; have a9 := (t_mulc 32 (Or.inr e54) h1 rfl).1; have a10 := i16; unfold In at a10; have a11 := t_add e16 i14 h1 rfl; have a12 := i14; unfold In at a12; have a13 := (t_mulc 32 (Or.inr e14) i4 rfl).1; have oc := oc_190_76; omega)) (show (x1).toInt.toNat < 32 from (by have a0 := h2; unfold In at a0; have a1 := h1; unfold In at a1; have a2 := i4; unfold In at a2; have a3 := i72; unfold In at a3; have a4 := t_add e72 h1 (in_c 1 rfl) rfl; have a5 := (in_c 1 rfl); unfold In at a5; have a6 := i56; unfold In at a6; have a7 := t_add e56 i54 h1 rfl; have a8 := i54; unfold In at a8; have a9 := (t_mulc 32 (Or.inr e54) h1 rfl).1; have a10 := i16; unfold In at a10; have a11 := t_add e16 i14 h1 rfl; have a12 := i14; unfold In at a12; have a13 := (t_mulc 32 (Or.inr e14) i4 rfl).1; have oc := oc_190_76; omega)); have gx := grd_g gr (show (x1).toInt.toNat < 32 from (by have a0 := h2; unfold In at a0; have a1 := h1; unfold In at a1; have a2 := i4; unfold In at a2; have a3 := i72; unfold In at a3; have a4 := t_add e72 h1 (in_c 1 rfl) rfl; have a5 := (in_c 1 rfl); unfold In at a5; have a6 := i56; unfold In at a6; have a7 := t_add e56 i54 h1 rfl; have a8 := i54; unfold In at a8; have a9 := (t_mulc 32 (Or.inr e54) h1 rfl).1; have a10 := i16; unfold In at a10; have a11 := t_add e16 i14 h1 rfl; have a12 := i14; unfold In at a12; have a13 := (t_mulc 32 (Or.inr e14) i4 rfl).1; have oc := oc_190_76; omega)) (show (x1).toInt.toNat < 32 from (by have a0 := h2; unfold In at a0; have a1 := h1; unfold In at a1; have a2 := i4; unfold In at a2; have a3 := i72; unfold In at a3; have a4 := t_add e72 h1 (in_c 1 rfl) rfl; have a5 := (in_c 1 rfl); unfold In at a5; have a6 := i56; unfold In at a6; have a7 := t_add e56 i54 h1 rfl; have a8 := i54; unfold In at a8; have a9 := (t_mulc 32 (Or.inr e54) h1 rfl).1; have a10 := i16; unfold In at a10; have a11 := t_add e16 i14 h1 rfl; have a12 := i14; unfold In at a12; have a13 := (t_mulc 32 (Or.inr e14) i4 rfl).1; have oc := oc_190_76; omega)); rw [← tp] at gx; have nz : (z57).toInt ≠ 0 := (by rw [tp, swf_i (show (x1).toInt.toNat < 32 from (by have a0 := h2; unfold In at a0; have a1 := h1; unfold In at a1; have a2 := i4; unfold In at a2; have a3 := i72; unfold In at a3; have a4 := t_add e72 h1 (in_c 1 rfl) rfl; have a5 := (in_c 1 rfl); unfold In at a5; have a6 := i56; unfold In at a6; have a7 := t_add e56 i54 h1 rfl; have a8 := i54; unfold In at a8; have a9 := (t_mulc 32 (Or.inr e54) h1 rfl).1; have a10 := i16; unfold In at a10; have a11 := t_add e16 i14 h1 rfl; have a12 := i14; unfold In at a12; have a13 := (t_mulc 32 (Or.inr e14) i4 rfl).1; have oc := oc_190_76; omega))]; by_cases hc : (x1).toNatClampNeg = (y2_3).toNatClampNeg; (rw [if_pos hc, show gat (s.2.1 85) (x1).toNatClampNeg (x1).toNatClampNeg = gat (s.2.1 85) (y2_3).toNatClampNeg (x1).toNatClampNeg from congrArg (fun z => gat (s.2.1 85) z (x1).toNatClampNeg) hc, (show gat (s.2.1 85) (y2_3).toNatClampNeg (x1).toNatClampNeg = (z17).toInt from (by show ((s.2.1 85) (32 * (y2_3).toNatClampNeg + (x1).toNatClampNeg)).toInt = (z17).toInt; rw [← (show z16.toNatClampNeg = 32 * (y2_3).toNatClampNeg + (x1).toNatClampNeg from (by show z16.toInt.toNat = 32 * (y2_3).toInt.toNat + (x1).toInt.toNat; have a0 := h2; unfold In at a0; have a1 := h1; unfold In at a1; have a2 := i4; unfold In at a2; have a3 := i72; unfold In at a3; have a4 := t_add e72 h1 (in_c 1 rfl) rfl; have a5 := (in_c 1 rfl); unfold In at a5; have a6 := i56; unfold In at a6; have a7 := t_add e56 i54 h1 rfl; have a8 := i54; unfold In at a8; have a9 := (t_mulc 32 (Or.inr e54) h1 rfl).1; have a10 := i16; unfold In at a10; have a11 := t_add e16 i14 h1 rfl; have a12 := i14; unfold In at a12; have a13 := (t_mulc 32 (Or.inr e14) i4 rfl).1; have oc := oc_190_76; omega)), ← g2_0]; exact congrArg Int64.toInt e17.symm))]; have a0 := h2; unfold In at a0; have a1 := h1; unfold In at a1; have a2 := i4; unfold In at a2; have a3 := i72; unfold In at a3; have a4 := t_add e72 h1 (in_c 1 rfl) rfl; have a5 := (in_c 1 rfl); unfold In at a5; have a6 := i56; unfold In at a6; have a7 := t_add e56 i54 h1 rfl; have a8 := i54; unfold In at a8; have a9 := (t_mulc 32 (Or.inr e54) h1 rfl).1; have a10 := i16; unfold In at a10; have a11 := t_add e16 i14 h1 rfl; have a12 := i14; unfold In at a12; have a13 := (t_mulc 32 (Or.inr e14) i4 rfl).1; have oc := oc_190_76; omega); (rw [if_neg hc, if_pos rfl, (show gat (s.2.1 85) (y2_3).toNatClampNeg (x1).toNatClampNeg = (z17).toInt from (by show ((s.2.1 85) (32 * (y2_3).toNatClampNeg + (x1).toNatClampNeg)).toInt = (z17).toInt; rw [← (show z16.toNatClampNeg = 32 * (y2_3).toNatClampNeg + (x1).toNatClampNeg from (by show z16.toInt.toNat = 32 * (y2_3).toInt.toNat + (x1).toInt.toNat; have a0 := h2; unfold In at a0; have a1 := h1; unfold In at a1; have a2 := i4; unfold In at a2; have a3 := i72; unfold In at a3; have a4 := t_add e72 h1 (in_c 1 rfl) rfl; have a5 := (in_c 1 rfl); unfold In at a5; have a6 := i56; unfold In at a6; have a7 := t_add e56 i54 h1 rfl; have a8 := i54; unfold In at a8; have a9 := (t_mulc 32 (Or.inr e54) h1 rfl).1; have a10 := i16; unfold In at a10; have a11 := t_add e16 i14 h1 rfl; have a12 := i14; unfold In at a12; have a13 := (t_mulc 32 (Or.inr e14) i4 rfl).1; have oc := oc_190_76; omega)), ← g2_0]; exact congrArg Int64.toInt e17.symm))]; have a0 := h2; unfold In at a0; have a1 := h1; unfold In at a1; have a2 := i4; unfold In at a2; have a3 := i72; unfold In at a3; have a4 := t_add e72 h1 (in_c 1 rfl) rfl; have a5 := (in_c 1 rfl); unfold In at a5; have a6 := i56; unfold In at a6; have a7 := t_add e56 i54 h1 rfl; have a8 := i54; unfold In at a8; have a9 := (t_mulc 32 (Or.inr e54) h1 rfl).1; have a10 := i16; unfold In at a10; have a11 := t_add e16 i14 h1 rfl; have a12 := i14; unfold In at a12; have a13 := (t_mulc 32 (Or.inr e14) i4 rfl).1; have oc := oc_190_76; omega)); rw [← tp]; exact inv_w (y := Int64.ofInt 1000000005) rfl (mc_nz nz gx) p65b.2
              have n75e : (0 ≤ (z65).toInt ∧ (z65).toInt < 1000000007) := by have eqf : ∀ k, k < 1024 → sc2.2.1 85 k = (swf (s.2.1 85) (y2_3).toNatClampNeg (x1).toNatClampNeg) k := (fun k _ => by rw [g2_0, swf_s (show (y2_3).toInt.toNat = (x1).toInt.toNat from (by have a0 := h2; unfold In at a0; have a1 := h1; unfold In at a1; have a2 := i4; unfold In at a2; have a3 := i72; unfold In at a3; have a4 := t_add e72 h1 (in_c 1 rfl) rfl; have a5 := (in_c 1 rfl); unfold In at a5; have a6 := i56; unfold In at a6; have a7 := t_add e56 i54 h1 rfl; have a8 := i54; unfold In at a8; have a9 := (t_mulc 32 (Or.inr e54) h1 rfl).1; have a10 := i16; unfold In at a10; have a11 := t_add e16 i14 h1 rfl; have a12 := i14; unfold In at a12; have a13 := (t_mulc 32 (Or.inr e14) i4 rfl).1; have oc := oc_190_76; omega))]); exact p65b.1
              have n75f : ((x1).toInt ≤ (y2_3).toInt ∧ (y2_3).toInt < (x2).toInt) := by have eqf : ∀ k, k < 1024 → sc2.2.1 85 k = (swf (s.2.1 85) (y2_3).toNatClampNeg (x1).toNatClampNeg) k := (fun k _ => by rw [g2_0, swf_s (show (y2_3).toInt.toNat = (x1).toInt.toNat from (by have a0 := h2; unfold In at a0; have a1 := h1; unfold In at a1; have a2 := i4; unfold In at a2; have a3 := i72; unfold In at a3; have a4 := t_add e72 h1 (in_c 1 rfl) rfl; have a5 := (in_c 1 rfl); unfold In at a5; have a6 := i56; unfold In at a6; have a7 := t_add e56 i54 h1 rfl; have a8 := i54; unfold In at a8; have a9 := (t_mulc 32 (Or.inr e54) h1 rfl).1; have a10 := i16; unfold In at a10; have a11 := t_add e16 i14 h1 rfl; have a12 := i14; unfold In at a12; have a13 := (t_mulc 32 (Or.inr e14) i4 rfl).1; have oc := oc_190_76; omega))]); constructor; (have a0 := h2; unfold In at a0; have a1 := h1; unfold In at a1; have a2 := i4; unfold In at a2; have a3 := i72; unfold In at a3; have a4 := t_add e72 h1 (in_c 1 rfl) rfl; have a5 := (in_c 1 rfl); unfold In at a5; have a6 := i56; unfold In at a6; have a7 := t_add e56 i54 h1 rfl; have a8 := i54; unfold In at a8; have a9 := (t_mulc 32 (Or.inr e54) h1 rfl).1; have a10 := i16; unfold In at a10; have a11 := t_add e16 i14 h1 rfl; have a12 := i14; unfold In at a12; have a13 := (t_mulc 32 (Or.inr e14) i4 rfl).1; have oc := oc_190_76; omega); (have a0 := h2; unfold In at a0; have a1 := h1; unfold In at a1; have a2 := i4; unfold In at a2; have a3 := i72; unfold In at a3; have a4 := t_add e72 h1 (in_c 1 rfl) rfl; have a5 := (in_c 1 rfl); unfold In at a5; have a6 := i56; unfold In at a6; have a7 := t_add e56 i54 h1 rfl; have a8 := i54; unfold In at a8; have a9 := (t_mulc 32 (Or.inr e54) h1 rfl).1; have a10 := i16; unfold In at a10; have a11 := t_add e16 i14 h1 rfl; have a12 := i14; unfold In at a12; have a13 := (t_mulc 32 (Or.inr e14) i4 rfl).1; have oc := oc_190_76; omega)
              exact gg_w (by omega) (gg_f (gf_cons rfl (gf_cons rfl (gf_cons rfl (gf_cons rfl (gf_cons rfl (gf_cons rfl (gf_cons rfl gf_nil))))))) (ct75 31 sc2 y2_3 z57 z65 z72 hIc2 hFc2 (in_w 0 30 i4 rfl) (in_w 1 31 i72 rfl) n75 n75a n75b n75c n75d n75e n75f (m_in 31 (in_w 1 31 i72 rfl) rfl)))
            · skip
              refine g_aload_n 42 (gd rfl) rfl rfl ?_
              refine g_iload_n 43 (gd rfl) rfl rfl ?_
              refine g_iload_n 44 (gd rfl) rfl rfl ?_
              have p44 : ((y2_3).toInt ≠ (x1).toInt) := by have a0 := h2; unfold In at a0; have a1 := h1; unfold In at a1; have a2 := i4; unfold In at a2; have a3 := i16; unfold In at a3; have a4 := t_add e16 i14 h1 rfl; have a5 := i14; unfold In at a5; have a6 := (t_mulc 32 (Or.inr e14) i4 rfl).1; have oc := oc_190_76; omega
              refine g_callv (X := _) (As := [.int y2_3, .int x1]) (r := []) (b := A 76) (q := 76) 47 (gd rfl) rfl rfl rfl rfl rfl (ww_o rfl) (Nat.le_of_ble_eq_true rfl) (Nat.zero_le _) (Nat.zero_le _) (f_191_76 (by omega) hIc2 (in_w 0 30 i4 rfl) (in_w 0 30 h1 rfl) p44) (fun e u h => h) (fun v u h => ?_)
              obtain ⟨s44, hI44, hF44, rfl, rfl, p44a⟩ := h
              show GG _ _ _ _ _ _ _ _ [] _ _ _
              refine g_aload_n 48 (gd rfl) rfl rfl ?_
              refine g_getA (q2 := 85) 51 (gd rfl) rfl rfl rfl rfl ?_
              refine g_iload_n 52 (gd rfl) rfl rfl ?_
              refine g_bipush 32 54 (gd rfl) rfl rfl ?_
              refine g_imul 55 (gd rfl) rfl (fun z54 e54 => ?_)
              have i54 := in_mulc 32 0 960 (Or.inr e54) h1 rfl rfl
              refine g_iload_n 56 (gd rfl) rfl rfl ?_
              refine g_iadd 57 (gd rfl) rfl (fun z56 e56 => ?_)
              have i56 := in_add 0 990 e56 i54 h1 rfl rfl
              refine g_laload 58 (gd rfl) rfl (n := 1024) rfl (in_ix i56 rfl) (fun z57 e57 => ?_)
              refine g_lstore 60 (gd rfl) rfl (Nat.le_of_ble_eq_true rfl) ?_
              refine g_lload 62 (gd rfl) rfl rfl ?_
              refine g_ldc2_w 1000000005 65 (gd rfl) rfl rfl ?_
              have p65 : (0 ≤ (z57).toInt ∧ (z57).toInt < 1000000007) := by have hp := p44a; rw [g2_0] at hp; have eqf : ∀ k, k < 1024 → s44.2.1 85 k = (swf (s.2.1 85) (y2_3).toNatClampNeg (x1).toNatClampNeg) k := hp; have ez : z56.toNatClampNeg = 32 * (x1).toNatClampNeg + (x1).toNatClampNeg := (by show z56.toInt.toNat = 32 * (x1).toInt.toNat + (x1).toInt.toNat; have a0 := h2; unfold In at a0; have a1 := h1; unfold In at a1; have a2 := i4; unfold In at a2; have a3 := i56; unfold In at a3; have a4 := t_add e56 i54 h1 rfl; have a5 := i54; unfold In at a5; have a6 := (t_mulc 32 (Or.inr e54) h1 rfl).1; have a7 := i16; unfold In at a7; have a8 := t_add e16 i14 h1 rfl; have a9 := i14; unfold In at a9; have a10 := (t_mulc 32 (Or.inr e14) i4 rfl).1; have oc := oc_190_76; omega); have tp : (z57).toInt = gat (swf (s.2.1 85) (y2_3).toNatClampNeg (x1).toNatClampNeg) (x1).toNatClampNeg (x1).toNatClampNeg := (by show (z57).toInt = ((swf (s.2.1 85) (y2_3).toNatClampNeg (x1).toNatClampNeg) (32 * (x1).toNatClampNeg + (x1).toNatClampNeg)).toInt; rw [← ez, e57]; exact congrArg Int64.toInt (eqf _ (show z56.toInt.toNat < 1024 from (by have a0 := h2; unfold In at a0; have a1 := h1; unfold In at a1; have a2 := i4; unfold In at a2; have a3 := i56; unfold In at a3; have a4 := t_add e56 i54 h1 rfl; have a5 := i54; unfold In at a5; have a6 := (t_mulc 32 (Or.inr e54) h1 rfl).1; have a7 := i16; unfold In at a7; have a8 := t_add e16 i14 h1 rfl; have a9 := i14; unfold In at a9; have a10 := (t_mulc 32 (Or.inr e14) i4 rfl).1; have oc := oc_190_76; omega)))); have gr := grd_w q_0 (show (y2_3).toInt.toNat < 32 from (by have a0 := h2; unfold In at a0; have a1 := h1; unfold In at a1; have a2 := i4; unfold In at a2; have a3 := i56; unfold In at a3; have a4 := t_add e56 i54 h1 rfl; have a5 := i54; unfold In at a5; have a6 := (t_mulc 32 (Or.inr e54) h1 rfl).1; have a7 := i16; unfold In at a7; have a8 := t_add e16 i14 h1 rfl; have a9 := i14; unfold In at a9; have a10 := (t_mulc 32 (Or.inr e14) i4 rfl).1; have oc := oc_190_76; omega)) (show (x1).toInt.toNat < 32 from (by have a0 := h2; unfold In at a0; have a1 := h1; unfold In at a1; have a2 := i4; unfold In at a2; have a3 := i56; unfold In at a3; have a4 := t_add e56 i54 h1 rfl; have a5 := i54; unfold In at a5; have a6 := (t_mulc 32 (Or.inr e54) h1 rfl).1; have a7 := i16; unfold In at a7; have a8 := t_add e16 i14 h1 rfl; have a9 := i14; unfold In at a9; have a10 := (t_mulc 32 (Or.inr e14) i4 rfl).1; have oc := oc_190_76; omega)); have gx := grd_g gr (show (x1).toInt.toNat < 32 from (by have a0 := h2; unfold In at a0; have a1 := h1; unfold In at a1; have a2 := i4; unfold In at a2; have a3 := i56; unfold In at a3; have a4 := t_add e56 i54 h1 rfl; have a5 := i54; unfold In at a5; have a6 := (t_mulc 32 (Or.inr e54) h1 rfl).1; have a7 := i16; unfold In at a7; have a8 := t_add e16 i14 h1 rfl; have a9 := i14; unfold In at a9; have a10 := (t_mulc 32 (Or.inr e14) i4 rfl).1; have oc := oc_190_76; omega)) (show (x1).toInt.toNat < 32 from (by have a0 := h2; unfold In at a0; have a1 := h1; unfold In at a1; have a2 := i4; unfold In at a2; have a3 := i56; unfold In at a3; have a4 := t_add e56 i54 h1 rfl; have a5 := i54; unfold In at a5; have a6 := (t_mulc 32 (Or.inr e54) h1 rfl).1; have a7 := i16; unfold In at a7; have a8 := t_add e16 i14 h1 rfl; have a9 := i14; unfold In at a9; have a10 := (t_mulc 32 (Or.inr e14) i4 rfl).1; have oc := oc_190_76; omega)); rw [← tp] at gx; exact gx
              have p65a : (0 ≤ ((Int64.ofInt 1000000005)).toInt) := by decide
              refine g_calls (As := [.long z57, .long (Int64.ofInt 1000000005)]) (r := []) 68 (gd rfl) rfl rfl rfl rfl rfl (Nat.le_of_ble_eq_true rfl) (Nat.zero_le _) (Nat.zero_le _) (f_192 (by omega) hI44 p65 p65a) (fun v u h => ?_)
              obtain ⟨z65, rfl, rfl, p65b⟩ := h
              show GG _ _ _ _ _ _ _ _ [.long z65] _ _ _
              refine g_lstore 70 (gd rfl) rfl (Nat.le_of_ble_eq_true rfl) ?_
              refine g_iload_n 71 (gd rfl) rfl rfl ?_
              refine g_iconst 1 72 (gd rfl) rfl rfl ?_
              refine g_iadd 73 (gd rfl) rfl (fun z72 e72 => ?_)
              have i72 := in_add 1 31 e72 h1 (in_c 1 rfl) rfl rfl
              refine g_istore 75 (gd rfl) rfl (Nat.le_of_ble_eq_true rfl) ?_
              have n75 : (x1).toInt < (z72).toInt := by have a0 := h2; unfold In at a0; have a1 := h1; unfold In at a1; have a2 := i4; unfold In at a2; have a3 := i72; unfold In at a3; have a4 := t_add e72 h1 (in_c 1 rfl) rfl; have a5 := (in_c 1 rfl); unfold In at a5; have a6 := i56; unfold In at a6; have a7 := t_add e56 i54 h1 rfl; have a8 := i54; unfold In at a8; have a9 := (t_mulc 32 (Or.inr e54) h1 rfl).1; have a10 := i16; unfold In at a10; have a11 := t_add e16 i14 h1 rfl; have a12 := i14; unfold In at a12; have a13 := (t_mulc 32 (Or.inr e14) i4 rfl).1; have oc := oc_190_76; omega
              have n75a : GRD ((s44).2.1 85) := by have hp := p44a; rw [g2_0] at hp; have eqf : ∀ k, k < 1024 → s44.2.1 85 k = (swf (s.2.1 85) (y2_3).toNatClampNeg (x1).toNatClampNeg) k := hp; exact grd_cg eqf (grd_w q_0 (show (y2_3).toInt.toNat < 32 from (by have a0 := h2; unfold In at a0; have a1 := h1; unfold In at a1; have a2 := i4; unfold In at a2; have a3 := i72; unfold In at a3; have a4 := t_add e72 h1 (in_c 1 rfl) rfl; have a5 := (in_c 1 rfl); unfold In at a5; have a6 := i56; unfold In at a6; have a7 := t_add e56 i54 h1 rfl; have a8 := i54; unfold In at a8; have a9 := (t_mulc 32 (Or.inr e54) h1 rfl).1; have a10 := i16; unfold In at a10; have a11 := t_add e16 i14 h1 rfl; have a12 := i14; unfold In at a12; have a13 := (t_mulc 32 (Or.inr e14) i4 rfl).1; have oc := oc_190_76; omega)) (show (x1).toInt.toNat < 32 from (by have a0 := h2; unfold In at a0; have a1 := h1; unfold In at a1; have a2 := i4; unfold In at a2; have a3 := i72; unfold In at a3; have a4 := t_add e72 h1 (in_c 1 rfl) rfl; have a5 := (in_c 1 rfl); unfold In at a5; have a6 := i56; unfold In at a6; have a7 := t_add e56 i54 h1 rfl; have a8 := i54; unfold In at a8; have a9 := (t_mulc 32 (Or.inr e54) h1 rfl).1; have a10 := i16; unfold In at a10; have a11 := t_add e16 i14 h1 rfl; have a12 := i14; unfold In at a12; have a13 := (t_mulc 32 (Or.inr e14) i4 rfl).1; have oc := oc_190_76; omega)))
              have n75b : PVJ (swf (s.2.1 85) (y2_3).toNatClampNeg (x1).toNatClampNeg) ((s44).2.1 85) (x1).toNatClampNeg (x2).toNatClampNeg (z72).toNatClampNeg (x1).toNatClampNeg (z65).toInt := by have hp := p44a; rw [g2_0] at hp; have eqf : ∀ k, k < 1024 → s44.2.1 85 k = (swf (s.2.1 85) (y2_3).toNatClampNeg (x1).toNatClampNeg) k := hp; exact pvj_0 (show (z72).toInt.toNat = (x1).toInt.toNat + 1 from (by have a0 := h2; unfold In at a0; have a1 := h1; unfold In at a1; have a2 := i4; unfold In at a2; have a3 := i72; unfold In at a3; have a4 := t_add e72 h1 (in_c 1 rfl) rfl; have a5 := (in_c 1 rfl); unfold In at a5; have a6 := i56; unfold In at a6; have a7 := t_add e56 i54 h1 rfl; have a8 := i54; unfold In at a8; have a9 := (t_mulc 32 (Or.inr e54) h1 rfl).1; have a10 := i16; unfold In at a10; have a11 := t_add e16 i14 h1 rfl; have a12 := i14; unfold In at a12; have a13 := (t_mulc 32 (Or.inr e14) i4 rfl).1; have oc := oc_190_76; omega)) eqf
              have n75c : (z57).toInt = gat (swf (s.2.1 85) (y2_3).toNatClampNeg (x1).toNatClampNeg) (x1).toNatClampNeg (x1).toNatClampNeg := by have hp := p44a; rw [g2_0] at hp; have eqf : ∀ k, k < 1024 → s44.2.1 85 k = (swf (s.2.1 85) (y2_3).toNatClampNeg (x1).toNatClampNeg) k := hp; have ez : z56.toNatClampNeg = 32 * (x1).toNatClampNeg + (x1).toNatClampNeg := (by show z56.toInt.toNat = 32 * (x1).toInt.toNat + (x1).toInt.toNat; have a0 := h2; unfold In at a0; have a1 := h1; unfold In at a1; have a2 := i4; unfold In at a2; have a3 := i72; unfold In at a3; have a4 := t_add e72 h1 (in_c 1 rfl) rfl; have a5 := (in_c 1 rfl); unfold In at a5; have a6 := i56; unfold In at a6; have a7 := t_add e56 i54 h1 rfl; have a8 := i54; unfold In at a8; have a9 := (t_mulc 32 (Or.inr e54) h1 rfl).1; have a10 := i16; unfold In at a10; have a11 := t_add e16 i14 h1 rfl; have a12 := i14; unfold In at a12; have a13 := (t_mulc 32 (Or.inr e14) i4 rfl).1; have oc := oc_190_76; omega); have tp : (z57).toInt = gat (swf (s.2.1 85) (y2_3).toNatClampNeg (x1).toNatClampNeg) (x1).toNatClampNeg (x1).toNatClampNeg := (by show (z57).toInt = ((swf (s.2.1 85) (y2_3).toNatClampNeg (x1).toNatClampNeg) (32 * (x1).toNatClampNeg + (x1).toNatClampNeg)).toInt; rw [← ez, e57]; exact congrArg Int64.toInt (eqf _ (show z56.toInt.toNat < 1024 from (by have a0 := h2; unfold In at a0; have a1 := h1; unfold In at a1; have a2 := i4; unfold In at a2; have a3 := i72; unfold In at a3; have a4 := t_add e72 h1 (in_c 1 rfl) rfl; have a5 := (in_c 1 rfl); unfold In at a5; have a6 := i56; unfold In at a6; have a7 := t_add e56 i54 h1 rfl; have a8 := i54; unfold In at a8; have a9 := (t_mulc 32 (Or.inr e54) h1 rfl).1; have a10 := i16; unfold In at a10; have a11 := t_add e16 i14 h1 rfl; have a12 := i14; unfold In at a12; have a13 := (t_mulc 32 (Or.inr e14) i4 rfl).1; have oc := oc_190_76; omega)))); have gr := grd_w q_0 (show (y2_3).toInt.toNat < 32 from (by have a0 := h2; unfold In at a0; have a1 := h1; unfold In at a1; have a2 := i4; unfold In at a2; have a3 := i72; unfold In at a3; have a4 := t_add e72 h1 (in_c 1 rfl) rfl; have a5 := (in_c 1 rfl); unfold In at a5; have a6 := i56; unfold In at a6; have a7 := t_add e56 i54 h1 rfl; have a8 := i54; unfold In at a8; have a9 := (t_mulc 32 (Or.inr e54) h1 rfl).1; have a10 := i16; unfold In at a10; have a11 := t_add e16 i14 h1 rfl; have a12 := i14; unfold In at a12; have a13 := (t_mulc 32 (Or.inr e14) i4 rfl).1; have oc := oc_190_76; omega)) (show (x1).toInt.toNat < 32 from (by have a0 := h2; unfold In at a0; have a1 := h1; unfold In at a1; have a2 := i4; unfold In at a2; have a3 := i72; unfold In at a3; have a4 := t_add e72 h1 (in_c 1 rfl) rfl; have a5 := (in_c 1 rfl); unfold In at a5; have a6 := i56; unfold In at a6; have a7 := t_add e56 i54 h1 rfl; have a8 := i54; unfold In at a8; have a9 := (t_mulc 32 (Or.inr e54) h1 rfl).1; have a10 := i16; unfold In at a10; have a11 := t_add e16 i14 h1 rfl; have a12 := i14; unfold In at a12; have a13 := (t_mulc 32 (Or.inr e14) i4 rfl).1; have oc := oc_190_76; omega)); have gx := grd_g gr (show (x1).toInt.toNat < 32 from (by have a0 := h2; unfold In at a0; have a1 := h1; unfold In at a1; have a2 := i4; unfold In at a2; have a3 := i72; unfold In at a3; have a4 := t_add e72 h1 (in_c 1 rfl) rfl; have a5 := (in_c 1 rfl); unfold In at a5; have a6 := i56; unfold In at a6; have a7 := t_add e56 i54 h1 rfl; have a8 := i54; unfold In at a8; have a9 := (t_mulc 32 (Or.inr e54) h1 rfl).1; have a10 := i16; unfold In at a10; have a11 := t_add e16 i14 h1 rfl; have a12 := i14; unfold In at a12; have a13 := (t_mulc 32 (Or.inr e14) i4 rfl).1; have oc := oc_190_76; omega)) (show (x1).toInt.toNat < 32 from (by have a0 := h2; unfold In at a0; have a1 := h1; unfold In at a1; have a2 := i4; unfold In at a2; have a3 := i72; unfold In at a3; have a4 := t_add e72 h1 (in_c 1 rfl) rfl; have a5 := (in_c 1 rfl); unfold In at a5; have a6 := i56; unfold In at a6; have a7 := t_add e56 i54 h1 rfl; have a8 := i54; unfold In at a8; have a9 := (t_mulc 32 (Or.inr e54) h1 rfl).1; have a10 := i16; unfold In at a10; have a11 := t_add e16 i14 h1 rfl; have a12 := i14; unfold In at a12; have a13 := (t_mulc 32 (Or.inr e14) i4 rfl).1; have oc := oc_190_76; omega)); rw [← tp] at gx; exact tp
              have n75d : MC (gat (swf (s.2.1 85) (y2_3).toNatClampNeg (x1).toNatClampNeg) (x1).toNatClampNeg (x1).toNatClampNeg * (z65).toInt) 1 := by have hp := p44a; rw [g2_0] at hp; have eqf : ∀ k, k < 1024 → s44.2.1 85 k = (swf (s.2.1 85) (y2_3).toNatClampNeg (x1).toNatClampNeg) k := hp; have ez : z56.toNatClampNeg = 32 * (x1).toNatClampNeg + (x1).toNatClampNeg := (by show z56.toInt.toNat = 32 * (x1).toInt.toNat + (x1).toInt.toNat; have a0 := h2; unfold In at a0; have a1 := h1; unfold In at a1; have a2 := i4; unfold In at a2; have a3 := i72; unfold In at a3; have a4 := t_add e72 h1 (in_c 1 rfl) rfl; have a5 := (in_c 1 rfl); unfold In at a5; have a6 := i56; unfold In at a6; have a7 := t_add e56 i54 h1 rfl; have a8 := i54; unfold In at a8; have a9 := (t_mulc 32 (Or.inr e54) h1 rfl).1; have a10 := i16; unfold In at a10; have a11 := t_add e16 i14 h1 rfl; have a12 := i14; unfold In at a12; have a13 := (t_mulc 32 (Or.inr e14) i4 rfl).1; have oc := oc_190_76; omega); have tp : (z57).toInt = gat (swf (s.2.1 85) (y2_3).toNatClampNeg (x1).toNatClampNeg) (x1).toNatClampNeg (x1).toNatClampNeg := (by show (z57).toInt = ((swf (s.2.1 85) (y2_3).toNatClampNeg (x1).toNatClampNeg) (32 * (x1).toNatClampNeg + (x1).toNatClampNeg)).toInt; rw [← ez, e57]; exact congrArg Int64.toInt (eqf _ (show z56.toInt.toNat < 1024 from (by have a0 := h2; unfold In at a0; have a1 := h1; unfold In at a1; have a2 := i4; unfold In at a2; have a3 := i72; unfold In at a3; have a4 := t_add e72 h1 (in_c 1 rfl) rfl; have a5 := (in_c 1 rfl); unfold In at a5; have a6 := i56; unfold In at a6; have a7 := t_add e56 i54 h1 rfl; have a8 := i54; unfold In at a8; have a9 := (t_mulc 32 (Or.inr e54) h1 rfl).1; have a10 := i16; unfold In at a10; have a11 := t_add e16 i14 h1 rfl; have a12 := i14; unfold In at a12; have a13 := (t_mulc 32 (Or.inr e14) i4 rfl).1; have oc := oc_190_76; omega)))); have gr := grd_w q_0 (show (y2_3).toInt.toNat < 32 from (by have a0 := h2; unfold In at a0; have a1 := h1; unfold In at a1; have a2 := i4; unfold In at a2; have a3 := i72; unfold In at a3; have a4 := t_add e72 h1 (in_c 1 rfl) rfl; have a5 := (in_c 1 rfl); unfold In at a5; have a6 := i56; unfold In at a6; have a7 := t_add e56 i54 h1 rfl; have a8 := i54; unfold In at a8; have a9 := (t_mulc 32 (Or.inr e54) h1 rfl).1; have a10 := i16; unfold In at a10; have a11 := t_add e16 i14 h1 rfl; have a12 := i14; unfold In at a12; have a13 := (t_mulc 32 (Or.inr e14) i4 rfl).1; have oc := oc_190_76; omega)) (show (x1).toInt.toNat < 32 from (by have a0 := h2; unfold In at a0; have a1 := h1; unfold In at a1; have a2 := i4; unfold In at a2; have a3 := i72; unfold In at a3; have a4 := t_add e72 h1 (in_c 1 rfl) rfl; have a5 := (in_c 1 rfl); unfold In at a5; have a6 := i56; unfold In at a6; have a7 := t_add e56 i54 h1 rfl; have a8 := i54; unfold In at a8; have a9 := (t_mulc 32 (Or.inr e54) h1 rfl).1; have a10 := i16; unfold In at a10; have a11 := t_add e16 i14 h1 rfl; have a12 := i14; unfold In at a12; have a13 := (t_mulc 32 (Or.inr e14) i4 rfl).1; have oc := oc_190_76; omega)); have gx := grd_g gr (show (x1).toInt.toNat < 32 from (by have a0 := h2; unfold In at a0; have a1 := h1; unfold In at a1; have a2 := i4; unfold In at a2; have a3 := i72; unfold In at a3; have a4 := t_add e72 h1 (in_c 1 rfl) rfl; have a5 := (in_c 1 rfl); unfold In at a5; have a6 := i56; unfold In at a6; have a7 := t_add e56 i54 h1 rfl; have a8 := i54; unfold In at a8; have a9 := (t_mulc 32 (Or.inr e54) h1 rfl).1; have a10 := i16; unfold In at a10; have a11 := t_add e16 i14 h1 rfl; have a12 := i14; unfold In at a12; have a13 := (t_mulc 32 (Or.inr e14) i4 rfl).1; have oc := oc_190_76; omega)) (show (x1).toInt.toNat < 32 from (by have a0 := h2; unfold In at a0; have a1 := h1; unfold In at a1; have a2 := i4; unfold In at a2; have a3 := i72; unfold In at a3; have a4 := t_add e72 h1 (in_c 1 rfl) rfl; have a5 := (in_c 1 rfl); unfold In at a5; have a6 := i56; unfold In at a6; have a7 := t_add e56 i54 h1 rfl; have a8 := i54; unfold In at a8; have a9 := (t_mulc 32 (Or.inr e54) h1 rfl).1; have a10 := i16; unfold In at a10; have a11 := t_add e16 i14 h1 rfl; have a12 := i14; unfold In at a12; have a13 := (t_mulc 32 (Or.inr e14) i4 rfl).1; have oc := oc_190_76; omega)); rw [← tp] at gx; have nz : (z57).toInt ≠ 0 := (by rw [tp, swf_i (show (x1).toInt.toNat < 32 from (by have a0 := h2; unfold In at a0; have a1 := h1; unfold In at a1; have a2 := i4; unfold In at a2; have a3 := i72; unfold In at a3; have a4 := t_add e72 h1 (in_c 1 rfl) rfl; have a5 := (in_c 1 rfl); unfold In at a5; have a6 := i56; unfold In at a6; have a7 := t_add e56 i54 h1 rfl; have a8 := i54; unfold In at a8; have a9 := (t_mulc 32 (Or.inr e54) h1 rfl).1; have a10 := i16; unfold In at a10; have a11 := t_add e16 i14 h1 rfl; have a12 := i14; unfold In at a12; have a13 := (t_mulc 32 (Or.inr e14) i4 rfl).1; have oc := oc_190_76; omega))]; by_cases hc : (x1).toNatClampNeg = (y2_3).toNatClampNeg; (rw [if_pos hc, show gat (s.2.1 85) (x1).toNatClampNeg (x1).toNatClampNeg = gat (s.2.1 85) (y2_3).toNatClampNeg (x1).toNatClampNeg from congrArg (fun z => gat (s.2.1 85) z (x1).toNatClampNeg) hc, (show gat (s.2.1 85) (y2_3).toNatClampNeg (x1).toNatClampNeg = (z17).toInt from (by show ((s.2.1 85) (32 * (y2_3).toNatClampNeg + (x1).toNatClampNeg)).toInt = (z17).toInt; rw [← (show z16.toNatClampNeg = 32 * (y2_3).toNatClampNeg + (x1).toNatClampNeg from (by show z16.toInt.toNat = 32 * (y2_3).toInt.toNat + (x1).toInt.toNat; have a0 := h2; unfold In at a0; have a1 := h1; unfold In at a1; have a2 := i4; unfold In at a2; have a3 := i72; unfold In at a3; have a4 := t_add e72 h1 (in_c 1 rfl) rfl; have a5 := (in_c 1 rfl); unfold In at a5; have a6 := i56; unfold In at a6; have a7 := t_add e56 i54 h1 rfl; have a8 := i54; unfold In at a8; have a9 := (t_mulc 32 (Or.inr e54) h1 rfl).1; have a10 := i16; unfold In at a10; have a11 := t_add e16 i14 h1 rfl; have a12 := i14; unfold In at a12; have a13 := (t_mulc 32 (Or.inr e14) i4 rfl).1; have oc := oc_190_76; omega)), ← g2_0]; exact congrArg Int64.toInt e17.symm))]; have a0 := h2; unfold In at a0; have a1 := h1; unfold In at a1; have a2 := i4; unfold In at a2; have a3 := i72; unfold In at a3; have a4 := t_add e72 h1 (in_c 1 rfl) rfl; have a5 := (in_c 1 rfl); unfold In at a5; have a6 := i56; unfold In at a6; have a7 := t_add e56 i54 h1 rfl; have a8 := i54; unfold In at a8; have a9 := (t_mulc 32 (Or.inr e54) h1 rfl).1; have a10 := i16; unfold In at a10; have a11 := t_add e16 i14 h1 rfl; have a12 := i14; unfold In at a12; have a13 := (t_mulc 32 (Or.inr e14) i4 rfl).1; have oc := oc_190_76; omega); (rw [if_neg hc, if_pos rfl, (show gat (s.2.1 85) (y2_3).toNatClampNeg (x1).toNatClampNeg = (z17).toInt from (by show ((s.2.1 85) (32 * (y2_3).toNatClampNeg + (x1).toNatClampNeg)).toInt = (z17).toInt; rw [← (show z16.toNatClampNeg = 32 * (y2_3).toNatClampNeg + (x1).toNatClampNeg from (by show z16.toInt.toNat = 32 * (y2_3).toInt.toNat + (x1).toInt.toNat; have a0 := h2; unfold In at a0; have a1 := h1; unfold In at a1; have a2 := i4; unfold In at a2; have a3 := i72; unfold In at a3; have a4 := t_add e72 h1 (in_c 1 rfl) rfl; have a5 := (in_c 1 rfl); unfold In at a5; have a6 := i56; unfold In at a6; have a7 := t_add e56 i54 h1 rfl; have a8 := i54; unfold In at a8; have a9 := (t_mulc 32 (Or.inr e54) h1 rfl).1; have a10 := i16; unfold In at a10; have a11 := t_add e16 i14 h1 rfl; have a12 := i14; unfold In at a12; have a13 := (t_mulc 32 (Or.inr e14) i4 rfl).1; have oc := oc_190_76; omega)), ← g2_0]; exact congrArg Int64.toInt e17.symm))]; have a0 := h2; unfold In at a0; have a1 := h1; unfold In at a1; have a2 := i4; unfold In at a2; have a3 := i72; unfold In at a3; have a4 := t_add e72 h1 (in_c 1 rfl) rfl; have a5 := (in_c 1 rfl); unfold In at a5; have a6 := i56; unfold In at a6; have a7 := t_add e56 i54 h1 rfl; have a8 := i54; unfold In at a8; have a9 := (t_mulc 32 (Or.inr e54) h1 rfl).1; have a10 := i16; unfold In at a10; have a11 := t_add e16 i14 h1 rfl; have a12 := i14; unfold In at a12; have a13 := (t_mulc 32 (Or.inr e14) i4 rfl).1; have oc := oc_190_76; omega)); rw [← tp]; exact inv_w (y := Int64.ofInt 1000000005) rfl (mc_nz nz gx) p65b.2
              have n75e : (0 ≤ (z65).toInt ∧ (z65).toInt < 1000000007) := by have hp := p44a; rw [g2_0] at hp; have eqf : ∀ k, k < 1024 → s44.2.1 85 k = (swf (s.2.1 85) (y2_3).toNatClampNeg (x1).toNatClampNeg) k := hp; exact p65b.1
              have n75f : ((x1).toInt ≤ (y2_3).toInt ∧ (y2_3).toInt < (x2).toInt) := by have hp := p44a; rw [g2_0] at hp; have eqf : ∀ k, k < 1024 → s44.2.1 85 k = (swf (s.2.1 85) (y2_3).toNatClampNeg (x1).toNatClampNeg) k := hp; constructor; (have a0 := h2; unfold In at a0; have a1 := h1; unfold In at a1; have a2 := i4; unfold In at a2; have a3 := i72; unfold In at a3; have a4 := t_add e72 h1 (in_c 1 rfl) rfl; have a5 := (in_c 1 rfl); unfold In at a5; have a6 := i56; unfold In at a6; have a7 := t_add e56 i54 h1 rfl; have a8 := i54; unfold In at a8; have a9 := (t_mulc 32 (Or.inr e54) h1 rfl).1; have a10 := i16; unfold In at a10; have a11 := t_add e16 i14 h1 rfl; have a12 := i14; unfold In at a12; have a13 := (t_mulc 32 (Or.inr e14) i4 rfl).1; have oc := oc_190_76; omega); (have a0 := h2; unfold In at a0; have a1 := h1; unfold In at a1; have a2 := i4; unfold In at a2; have a3 := i72; unfold In at a3; have a4 := t_add e72 h1 (in_c 1 rfl) rfl; have a5 := (in_c 1 rfl); unfold In at a5; have a6 := i56; unfold In at a6; have a7 := t_add e56 i54 h1 rfl; have a8 := i54; unfold In at a8; have a9 := (t_mulc 32 (Or.inr e54) h1 rfl).1; have a10 := i16; unfold In at a10; have a11 := t_add e16 i14 h1 rfl; have a12 := i14; unfold In at a12; have a13 := (t_mulc 32 (Or.inr e14) i4 rfl).1; have oc := oc_190_76; omega)
              exact gg_w (by omega) (gg_f (gf_cons rfl (gf_cons rfl (gf_cons rfl (gf_cons rfl (gf_cons rfl (gf_cons rfl (gf_cons rfl gf_nil))))))) (ct75 31 s44 y2_3 z57 z65 z72 hI44 (fr_tr rfl hFc2 hF44) (in_w 0 30 i4 rfl) (in_w 1 31 i72 rfl) n75 n75a n75b n75c n75d n75e n75f (m_in 31 (in_w 1 31 i72 rfl) rfl)))
          · skip
            have i31 := r_le1 1 30 c31 h2 i4 rfl
            have i31a := r_le2 1 30 c31 h2 i4 rfl
            refine g_lconst 0 35 (gd rfl) rfl rfl ?_
            have n35 : PVP (s.2.1 85) ((sc2).2.1 85) (x1).toNatClampNeg (x2).toNatClampNeg ((Int64.ofInt 0)).toInt := by exfalso; have a0 := i31; unfold In at a0; have a1 := h1; unfold In at a1; have a2 := i31a; unfold In at a2; have a3 := i16; unfold In at a3; have a4 := t_add e16 i14 h1 rfl; have a5 := i14; unfold In at a5; have a6 := (t_mulc 32 (Or.inr e14) i4 rfl).1; have oc := oc_190_76; omega
            exact g_lreturn (gd rfl) rfl (hP _ _ ⟨sc2, hIc2, hFc2, (Int64.ofInt 0), rfl, rfl, n35⟩)
        · skip
          have i20 := z_eq 0 0 c20 i19 rfl
          have c20a := lc_eq e19 c20
          have i20a := lr_eq1 0 0 c20a (l_rng z17) (l_c 0 rfl) rfl
          refine g_iinc 26 (gd rfl) rfl rfl (Nat.le_of_ble_eq_true rfl) (fun z23 e23 => ?_)
          have i23 := in_add 1 31 e23 i4 (in_c 1 rfl) rfl rfl
          refine g_goto 2 (gd rfl) rfl ?_
          have n2 : (x1).toInt ≤ (z23).toInt := by have a0 := h2; unfold In at a0; have a1 := h1; unfold In at a1; have a2 := i4; unfold In at a2; have a3 := i23; unfold In at a3; have a4 := t_add e23 i4 (in_c 1 rfl) rfl; have a5 := (in_c 1 rfl); unfold In at a5; have a6 := i16; unfold In at a6; have a7 := t_add e16 i14 h1 rfl; have a8 := i14; unfold In at a8; have a9 := (t_mulc 32 (Or.inr e14) i4 rfl).1; have oc := oc_190_76; omega
          have n2a : (sc2).2.1 85 = (s.2.1 85) := by exact g2_0
          have n2b : ∀ i : Nat, (x1).toNatClampNeg ≤ i → i < (z23).toNatClampNeg → gat (s.2.1 85) i (x1).toNatClampNeg = 0 := by intro i ha hb; have h9 : (z23).toNatClampNeg = (y2_3).toNatClampNeg + 1 := (by show (z23).toInt.toNat = (y2_3).toInt.toNat + 1; have a0 := h2; unfold In at a0; have a1 := h1; unfold In at a1; have a2 := i4; unfold In at a2; have a3 := i23; unfold In at a3; have a4 := t_add e23 i4 (in_c 1 rfl) rfl; have a5 := (in_c 1 rfl); unfold In at a5; have a6 := i16; unfold In at a6; have a7 := t_add e16 i14 h1 rfl; have a8 := i14; unfold In at a8; have a9 := (t_mulc 32 (Or.inr e14) i4 rfl).1; have oc := oc_190_76; omega); by_cases hc : i = (y2_3).toNatClampNeg; (rw [hc, (show gat (s.2.1 85) (y2_3).toNatClampNeg (x1).toNatClampNeg = (z17).toInt from (by show ((s.2.1 85) (32 * (y2_3).toNatClampNeg + (x1).toNatClampNeg)).toInt = (z17).toInt; rw [← (show z16.toNatClampNeg = 32 * (y2_3).toNatClampNeg + (x1).toNatClampNeg from (by show z16.toInt.toNat = 32 * (y2_3).toInt.toNat + (x1).toInt.toNat; have a0 := h2; unfold In at a0; have a1 := h1; unfold In at a1; have a2 := i4; unfold In at a2; have a3 := i23; unfold In at a3; have a4 := t_add e23 i4 (in_c 1 rfl) rfl; have a5 := (in_c 1 rfl); unfold In at a5; have a6 := i16; unfold In at a6; have a7 := t_add e16 i14 h1 rfl; have a8 := i14; unfold In at a8; have a9 := (t_mulc 32 (Or.inr e14) i4 rfl).1; have oc := oc_190_76; omega)), ← g2_0]; exact congrArg Int64.toInt e17.symm))]; have a0 := h2; unfold In at a0; have a1 := h1; unfold In at a1; have a2 := i4; unfold In at a2; have a3 := i23; unfold In at a3; have a4 := t_add e23 i4 (in_c 1 rfl) rfl; have a5 := (in_c 1 rfl); unfold In at a5; have a6 := i16; unfold In at a6; have a7 := t_add e16 i14 h1 rfl; have a8 := i14; unfold In at a8; have a9 := (t_mulc 32 (Or.inr e14) i4 rfl).1; have oc := oc_190_76; omega); (exact g2_1 i ha (by omega))
          exact gg_w (by omega) (gg_f (gf_cons rfl (gf_cons rfl (gf_cons rfl (gf_cons rfl gf_nil)))) (ih2 sc2 z23 hIc2 hFc2 (in_w 0 31 i23 rfl) n2 n2a n2b (m_up mm2 (t_add e23 i4 (in_c 1 rfl) rfl) (in_w 1 1 (in_c 1 rfl) rfl))))
  refine g_enter2 (k := 190) (N := 1006233) (by omega) rfl (Nat.le_of_ble_eq_true rfl) ?_
  refine g_iload_n 1 (gd rfl) rfl rfl ?_
  refine g_istore_n 2 (gd rfl) rfl (Nat.le_of_ble_eq_true rfl) ?_
  have n2 : (x1).toInt ≤ (x1).toInt := by have a0 := h2; unfold In at a0; have a1 := h1; unfold In at a1; have oc := oc_190_76; omega
  have n2a : (s).2.1 85 = (s.2.1 85) := by rfl
  have n2b : ∀ i : Nat, (x1).toNatClampNeg ≤ i → i < (x1).toNatClampNeg → gat (s.2.1 85) i (x1).toNatClampNeg = 0 := by intro i ha hb; exfalso; omega
  exact gg_w (by omega) (gg_f (gf_cons rfl (gf_cons rfl (gf_cons rfl (gf_cons rfl gf_nil)))) (ct2 32 s x1 hI fr_rf (in_w 0 31 h1 rfl) n2 n2a n2b (m_in 32 (in_w 0 31 h1 rfl) rfl)))
/-! FUNCTIONAL CONTRACTS, by fgen.py -/
theorem oc_159_94 : (Int32.ofInt (-1)).toInt = (-1) ∧ (Int32.ofInt 0).toInt = 0 ∧ (Int32.ofInt 1).toInt = 1 ∧ (Int64.ofInt 0).toInt = 0 ∧ (Int64.ofInt 1).toInt = 1 := ⟨rfl, rfl, rfl, rfl, rfl⟩
/-- GraphHouse$Question.closeBars -/
theorem f_159_94 {Z : AmZ} {A : Nat → Nat} {s : GS} {ex : va_W} {d : Nat} {X : AmX} {x1 : Int64} {x2 : Int64} (hd : 4 ≤ d) (hI : Inv s) (q_0 : InL x1 0 1152921504606846975) (q_1 : InL x2 0 2305843009213693951) : GC Z d 159 [.ref (A 94), .long x1, .long x2] (WW Z A s ++ ex) 0 0 (fun v u => ∃ t : GS, Inv t ∧ Fr fm_159_94 s t ∧ v = none ∧ u = WW Z A t ++ ex ∧ (∀ x y : Nat, blt ((t).2.1 95 x) y = true ↔ (blt (s.2.1 95 x) y = true ∨ (blt (x1) x = true ∧ blt (x2) y = true)))) X := by
  intro post xp hP hX
  have ct3 : ∀ (k3 : Nat) (sc3 : GS) (y3_5 : Int64), Inv sc3 → Fr fm_159_94 s sc3 → (InL y3_5 0 1152921504606846975) → (CBS (s.2.1 95) ((sc3).2.1 95) x1 (y3_5) x2) → ((y3_5.toBitVec.toNat : Nat) : Int) < (k3 : Int) → GG Z (d - 1) 159 post (gx xp) (1 + k3 * 900) 3 (fun j => xlook j [(0, .ref (A 94)), (1, .long x1), (3, .long x2), (5, .long y3_5)]) [] (WW Z A sc3 ++ ex) 0 0 := by
    intro k3
    induction k3 with
    | zero => intro sc3 y3_5 hIc3 hFc3 g3_0 g3_1 mm3; exact absurd mm3 (Int.not_lt.mpr (Int.natCast_nonneg _))
    | succ k3 ih3 =>
      intro sc3 y3_5 hIc3 hFc3 g3_0 g3_1 mm3
      refine gg_w (M := 1 + k3 * 900 + 900) (by omega) ?_
      have i3 : InL y3_5 0 1152921504606846975 := by exact g3_0
      have i3a : InL x2 0 2305843009213693951 := by exact q_1
      refine g_lload 5 (gd rfl) rfl rfl ?_
      refine g_lconst 0 6 (gd rfl) rfl rfl ?_
      refine g_lcmp 7 (gd rfl) rfl (fun z6 e6 => ?_)
      have i6 := lc_in e6
      refine g_if_eq 10 36 (gd rfl) rfl rfl (fun c7 => ?_) (fun c7 => ?_)
      · skip
        have i7 := z_eq 0 0 c7 i6 rfl
        have c7a := lc_eq e6 c7
        have i7a := lr_eq1 0 0 c7a i3 (l_c 0 rfl) rfl
        have n36 : ∀ x y : Nat, blt ((sc3).2.1 95 x) y = true ↔ (blt (s.2.1 95 x) y = true ∨ (blt (x1) x = true ∧ blt (x2) y = true)) := by exact cbs_e g3_1 (by have oc := oc_159_94; omega)
        exact g_return (gd rfl) rfl (hP _ _ ⟨sc3, hIc3, hFc3, rfl, rfl, n36⟩)
      · skip
        have c7a := lc_ne e6 c7
        have i7 := lr_ne1 1 1152921504606846975 c7a i3 (l_c 0 rfl) rfl
        refine g_aload_n 11 (gd rfl) rfl rfl ?_
        refine g_getA (q2 := 95) 14 (gd rfl) rfl rfl rfl rfl ?_
        refine g_lload 16 (gd rfl) rfl rfl ?_
        refine g_calls (As := [.long y3_5]) (r := [.ref (A 95)]) 19 (gd rfl) rfl rfl rfl rfl rfl (Nat.le_of_ble_eq_true rfl) (Nat.zero_le _) (Nat.zero_le _) (k_265m 60 (by omega) (nz_l c7a) (by decide) (lw 0 (2 ^ 60 - 1) i7 rfl)) (fun v u h => ?_)
        obtain ⟨z16, rfl, rfl, i16, hb16, hl16⟩ := h
        show GG _ _ _ _ _ _ _ _ [.int z16, .ref (A 95)] _ _ _
        refine g_dup2 20 (gd rfl) rfl rfl rfl ?_
        refine g_laload 21 (gd rfl) rfl (n := 61) rfl (in_ix i16 rfl) (fun z20 e20 => ?_)
        have i20 := inv_L hIc3 (n := 61) 0 2305843009213693951 rfl (in_ix i16 rfl) rfl e20
        refine g_lload_n 22 (gd rfl) rfl rfl ?_
        refine g_lor 23 (gd rfl) rfl (fun z22 e22 => ?_)
        have i22 := inl_or 61 e22 (lw 0 2305843009213693951 i20 rfl) (lw 0 2305843009213693951 i3a rfl) rfl
        refine g_lastore 24 (gd rfl) rfl (n := 61) rfl (in_ix i16 rfl) ?_
        have hI23 := inv_sL (q := 95) (j := z16.toNatClampNeg) (x := z22) hIc3 rfl (lw 0 2305843009213693951 i22 rfl)
        refine g_lload 26 (gd rfl) rfl rfl ?_
        refine g_lload 28 (gd rfl) rfl rfl ?_
        refine g_lconst 1 29 (gd rfl) rfl rfl ?_
        refine g_lsub 30 (gd rfl) rfl (fun z29 e29 => ?_)
        have i29 := l_sub 0 1152921504606846974 e29 i7 (l_c 1 rfl) rfl
        refine g_land 31 (gd rfl) rfl (fun z30 e30 => ?_)
        have i30 := inl_and2 e30 i29 rfl
        refine g_lstore 33 (gd rfl) rfl (Nat.le_of_ble_eq_true rfl) ?_
        refine g_goto 3 (gd rfl) rfl ?_
        have n3 : InL z30 0 1152921504606846975 := by first | exact q_0 | exact inl_and1 e30 g3_0 rfl
        have n3a : CBS (s.2.1 95) (((sL sc3 95 z16.toNatClampNeg z22)).2.1 95) x1 (z30) x2 := by rw [sL_w]; exact cbs_s g3_1 hl16 hb16 (by rw [← e20]; exact e22) e29 e30
        exact gg_w (by omega) (gg_f (gf_cons rfl (gf_cons rfl (gf_cons rfl (gf_cons rfl gf_nil)))) (ih3 (sL sc3 95 z16.toNatClampNeg z22) z30 hI23 (fr_sL rfl hFc3) n3 n3a (mbl e30 e29 (nz_l c7a) mm3)))
  refine g_enter2 (k := 159) (N := 16602069666338596455301) (by omega) rfl (Nat.le_of_ble_eq_true rfl) ?_
  have i0 : InL x1 0 1152921504606846975 := by exact q_0
  have i0a : InL x2 0 2305843009213693951 := by exact q_1
  refine g_lload_n 1 (gd rfl) rfl rfl ?_
  refine g_lstore 3 (gd rfl) rfl (Nat.le_of_ble_eq_true rfl) ?_
  have n3 : InL x1 0 1152921504606846975 := by first | exact q_0 | exact inl_and1 e30 g3_0 rfl
  have n3a : CBS (s.2.1 95) ((s).2.1 95) x1 (x1) x2 := by exact cbs_0
  exact gg_w (by omega) (gg_f (gf_cons rfl (gf_cons rfl (gf_cons rfl (gf_cons rfl gf_nil)))) (ct3 18446744073709551616 s x1 hI fr_rf n3 n3a (mb_inl _)))

theorem oc_165_94 : (Int32.ofInt (-1)).toInt = (-1) ∧ (Int32.ofInt 0).toInt = 0 ∧ (Int32.ofInt 1).toInt = 1 ∧ (Int64.ofInt 0).toInt = 0 ∧ (Int64.ofInt 1).toInt = 1 := ⟨rfl, rfl, rfl, rfl, rfl⟩
/-- GraphHouse$Question.behind -/
theorem f_165_94 {Z : AmZ} {A : Nat → Nat} {s : GS} {ex : va_W} {d : Nat} {X : AmX} {x1 : Int64} (hd : 4 ≤ d) (hI : Inv s) (q_0 : InL x1 0 1152921504606846975) : GC Z d 165 [.ref (A 94), .long x1] (WW Z A s ++ ex) 0 0 (fun v u => ∃ z : Int64, v = some (.long z) ∧ u = WW Z A s ++ ex ∧ (InL z 0 2305843009213693951) ∧ (∀ y : Nat, blt (z) y = true ↔ ∃ x, blt (x1) x = true ∧ blt (s.2.1 95 (x + 1)) y = true)) X := by
  intro post xp hP hX
  have ct5 : ∀ (k5 : Nat) (y5_3 : Int64) (y5_5 : Int64), (InL y5_5 0 1152921504606846975) → (InL y5_3 0 2305843009213693951) → (BHI (s.2.1 95) x1 (y5_5) (y5_3) 1) → ((y5_5.toBitVec.toNat : Nat) : Int) < (k5 : Int) → GG Z (d - 1) 165 post (gx xp) (1 + k5 * 900) 5 (fun j => xlook j [(0, .ref (A 94)), (1, .long x1), (3, .long y5_3), (5, .long y5_5)]) [] (WW Z A s ++ ex) 0 0 := by
    intro k5
    induction k5 with
    | zero => intro y5_3 y5_5 g5_0 g5_1 g5_2 mm5; exact absurd mm5 (Int.not_lt.mpr (Int.natCast_nonneg _))
    | succ k5 ih5 =>
      intro y5_3 y5_5 g5_0 g5_1 g5_2 mm5
      refine gg_w (M := 1 + k5 * 900 + 900) (by omega) ?_
      have i5 : InL y5_5 0 1152921504606846975 := by exact g5_0
      have i5a : InL y5_3 0 2305843009213693951 := by exact g5_1
      refine g_lload 7 (gd rfl) rfl rfl ?_
      refine g_lconst 0 8 (gd rfl) rfl rfl ?_
      refine g_lcmp 9 (gd rfl) rfl (fun z8 e8 => ?_)
      have i8 := lc_in e8
      refine g_if_eq 12 39 (gd rfl) rfl rfl (fun c9 => ?_) (fun c9 => ?_)
      · skip
        have i9 := z_eq 0 0 c9 i8 rfl
        have c9a := lc_eq e8 c9
        have i9a := lr_eq1 0 0 c9a i5 (l_c 0 rfl) rfl
        refine g_lload_n 40 (gd rfl) rfl rfl ?_
        have n40 : InL y5_3 0 2305843009213693951 := by exact g5_1
        have n40a : ∀ y : Nat, blt (y5_3) y = true ↔ ∃ x, blt (x1) x = true ∧ blt (s.2.1 95 (x + 1)) y = true := by exact bhi_e g5_2 (by have oc := oc_165_94; omega)
        exact g_lreturn (gd rfl) rfl (hP _ _ ⟨y5_3, rfl, rfl, n40, n40a⟩)
      · skip
        have c9a := lc_ne e8 c9
        have i9 := lr_ne1 1 1152921504606846975 c9a i5 (l_c 0 rfl) rfl
        refine g_lload_n 13 (gd rfl) rfl rfl ?_
        refine g_aload_n 14 (gd rfl) rfl rfl ?_
        refine g_getA (q2 := 95) 17 (gd rfl) rfl rfl rfl rfl ?_
        refine g_lload 19 (gd rfl) rfl rfl ?_
        refine g_calls (As := [.long y5_5]) (r := [.ref (A 95), .long y5_3]) 22 (gd rfl) rfl rfl rfl rfl rfl (Nat.le_of_ble_eq_true rfl) (Nat.zero_le _) (Nat.zero_le _) (k_265m 60 (by omega) (nz_l c9a) (by decide) (lw 0 (2 ^ 60 - 1) i9 rfl)) (fun v u h => ?_)
        obtain ⟨z19, rfl, rfl, i19, hb19, hl19⟩ := h
        show GG _ _ _ _ _ _ _ _ [.int z19, .ref (A 95), .long y5_3] _ _ _
        refine g_iconst 1 23 (gd rfl) rfl rfl ?_
        refine g_iadd 24 (gd rfl) rfl (fun z23 e23 => ?_)
        have i23 := in_add 1 60 e23 i19 (in_c 1 rfl) rfl rfl
        refine g_laload 25 (gd rfl) rfl (n := 61) rfl (in_ix i23 rfl) (fun z24 e24 => ?_)
        have i24 := inv_L hI (n := 61) 0 2305843009213693951 rfl (in_ix i23 rfl) rfl e24
        refine g_lor 26 (gd rfl) rfl (fun z25 e25 => ?_)
        have i25 := inl_or 61 e25 (lw 0 2305843009213693951 i5a rfl) (lw 0 2305843009213693951 i24 rfl) rfl
        refine g_lstore_n 27 (gd rfl) rfl (Nat.le_of_ble_eq_true rfl) ?_
        refine g_lload 29 (gd rfl) rfl rfl ?_
        refine g_lload 31 (gd rfl) rfl rfl ?_
        refine g_lconst 1 32 (gd rfl) rfl rfl ?_
        refine g_lsub 33 (gd rfl) rfl (fun z32 e32 => ?_)
        have i32 := l_sub 0 1152921504606846974 e32 i9 (l_c 1 rfl) rfl
        refine g_land 34 (gd rfl) rfl (fun z33 e33 => ?_)
        have i33 := inl_and2 e33 i32 rfl
        refine g_lstore 36 (gd rfl) rfl (Nat.le_of_ble_eq_true rfl) ?_
        refine g_goto 5 (gd rfl) rfl ?_
        have n5 : InL z33 0 1152921504606846975 := by first | exact q_0 | exact inl_and1 e33 g5_0 rfl
        have n5a : InL z25 0 2305843009213693951 := by first | exact lw 0 2305843009213693951 (l_c 0 rfl) rfl | exact inl_or 61 e25 g5_1 i24 rfl
        have n5b : BHI (s.2.1 95) x1 (z33) (z25) 1 := by exact bhi_s g5_2 hl19 hb19 (show z23.toNatClampNeg = z19.toNatClampNeg + 1 from (by show z23.toInt.toNat = z19.toInt.toNat + 1; have a0 := i23; unfold In at a0; have a1 := t_add e23 i19 (in_c 1 rfl) rfl; have a2 := (in_c 1 rfl); unfold In at a2; have a3 := i19; unfold In at a3; have oc := oc_165_94; omega)) (by rw [← e24]; exact e25) e32 e33
        exact gg_w (by omega) (gg_f (gf_cons rfl (gf_cons rfl (gf_cons rfl (gf_cons rfl gf_nil)))) (ih5  z25 z33  n5 n5a n5b (mbl e33 e32 (nz_l c9a) mm5)))
  refine g_enter2 (k := 165) (N := 16602069666338596455301) (by omega) rfl (Nat.le_of_ble_eq_true rfl) ?_
  refine g_lconst 0 1 (gd rfl) rfl rfl ?_
  refine g_lstore_n 2 (gd rfl) rfl (Nat.le_of_ble_eq_true rfl) ?_
  refine g_lload_n 3 (gd rfl) rfl rfl ?_
  refine g_lstore 5 (gd rfl) rfl (Nat.le_of_ble_eq_true rfl) ?_
  have n5 : InL x1 0 1152921504606846975 := by first | exact q_0 | exact inl_and1 e33 g5_0 rfl
  have n5a : InL (Int64.ofInt 0) 0 2305843009213693951 := by first | exact lw 0 2305843009213693951 (l_c 0 rfl) rfl | exact inl_or 61 e25 g5_1 i24 rfl
  have n5b : BHI (s.2.1 95) x1 (x1) ((Int64.ofInt 0)) 1 := by exact bhi_0 rfl
  exact gg_w (by omega) (gg_f (gf_cons rfl (gf_cons rfl (gf_cons rfl (gf_cons rfl gf_nil)))) (ct5 18446744073709551616  (Int64.ofInt 0) x1  n5 n5a n5b (mb_inl _)))

theorem oc_160_94 : (Int32.ofInt (-1)).toInt = (-1) ∧ (Int32.ofInt 0).toInt = 0 ∧ (Int32.ofInt 1).toInt = 1 ∧ (Int32.ofInt 26).toInt = 26 ∧ (Int32.ofInt 46).toInt = 46 ∧ (Int32.ofInt 97).toInt = 97 ∧ (Int32.ofInt 122).toInt = 122 ∧ (Int32.ofInt 124).toInt = 124 ∧ (Int64.ofInt 1).toInt = 1 := ⟨rfl, rfl, rfl, rfl, rfl, rfl, rfl, rfl, rfl⟩
set_option maxHeartbeats 4000000 in
/-- GraphHouse$Question.layPlace -/
theorem f_160_94 {Z : AmZ} {A : Nat → Nat} {s : GS} {ex : va_W} {d : Nat} {X : AmX} {x1 : Int32} {x2 : Int32} {x3 : Int32} (hd : 3 ≤ d) (hI : Inv s) (h1 : In x1 0 65535) (h2 : In x2 0 59) (h3 : In x3 0 10) : GC Z d 160 [.ref (A 94), .int x1, .int x2, .int x3] (WW Z A s ++ ex) 0 0 (fun v u => ∃ t : GS, Inv t ∧ Fr fm_160_94 s t ∧ v = none ∧ u = WW Z A t ++ ex ∧ (LPC (x1).toInt (x2).toNatClampNeg (x3).toNatClampNeg (s.1 97) (s.2.1 95) (s.2.1 96) (s.2.1 98) ((t).2.1 95) ((t).2.1 96) ((t).2.1 98) (s.2.2.2.1 94 0) ((t).2.2.2.1 94 0))) X := by
  intro post xp hP hX
  have ct16 : ∀ (k16 : Nat) (sc16 : GS) (y16_4 : Int64) (y16_6 : Int32), Inv sc16 → Fr fm_160_94 s sc16 → (In x1 46 46) → (In y16_6 0 26) → (∀ κ : Nat, ∀ x : Nat, blt ((sc16).2.1 96 κ) x = true ↔ (blt (s.2.1 96 κ) x = true ∨ (κ < (y16_6).toNatClampNeg ∧ x = (x2).toNatClampNeg))) → ((sc16).2.1 95 = s.2.1 95 ∧ (sc16).2.1 98 = s.2.1 98 ∧ (sc16).2.2.2.1 94 0 = s.2.2.2.1 94 0) → 26 - (y16_6).toInt < (k16 : Int) → GG Z (d - 1) 160 post (gx xp) (1 + k16 * 900) 16 (fun j => xlook j [(0, .ref (A 94)), (1, .int x1), (2, .int x2), (3, .int x3), (4, .long y16_4), (6, .int y16_6)]) [] (WW Z A sc16 ++ ex) 0 0 := by
    intro k16
    induction k16 with
    | zero => intro sc16 y16_4 y16_6 hIc16 hFc16 j16_1 j16_6 g16_0 g16_1 mm16; exact m_no mm16 j16_6 rfl
    | succ k16 ih16 =>
      intro sc16 y16_4 y16_6 hIc16 hFc16 j16_1 j16_6 g16_0 g16_1 mm16
      refine gg_w (M := 1 + k16 * 900 + 900) (by omega) ?_
      refine g_iload 18 (gd rfl) rfl rfl ?_
      refine g_bipush 26 20 (gd rfl) rfl rfl ?_
      refine g_cmp_ge 23 42 (gd rfl) rfl rfl (fun c20 => ?_) (fun c20 => ?_)
      · skip
        have i20 := r_le2 26 26 c20 (in_c 26 rfl) j16_6 rfl
        refine g_goto 136 (gd rfl) rfl ?_
        have n136 : LPC (x1).toInt (x2).toNatClampNeg (x3).toNatClampNeg (s.1 97) (s.2.1 95) (s.2.1 96) (s.2.1 98) ((sc16).2.1 95) ((sc16).2.1 96) ((sc16).2.1 98) (s.2.2.2.1 94 0) ((sc16).2.2.2.1 94 0) := by rw [g16_1.1, g16_1.2.1, g16_1.2.2]; exact lpc_d (by have a0 := h3; unfold In at a0; have a1 := h2; unfold In at a1; have a2 := j16_1; unfold In at a2; have a3 := i20; unfold In at a3; have oc := oc_160_94; omega) (fun κ hk x => (g16_0 κ x).trans ⟨fun q => q.imp id (fun q => q.2), fun q => q.imp id (fun q => ⟨(show κ < (y16_6).toInt.toNat from (by have a0 := h3; unfold In at a0; have a1 := h2; unfold In at a1; have a2 := j16_1; unfold In at a2; have a3 := i20; unfold In at a3; have oc := oc_160_94; omega)), q⟩)⟩)
        exact g_return (gd rfl) rfl (hP _ _ ⟨sc16, hIc16, hFc16, rfl, rfl, n136⟩)
      · skip
        have i20 := r_lt1 0 25 c20 j16_6 (in_c 26 rfl) rfl
        refine g_aload_n 24 (gd rfl) rfl rfl ?_
        refine g_getA (q2 := 96) 27 (gd rfl) rfl rfl rfl rfl ?_
        refine g_iload 29 (gd rfl) rfl rfl ?_
        refine g_dup2 30 (gd rfl) rfl rfl rfl ?_
        refine g_laload 31 (gd rfl) rfl (n := 26) rfl (in_ix i20 rfl) (fun z30 e30 => ?_)
        have i30 := inv_L hIc16 (n := 26) 0 1152921504606846975 rfl (in_ix i20 rfl) rfl e30
        refine g_lconst 1 32 (gd rfl) rfl rfl ?_
        refine g_iload_n 33 (gd rfl) rfl rfl ?_
        refine g_lshl 34 (gd rfl) rfl (fun z33 e33 => ?_)
        have i33 := l_shl 59 e33 h2 rfl
        refine g_lor 35 (gd rfl) rfl (fun z34 e34 => ?_)
        have i34 := inl_or 60 e34 (lw 0 1152921504606846975 i30 rfl) (lw 0 1152921504606846975 i33 rfl) rfl
        refine g_lastore 36 (gd rfl) rfl (n := 26) rfl (in_ix i20 rfl) ?_
        have hI35 := inv_sL (q := 96) (j := y16_6.toNatClampNeg) (x := z34) hIc16 rfl (lw 0 1152921504606846975 i34 rfl)
        refine g_iinc 39 (gd rfl) rfl rfl (Nat.le_of_ble_eq_true rfl) (fun z36 e36 => ?_)
        have i36 := in_add 1 26 e36 i20 (in_c 1 rfl) rfl rfl
        refine g_goto 16 (gd rfl) rfl ?_
        have n16 : ∀ κ : Nat, ∀ x : Nat, blt (((sL sc16 96 y16_6.toNatClampNeg z34)).2.1 96 κ) x = true ↔ (blt (s.2.1 96 κ) x = true ∨ (κ < (z36).toNatClampNeg ∧ x = (x2).toNatClampNeg)) := by have e9 : (z36).toNatClampNeg = (y16_6).toNatClampNeg + 1 := (by show (z36).toInt.toNat = (y16_6).toInt.toNat + 1; have a0 := h3; unfold In at a0; have a1 := h2; unfold In at a1; have a2 := j16_1; unfold In at a2; have a3 := i20; unfold In at a3; have a4 := i36; unfold In at a4; have a5 := t_add e36 i20 (in_c 1 rfl) rfl; have a6 := (in_c 1 rfl); unfold In at a6; have oc := oc_160_94; omega); intro κ x; rw [sL_w, lbu (show z34 = sc16.2.1 96 (y16_6).toNatClampNeg ||| z33 from (by rw [← e30]; exact e34)), g16_0 κ x, (blx_1 e33 (show In x2 0 63 from ⟨by have a0 := h3; unfold In at a0; have a1 := h2; unfold In at a1; have a2 := j16_1; unfold In at a2; have a3 := i20; unfold In at a3; have a4 := i36; unfold In at a4; have a5 := t_add e36 i20 (in_c 1 rfl) rfl; have a6 := (in_c 1 rfl); unfold In at a6; have oc := oc_160_94; omega, by have a0 := h3; unfold In at a0; have a1 := h2; unfold In at a1; have a2 := j16_1; unfold In at a2; have a3 := i20; unfold In at a3; have a4 := i36; unfold In at a4; have a5 := t_add e36 i20 (in_c 1 rfl) rfl; have a6 := (in_c 1 rfl); unfold In at a6; have oc := oc_160_94; omega⟩) rfl) x, e9]; constructor; (rintro ((q | q) | q); (exact Or.inl q); (exact Or.inr ⟨by omega, q.2⟩); (exact Or.inr ⟨by omega, q.2⟩)); (rintro (q | q); (exact Or.inl (Or.inl q)); (by_cases hk : κ = (y16_6).toNatClampNeg; (exact Or.inr ⟨hk, q.2⟩); (exact Or.inl (Or.inr ⟨by omega, q.2⟩))))
        have n16a : ((sL sc16 96 y16_6.toNatClampNeg z34)).2.1 95 = s.2.1 95 ∧ ((sL sc16 96 y16_6.toNatClampNeg z34)).2.1 98 = s.2.1 98 ∧ ((sL sc16 96 y16_6.toNatClampNeg z34)).2.2.2.1 94 0 = s.2.2.2.1 94 0 := by exact ⟨(sLx_o rfl).trans g16_1.1, (sLx_o rfl).trans g16_1.2.1, g16_1.2.2⟩
        exact gg_w (by omega) (gg_f (gf_cons rfl (gf_cons rfl (gf_cons rfl (gf_cons rfl (gf_cons rfl (gf_cons rfl gf_nil)))))) (ih16 (sL sc16 96 y16_6.toNatClampNeg z34) y16_4 z36 hI35 (fr_sL rfl hFc16) (in_w 46 46 j16_1 rfl) (in_w 0 26 i36 rfl) n16 n16a (m_up mm16 (t_add e36 i20 (in_c 1 rfl) rfl) (in_w 1 1 (in_c 1 rfl) rfl))))
  refine g_enter2 (k := 160) (N := 25201) (by omega) rfl (Nat.le_of_ble_eq_true rfl) ?_
  refine g_lconst 1 1 (gd rfl) rfl rfl ?_
  refine g_iload_n 2 (gd rfl) rfl rfl ?_
  refine g_iconst 1 3 (gd rfl) rfl rfl ?_
  refine g_iadd 4 (gd rfl) rfl (fun z3 e3 => ?_)
  have i3 := in_add 1 60 e3 h2 (in_c 1 rfl) rfl rfl
  refine g_lshl 5 (gd rfl) rfl (fun z4 e4 => ?_)
  have i4 := l_shl 60 e4 i3 rfl
  refine g_lstore 7 (gd rfl) rfl (Nat.le_of_ble_eq_true rfl) ?_
  refine g_iload_n 8 (gd rfl) rfl rfl ?_
  refine g_bipush 46 10 (gd rfl) rfl rfl ?_
  refine g_cmp_ne 13 45 (gd rfl) rfl rfl (fun c10 => ?_) (fun c10 => ?_)
  · skip
    refine g_iload_n 46 (gd rfl) rfl rfl ?_
    refine g_calls (As := [.int x1]) (r := []) 49 (gd rfl) rfl rfl rfl rfl rfl (Nat.le_of_ble_eq_true rfl) (mc := 0) (ms := 0) (Nat.zero_le _) (Nat.zero_le _) (P := fun v u => _) ?_ (fun v u h => h)
    intro po46 xx46 hp46 hx46
    refine g_enter2 (k := 157) (N := 300) (by omega) rfl (Nat.le_of_ble_eq_true rfl) ?_
    refine g_iload_n 1 (gd rfl) rfl rfl ?_
    refine g_bipush 46 3 (gd rfl) rfl rfl ?_
    refine g_cmp_eq 6 18 (gd rfl) rfl rfl (fun c46x3 => ?_) (fun c46x3 => ?_)
    · skip
      exact absurd c46x3 c10
    · skip
      refine g_iload_n 7 (gd rfl) rfl rfl ?_
      refine g_bipush 97 9 (gd rfl) rfl rfl ?_
      refine g_cmp_lt 12 22 (gd rfl) rfl rfl (fun c46x9 => ?_) (fun c46x9 => ?_)
      · skip
        have i46x9 := r_lt1 0 96 c46x9 h1 (in_c 97 rfl) rfl
        refine g_iconst 0 23 (gd rfl) rfl rfl ?_
        refine g_ireturn (gd rfl) rfl (nb01 (in_w 0 1 (in_c 0 rfl) rfl)) (hp46 _ _ ?_)
        show GG _ _ _ _ _ _ _ _ [.int (Int32.ofInt 0)] _ _ _
        refine g_if_eq 52 70 (gd rfl) rfl rfl (fun c49 => ?_) (fun c49 => ?_)
        · skip
          refine g_iload_n 71 (gd rfl) rfl rfl ?_
          refine g_bipush 124 73 (gd rfl) rfl rfl ?_
          refine g_cmp_eq 76 90 (gd rfl) rfl rfl (fun c73 => ?_) (fun c73 => ?_)
          · skip
            exact n_eq c73 i46x9 (in_c 124 rfl) rfl
          · skip
            refine g_aload_n 77 (gd rfl) rfl rfl ?_
            refine g_getA (q2 := 95) 80 (gd rfl) rfl rfl rfl rfl ?_
            refine g_iload_n 81 (gd rfl) rfl rfl ?_
            refine g_dup2 82 (gd rfl) rfl rfl rfl ?_
            refine g_laload 83 (gd rfl) rfl (n := 61) rfl (in_ix h2 rfl) (fun z82 e82 => ?_)
            have i82 := inv_L hI (n := 61) 0 2305843009213693951 rfl (in_ix h2 rfl) rfl e82
            refine g_lload 85 (gd rfl) rfl rfl ?_
            refine g_lor 86 (gd rfl) rfl (fun z85 e85 => ?_)
            have i85 := inl_or 61 e85 (lw 0 2305843009213693951 i82 rfl) (lw 0 2305843009213693951 i4 rfl) rfl
            refine g_lastore 87 (gd rfl) rfl (n := 61) rfl (in_ix h2 rfl) ?_
            have hI86 := inv_sL (q := 95) (j := x2.toNatClampNeg) (x := z85) hI rfl (lw 0 2305843009213693951 i85 rfl)
            refine g_goto 136 (gd rfl) rfl ?_
            have n136 : LPC (x1).toInt (x2).toNatClampNeg (x3).toNatClampNeg (s.1 97) (s.2.1 95) (s.2.1 96) (s.2.1 98) (((sL s 95 x2.toNatClampNeg z85)).2.1 95) (((sL s 95 x2.toNatClampNeg z85)).2.1 96) (((sL s 95 x2.toNatClampNeg z85)).2.1 98) (s.2.2.2.1 94 0) (((sL s 95 x2.toNatClampNeg z85)).2.2.2.1 94 0) := by rw [(sL_w : (sL s 95 x2.toNatClampNeg z85).2.1 95 = _), (sLx_o rfl : (sL s 95 x2.toNatClampNeg z85).2.1 96 = s.2.1 96), (sLx_o rfl : (sL s 95 x2.toNatClampNeg z85).2.1 98 = s.2.1 98)]; exact lpc_o (by unfold ptA; have a0 := h3; unfold In at a0; have a1 := h2; unfold In at a1; have a2 := i46x9; unfold In at a2; have a3 := i3; unfold In at a3; have a4 := t_add e3 h2 (in_c 1 rfl) rfl; have a5 := (in_c 1 rfl); unfold In at a5; have oc := oc_160_94; omega) (by have a0 := h3; unfold In at a0; have a1 := h2; unfold In at a1; have a2 := i46x9; unfold In at a2; have a3 := i3; unfold In at a3; have a4 := t_add e3 h2 (in_c 1 rfl) rfl; have a5 := (in_c 1 rfl); unfold In at a5; have oc := oc_160_94; omega) (by rw [← e82]; exact e85) (blx_1 e4 (show In z3 0 63 from ⟨by have a0 := h3; unfold In at a0; have a1 := h2; unfold In at a1; have a2 := i46x9; unfold In at a2; have a3 := i3; unfold In at a3; have a4 := t_add e3 h2 (in_c 1 rfl) rfl; have a5 := (in_c 1 rfl); unfold In at a5; have oc := oc_160_94; omega, by have a0 := h3; unfold In at a0; have a1 := h2; unfold In at a1; have a2 := i46x9; unfold In at a2; have a3 := i3; unfold In at a3; have a4 := t_add e3 h2 (in_c 1 rfl) rfl; have a5 := (in_c 1 rfl); unfold In at a5; have oc := oc_160_94; omega⟩) (show z3.toNatClampNeg = (x2).toNatClampNeg + 1 from (by show z3.toInt.toNat = (x2).toInt.toNat + 1; have a0 := h3; unfold In at a0; have a1 := h2; unfold In at a1; have a2 := i46x9; unfold In at a2; have a3 := i3; unfold In at a3; have a4 := t_add e3 h2 (in_c 1 rfl) rfl; have a5 := (in_c 1 rfl); unfold In at a5; have oc := oc_160_94; omega)))
            exact g_return (gd rfl) rfl (hP _ _ ⟨(sL s 95 x2.toNatClampNeg z85), hI86, (fr_sL rfl fr_rf), rfl, rfl, n136⟩)
        · skip
          exact zn_ne c49 (in_c 0 rfl) rfl
      · skip
        have i46x9 := r_le2 97 65535 c46x9 (in_c 97 rfl) h1 rfl
        refine g_iload_n 13 (gd rfl) rfl rfl ?_
        refine g_bipush 122 15 (gd rfl) rfl rfl ?_
        refine g_cmp_gt 18 22 (gd rfl) rfl rfl (fun c46x15 => ?_) (fun c46x15 => ?_)
        · skip
          have i46x15 := r_lt2 123 65535 c46x15 (in_c 122 rfl) i46x9 rfl
          refine g_iconst 0 23 (gd rfl) rfl rfl ?_
          refine g_ireturn (gd rfl) rfl (nb01 (in_w 0 1 (in_c 0 rfl) rfl)) (hp46 _ _ ?_)
          show GG _ _ _ _ _ _ _ _ [.int (Int32.ofInt 0)] _ _ _
          refine g_if_eq 52 70 (gd rfl) rfl rfl (fun c49 => ?_) (fun c49 => ?_)
          · skip
            refine g_iload_n 71 (gd rfl) rfl rfl ?_
            refine g_bipush 124 73 (gd rfl) rfl rfl ?_
            refine g_cmp_eq 76 90 (gd rfl) rfl rfl (fun c73 => ?_) (fun c73 => ?_)
            · skip
              have i73 := r_eq1 124 124 c73 i46x15 (in_c 124 rfl) rfl
              refine g_aload_n 91 (gd rfl) rfl rfl ?_
              refine g_getA (q2 := 98) 94 (gd rfl) rfl rfl rfl rfl ?_
              refine g_iload_n 95 (gd rfl) rfl rfl ?_
              refine g_dup2 96 (gd rfl) rfl rfl rfl ?_
              refine g_laload 97 (gd rfl) rfl (n := 11) rfl (in_ix h3 rfl) (fun z96 e96 => ?_)
              have i96 := inv_L hI (n := 11) 0 1152921504606846975 rfl (in_ix h3 rfl) rfl e96
              refine g_lconst 1 98 (gd rfl) rfl rfl ?_
              refine g_iload_n 99 (gd rfl) rfl rfl ?_
              refine g_lshl 100 (gd rfl) rfl (fun z99 e99 => ?_)
              have i99 := l_shl 59 e99 h2 rfl
              refine g_lor 101 (gd rfl) rfl (fun z100 e100 => ?_)
              have i100 := inl_or 60 e100 (lw 0 1152921504606846975 i96 rfl) (lw 0 1152921504606846975 i99 rfl) rfl
              refine g_lastore 102 (gd rfl) rfl (n := 11) rfl (in_ix h3 rfl) ?_
              have hI101 := inv_sL (q := 98) (j := x3.toNatClampNeg) (x := z100) hI rfl (lw 0 1152921504606846975 i100 rfl)
              refine g_iload_n 103 (gd rfl) rfl rfl ?_
              refine g_if_ne 106 120 (gd rfl) rfl rfl (fun c103 => ?_) (fun c103 => ?_)
              · skip
                have i103 := z_ne 1 10 c103 h3 rfl
                refine g_aload_n 121 (gd rfl) rfl rfl ?_
                refine g_getA (q2 := 95) 124 (gd rfl) rfl rfl rfl rfl ?_
                refine g_aload_n 125 (gd rfl) rfl rfl ?_
                refine g_getA (q2 := 97) 128 (gd rfl) rfl rfl rfl rfl ?_
                refine g_iload_n 129 (gd rfl) rfl rfl ?_
                refine g_iaload 130 (gd rfl) rfl (n := 11) rfl (in_ix i103 rfl) (fun z129 e129 => ?_)
                have i129 := inv_I hI101 (n := 11) (t := 0) 0 60 rfl (in_ix i103 rfl) rfl e129
                refine g_dup2 131 (gd rfl) rfl rfl rfl ?_
                refine g_laload 132 (gd rfl) rfl (n := 61) rfl (in_ix i129 rfl) (fun z131 e131 => ?_)
                have i131 := inv_L hI101 (n := 61) 0 2305843009213693951 rfl (in_ix i129 rfl) rfl e131
                refine g_lload 134 (gd rfl) rfl rfl ?_
                refine g_lor 135 (gd rfl) rfl (fun z134 e134 => ?_)
                have i134 := inl_or 61 e134 (lw 0 2305843009213693951 i131 rfl) (lw 0 2305843009213693951 i4 rfl) rfl
                refine g_lastore 136 (gd rfl) rfl (n := 61) rfl (in_ix i129 rfl) ?_
                have hI135 := inv_sL (q := 95) (j := z129.toNatClampNeg) (x := z134) hI101 rfl (lw 0 2305843009213693951 i134 rfl)
                have n136 : LPC (x1).toInt (x2).toNatClampNeg (x3).toNatClampNeg (s.1 97) (s.2.1 95) (s.2.1 96) (s.2.1 98) (((sL (sL s 98 x3.toNatClampNeg z100) 95 z129.toNatClampNeg z134)).2.1 95) (((sL (sL s 98 x3.toNatClampNeg z100) 95 z129.toNatClampNeg z134)).2.1 96) (((sL (sL s 98 x3.toNatClampNeg z100) 95 z129.toNatClampNeg z134)).2.1 98) (s.2.2.2.1 94 0) (((sL (sL s 98 x3.toNatClampNeg z100) 95 z129.toNatClampNeg z134)).2.2.2.1 94 0) := by have eo : z129 = s.1 97 (x3).toNatClampNeg := e129; rw [(sL_w : (sL (sL s 98 x3.toNatClampNeg z100) 95 z129.toNatClampNeg z134).2.1 95 = _), ((sLx_o rfl).trans (sLx_o rfl) : (sL (sL s 98 x3.toNatClampNeg z100) 95 z129.toNatClampNeg z134).2.1 96 = s.2.1 96), ((sLx_o rfl).trans sL_w : (sL (sL s 98 x3.toNatClampNeg z100) 95 z129.toNatClampNeg z134).2.1 98 = _), (sLx_o rfl : (sL s 98 x3.toNatClampNeg z100).2.1 95 = s.2.1 95), eo]; exact lpc_c (by have a0 := i103; unfold In at a0; have a1 := h2; unfold In at a1; have a2 := i73; unfold In at a2; have a3 := i3; unfold In at a3; have a4 := t_add e3 h2 (in_c 1 rfl) rfl; have a5 := (in_c 1 rfl); unfold In at a5; have oc := oc_160_94; omega) (fun h => by have h9 : (x3).toInt.toNat = 0 := h; have a0 := i103; unfold In at a0; have a1 := h2; unfold In at a1; have a2 := i73; unfold In at a2; have a3 := i3; unfold In at a3; have a4 := t_add e3 h2 (in_c 1 rfl) rfl; have a5 := (in_c 1 rfl); unfold In at a5; have oc := oc_160_94; omega) (by rw [← e96]; exact e100) (blx_1 e99 (show In x2 0 63 from ⟨by have a0 := i103; unfold In at a0; have a1 := h2; unfold In at a1; have a2 := i73; unfold In at a2; have a3 := i3; unfold In at a3; have a4 := t_add e3 h2 (in_c 1 rfl) rfl; have a5 := (in_c 1 rfl); unfold In at a5; have oc := oc_160_94; omega, by have a0 := i103; unfold In at a0; have a1 := h2; unfold In at a1; have a2 := i73; unfold In at a2; have a3 := i3; unfold In at a3; have a4 := t_add e3 h2 (in_c 1 rfl) rfl; have a5 := (in_c 1 rfl); unfold In at a5; have oc := oc_160_94; omega⟩) rfl) (by rw [← eo, ← (show z131 = s.2.1 95 z129.toNatClampNeg from e131.trans (congrFun (sLx_o rfl) _))]; exact e134) (blx_1 e4 (show In z3 0 63 from ⟨by have a0 := i103; unfold In at a0; have a1 := h2; unfold In at a1; have a2 := i73; unfold In at a2; have a3 := i3; unfold In at a3; have a4 := t_add e3 h2 (in_c 1 rfl) rfl; have a5 := (in_c 1 rfl); unfold In at a5; have oc := oc_160_94; omega, by have a0 := i103; unfold In at a0; have a1 := h2; unfold In at a1; have a2 := i73; unfold In at a2; have a3 := i3; unfold In at a3; have a4 := t_add e3 h2 (in_c 1 rfl) rfl; have a5 := (in_c 1 rfl); unfold In at a5; have oc := oc_160_94; omega⟩) (show z3.toNatClampNeg = (x2).toNatClampNeg + 1 from (by show z3.toInt.toNat = (x2).toInt.toNat + 1; have a0 := i103; unfold In at a0; have a1 := h2; unfold In at a1; have a2 := i73; unfold In at a2; have a3 := i3; unfold In at a3; have a4 := t_add e3 h2 (in_c 1 rfl) rfl; have a5 := (in_c 1 rfl); unfold In at a5; have oc := oc_160_94; omega)))
                exact g_return (gd rfl) rfl (hP _ _ ⟨(sL (sL s 98 x3.toNatClampNeg z100) 95 z129.toNatClampNeg z134), hI135, (fr_sL rfl (fr_sL rfl fr_rf)), rfl, rfl, n136⟩)
              · skip
                have i103 := z_eq 0 0 c103 h3 rfl
                refine g_aload_n 107 (gd rfl) rfl rfl ?_
                refine g_dup 108 (gd rfl) rfl rfl ?_
                refine g_getL 111 (gd rfl) rfl rfl rfl (fun z108 e108 => ?_)
                have i108 := inv_G hI101 0 2305843009213693951 rfl e108
                refine g_lload 113 (gd rfl) rfl rfl ?_
                refine g_lor 114 (gd rfl) rfl (fun z113 e113 => ?_)
                have i113 := inl_or 61 e113 (lw 0 2305843009213693951 i108 rfl) (lw 0 2305843009213693951 i4 rfl) rfl
                refine g_putL 117 (gd rfl) rfl rfl rfl rfl ?_
                have hI114 := inv_sG (q := 94) (j := 0) (x := z113) hI101 rfl (lw 0 2305843009213693951 i113 rfl)
                refine g_goto 136 (gd rfl) rfl ?_
                have n136 : LPC (x1).toInt (x2).toNatClampNeg (x3).toNatClampNeg (s.1 97) (s.2.1 95) (s.2.1 96) (s.2.1 98) (((sG (sL s 98 x3.toNatClampNeg z100) 94 0 z113)).2.1 95) (((sG (sL s 98 x3.toNatClampNeg z100) 94 0 z113)).2.1 96) (((sG (sL s 98 x3.toNatClampNeg z100) 94 0 z113)).2.1 98) (s.2.2.2.1 94 0) (((sG (sL s 98 x3.toNatClampNeg z100) 94 0 z113)).2.2.2.1 94 0) := by show LPC _ _ _ _ _ _ _ ((sL s 98 x3.toNatClampNeg z100).2.1 95) ((sL s 98 x3.toNatClampNeg z100).2.1 96) ((sL s 98 x3.toNatClampNeg z100).2.1 98) _ ((sG (sL s 98 x3.toNatClampNeg z100) 94 0 z113).2.2.2.1 94 0); rw [(sL_w : (sL s 98 x3.toNatClampNeg z100).2.1 98 = _), (sLx_o rfl : (sL s 98 x3.toNatClampNeg z100).2.1 95 = s.2.1 95), (sLx_o rfl : (sL s 98 x3.toNatClampNeg z100).2.1 96 = s.2.1 96), ← (show z113 = (sG (sL s 98 x3.toNatClampNeg z100) 94 0 z113).2.2.2.1 94 0 from sG_get)]; exact lpc_b (by have a0 := i103; unfold In at a0; have a1 := h2; unfold In at a1; have a2 := i73; unfold In at a2; have a3 := i3; unfold In at a3; have a4 := t_add e3 h2 (in_c 1 rfl) rfl; have a5 := (in_c 1 rfl); unfold In at a5; have oc := oc_160_94; omega) (show (x3).toInt.toNat = 0 from (by have a0 := i103; unfold In at a0; have a1 := h2; unfold In at a1; have a2 := i73; unfold In at a2; have a3 := i3; unfold In at a3; have a4 := t_add e3 h2 (in_c 1 rfl) rfl; have a5 := (in_c 1 rfl); unfold In at a5; have oc := oc_160_94; omega)) (by rw [← e96]; exact e100) (blx_1 e99 (show In x2 0 63 from ⟨by have a0 := i103; unfold In at a0; have a1 := h2; unfold In at a1; have a2 := i73; unfold In at a2; have a3 := i3; unfold In at a3; have a4 := t_add e3 h2 (in_c 1 rfl) rfl; have a5 := (in_c 1 rfl); unfold In at a5; have oc := oc_160_94; omega, by have a0 := i103; unfold In at a0; have a1 := h2; unfold In at a1; have a2 := i73; unfold In at a2; have a3 := i3; unfold In at a3; have a4 := t_add e3 h2 (in_c 1 rfl) rfl; have a5 := (in_c 1 rfl); unfold In at a5; have oc := oc_160_94; omega⟩) rfl) (by rw [← (show z108 = s.2.2.2.1 94 0 from e108)]; exact e113) (blx_1 e4 (show In z3 0 63 from ⟨by have a0 := i103; unfold In at a0; have a1 := h2; unfold In at a1; have a2 := i73; unfold In at a2; have a3 := i3; unfold In at a3; have a4 := t_add e3 h2 (in_c 1 rfl) rfl; have a5 := (in_c 1 rfl); unfold In at a5; have oc := oc_160_94; omega, by have a0 := i103; unfold In at a0; have a1 := h2; unfold In at a1; have a2 := i73; unfold In at a2; have a3 := i3; unfold In at a3; have a4 := t_add e3 h2 (in_c 1 rfl) rfl; have a5 := (in_c 1 rfl); unfold In at a5; have oc := oc_160_94; omega⟩) (show z3.toNatClampNeg = (x2).toNatClampNeg + 1 from (by show z3.toInt.toNat = (x2).toInt.toNat + 1; have a0 := i103; unfold In at a0; have a1 := h2; unfold In at a1; have a2 := i73; unfold In at a2; have a3 := i3; unfold In at a3; have a4 := t_add e3 h2 (in_c 1 rfl) rfl; have a5 := (in_c 1 rfl); unfold In at a5; have oc := oc_160_94; omega)))
                exact g_return (gd rfl) rfl (hP _ _ ⟨(sG (sL s 98 x3.toNatClampNeg z100) 94 0 z113), hI114, (fr_sG rfl (fr_sL rfl fr_rf)), rfl, rfl, n136⟩)
            · skip
              refine g_aload_n 77 (gd rfl) rfl rfl ?_
              refine g_getA (q2 := 95) 80 (gd rfl) rfl rfl rfl rfl ?_
              refine g_iload_n 81 (gd rfl) rfl rfl ?_
              refine g_dup2 82 (gd rfl) rfl rfl rfl ?_
              refine g_laload 83 (gd rfl) rfl (n := 61) rfl (in_ix h2 rfl) (fun z82 e82 => ?_)
              have i82 := inv_L hI (n := 61) 0 2305843009213693951 rfl (in_ix h2 rfl) rfl e82
              refine g_lload 85 (gd rfl) rfl rfl ?_
              refine g_lor 86 (gd rfl) rfl (fun z85 e85 => ?_)
              have i85 := inl_or 61 e85 (lw 0 2305843009213693951 i82 rfl) (lw 0 2305843009213693951 i4 rfl) rfl
              refine g_lastore 87 (gd rfl) rfl (n := 61) rfl (in_ix h2 rfl) ?_
              have hI86 := inv_sL (q := 95) (j := x2.toNatClampNeg) (x := z85) hI rfl (lw 0 2305843009213693951 i85 rfl)
              refine g_goto 136 (gd rfl) rfl ?_
              have n136 : LPC (x1).toInt (x2).toNatClampNeg (x3).toNatClampNeg (s.1 97) (s.2.1 95) (s.2.1 96) (s.2.1 98) (((sL s 95 x2.toNatClampNeg z85)).2.1 95) (((sL s 95 x2.toNatClampNeg z85)).2.1 96) (((sL s 95 x2.toNatClampNeg z85)).2.1 98) (s.2.2.2.1 94 0) (((sL s 95 x2.toNatClampNeg z85)).2.2.2.1 94 0) := by rw [(sL_w : (sL s 95 x2.toNatClampNeg z85).2.1 95 = _), (sLx_o rfl : (sL s 95 x2.toNatClampNeg z85).2.1 96 = s.2.1 96), (sLx_o rfl : (sL s 95 x2.toNatClampNeg z85).2.1 98 = s.2.1 98)]; exact lpc_o (by unfold ptA; have a0 := h3; unfold In at a0; have a1 := h2; unfold In at a1; have a2 := i46x15; unfold In at a2; have a3 := i3; unfold In at a3; have a4 := t_add e3 h2 (in_c 1 rfl) rfl; have a5 := (in_c 1 rfl); unfold In at a5; have oc := oc_160_94; omega) (by have a0 := h3; unfold In at a0; have a1 := h2; unfold In at a1; have a2 := i46x15; unfold In at a2; have a3 := i3; unfold In at a3; have a4 := t_add e3 h2 (in_c 1 rfl) rfl; have a5 := (in_c 1 rfl); unfold In at a5; have oc := oc_160_94; omega) (by rw [← e82]; exact e85) (blx_1 e4 (show In z3 0 63 from ⟨by have a0 := h3; unfold In at a0; have a1 := h2; unfold In at a1; have a2 := i46x15; unfold In at a2; have a3 := i3; unfold In at a3; have a4 := t_add e3 h2 (in_c 1 rfl) rfl; have a5 := (in_c 1 rfl); unfold In at a5; have oc := oc_160_94; omega, by have a0 := h3; unfold In at a0; have a1 := h2; unfold In at a1; have a2 := i46x15; unfold In at a2; have a3 := i3; unfold In at a3; have a4 := t_add e3 h2 (in_c 1 rfl) rfl; have a5 := (in_c 1 rfl); unfold In at a5; have oc := oc_160_94; omega⟩) (show z3.toNatClampNeg = (x2).toNatClampNeg + 1 from (by show z3.toInt.toNat = (x2).toInt.toNat + 1; have a0 := h3; unfold In at a0; have a1 := h2; unfold In at a1; have a2 := i46x15; unfold In at a2; have a3 := i3; unfold In at a3; have a4 := t_add e3 h2 (in_c 1 rfl) rfl; have a5 := (in_c 1 rfl); unfold In at a5; have oc := oc_160_94; omega)))
              exact g_return (gd rfl) rfl (hP _ _ ⟨(sL s 95 x2.toNatClampNeg z85), hI86, (fr_sL rfl fr_rf), rfl, rfl, n136⟩)
          · skip
            exact zn_ne c49 (in_c 0 rfl) rfl
        · skip
          have i46x15 := r_le1 97 122 c46x15 i46x9 (in_c 122 rfl) rfl
          refine g_iconst 1 19 (gd rfl) rfl rfl ?_
          refine g_goto 23 (gd rfl) rfl ?_
          refine g_ireturn (gd rfl) rfl (nb01 (in_w 0 1 (in_c 1 rfl) rfl)) (hp46 _ _ ?_)
          show GG _ _ _ _ _ _ _ _ [.int (Int32.ofInt 1)] _ _ _
          refine g_if_eq 52 70 (gd rfl) rfl rfl (fun c49 => ?_) (fun c49 => ?_)
          · skip
            exact zn_eq c49 (in_c 1 rfl) rfl
          · skip
            refine g_aload_n 53 (gd rfl) rfl rfl ?_
            refine g_getA (q2 := 96) 56 (gd rfl) rfl rfl rfl rfl ?_
            refine g_iload_n 57 (gd rfl) rfl rfl ?_
            refine g_bipush 97 59 (gd rfl) rfl rfl ?_
            refine g_isub 60 (gd rfl) rfl (fun z59 e59 => ?_)
            have i59 := in_sub 0 25 e59 i46x15 (in_c 97 rfl) rfl rfl
            refine g_dup2 61 (gd rfl) rfl rfl rfl ?_
            refine g_laload 62 (gd rfl) rfl (n := 26) rfl (in_ix i59 rfl) (fun z61 e61 => ?_)
            have i61 := inv_L hI (n := 26) 0 1152921504606846975 rfl (in_ix i59 rfl) rfl e61
            refine g_lconst 1 63 (gd rfl) rfl rfl ?_
            refine g_iload_n 64 (gd rfl) rfl rfl ?_
            refine g_lshl 65 (gd rfl) rfl (fun z64 e64 => ?_)
            have i64 := l_shl 59 e64 h2 rfl
            refine g_lor 66 (gd rfl) rfl (fun z65 e65 => ?_)
            have i65 := inl_or 60 e65 (lw 0 1152921504606846975 i61 rfl) (lw 0 1152921504606846975 i64 rfl) rfl
            refine g_lastore 67 (gd rfl) rfl (n := 26) rfl (in_ix i59 rfl) ?_
            have hI66 := inv_sL (q := 96) (j := z59.toNatClampNeg) (x := z65) hI rfl (lw 0 1152921504606846975 i65 rfl)
            refine g_goto 136 (gd rfl) rfl ?_
            have n136 : LPC (x1).toInt (x2).toNatClampNeg (x3).toNatClampNeg (s.1 97) (s.2.1 95) (s.2.1 96) (s.2.1 98) (((sL s 96 z59.toNatClampNeg z65)).2.1 95) (((sL s 96 z59.toNatClampNeg z65)).2.1 96) (((sL s 96 z59.toNatClampNeg z65)).2.1 98) (s.2.2.2.1 94 0) (((sL s 96 z59.toNatClampNeg z65)).2.2.2.1 94 0) := by rw [(sL_w : (sL s 96 z59.toNatClampNeg z65).2.1 96 = _), (sLx_o rfl : (sL s 96 z59.toNatClampNeg z65).2.1 95 = s.2.1 95), (sLx_o rfl : (sL s 96 z59.toNatClampNeg z65).2.1 98 = s.2.1 98)]; exact lpc_l (show (x1).toInt = 97 + ((z59.toNatClampNeg : Nat) : Int) from (by rw [clx (x := z59) (by have a0 := h3; unfold In at a0; have a1 := h2; unfold In at a1; have a2 := i46x15; unfold In at a2; have a3 := i59; unfold In at a3; have a4 := t_sub e59 i46x15 (in_c 97 rfl) rfl; have a5 := (in_c 97 rfl); unfold In at a5; have a6 := i3; unfold In at a6; have a7 := t_add e3 h2 (in_c 1 rfl) rfl; have a8 := (in_c 1 rfl); unfold In at a8; have oc := oc_160_94; omega)]; have a0 := h3; unfold In at a0; have a1 := h2; unfold In at a1; have a2 := i46x15; unfold In at a2; have a3 := i59; unfold In at a3; have a4 := t_sub e59 i46x15 (in_c 97 rfl) rfl; have a5 := (in_c 97 rfl); unfold In at a5; have a6 := i3; unfold In at a6; have a7 := t_add e3 h2 (in_c 1 rfl) rfl; have a8 := (in_c 1 rfl); unfold In at a8; have oc := oc_160_94; omega)) (show z59.toInt.toNat < 26 from (by have a0 := h3; unfold In at a0; have a1 := h2; unfold In at a1; have a2 := i46x15; unfold In at a2; have a3 := i59; unfold In at a3; have a4 := t_sub e59 i46x15 (in_c 97 rfl) rfl; have a5 := (in_c 97 rfl); unfold In at a5; have a6 := i3; unfold In at a6; have a7 := t_add e3 h2 (in_c 1 rfl) rfl; have a8 := (in_c 1 rfl); unfold In at a8; have oc := oc_160_94; omega)) (by rw [← e61]; exact e65) (blx_1 e64 (show In x2 0 63 from ⟨by have a0 := h3; unfold In at a0; have a1 := h2; unfold In at a1; have a2 := i46x15; unfold In at a2; have a3 := i59; unfold In at a3; have a4 := t_sub e59 i46x15 (in_c 97 rfl) rfl; have a5 := (in_c 97 rfl); unfold In at a5; have a6 := i3; unfold In at a6; have a7 := t_add e3 h2 (in_c 1 rfl) rfl; have a8 := (in_c 1 rfl); unfold In at a8; have oc := oc_160_94; omega, by have a0 := h3; unfold In at a0; have a1 := h2; unfold In at a1; have a2 := i46x15; unfold In at a2; have a3 := i59; unfold In at a3; have a4 := t_sub e59 i46x15 (in_c 97 rfl) rfl; have a5 := (in_c 97 rfl); unfold In at a5; have a6 := i3; unfold In at a6; have a7 := t_add e3 h2 (in_c 1 rfl) rfl; have a8 := (in_c 1 rfl); unfold In at a8; have oc := oc_160_94; omega⟩) rfl)
            exact g_return (gd rfl) rfl (hP _ _ ⟨(sL s 96 z59.toNatClampNeg z65), hI66, (fr_sL rfl fr_rf), rfl, rfl, n136⟩)
  · skip
    have i10 := r_eq1 46 46 c10 h1 (in_c 46 rfl) rfl
    refine g_iconst 0 14 (gd rfl) rfl rfl ?_
    refine g_istore 16 (gd rfl) rfl (Nat.le_of_ble_eq_true rfl) ?_
    have n16 : ∀ κ : Nat, ∀ x : Nat, blt ((s).2.1 96 κ) x = true ↔ (blt (s.2.1 96 κ) x = true ∨ (κ < ((Int32.ofInt 0)).toNatClampNeg ∧ x = (x2).toNatClampNeg)) := by intro κ x; exact ⟨Or.inl, fun q => q.elim id (fun q => absurd q.1 (Nat.not_lt_zero _))⟩
    have n16a : (s).2.1 95 = s.2.1 95 ∧ (s).2.1 98 = s.2.1 98 ∧ (s).2.2.2.1 94 0 = s.2.2.2.1 94 0 := by exact ⟨rfl, rfl, rfl⟩
    exact gg_w (by omega) (gg_f (gf_cons rfl (gf_cons rfl (gf_cons rfl (gf_cons rfl (gf_cons rfl (gf_cons rfl gf_nil)))))) (ct16 27 s z4 (Int32.ofInt 0) hI fr_rf (in_w 46 46 i10 rfl) (in_w 0 26 (in_c 0 rfl) rfl) n16 n16a (m_in 27 (in_w 0 26 (in_c 0 rfl) rfl) rfl)))

theorem oc_161_94 : (Int32.ofInt (-1)).toInt = (-1) ∧ (Int32.ofInt 0).toInt = 0 ∧ (Int32.ofInt 1).toInt = 1 ∧ (Int32.ofInt 42).toInt = 42 ∧ (Int32.ofInt 43).toInt = 43 ∧ (Int32.ofInt 63).toInt = 63 ∧ (Int64.ofInt 1).toInt = 1 := ⟨rfl, rfl, rfl, rfl, rfl, rfl, rfl⟩
def fm_161_94 : FM := ([], [95], [], [])
set_option maxHeartbeats 2000000 in
/-- GraphHouse$Question.layRepeat -/
theorem f_161_94 {Z : AmZ} {A : Nat → Nat} {s : GS} {ex : va_W} {d : Nat} {X : AmX} {x1 : Int32} {x2 : Int32} {x3 : Int32} (hd : 1 ≤ d) (hI : Inv s) (h1 : In x1 0 65535) (h2 : In x2 0 60) (h3 : In x3 0 60) : GC Z d 161 [.ref (A 94), .int x1, .int x2, .int x3] (WW Z A s ++ ex) 0 0 (fun v u => ∃ t : GS, Inv t ∧ Fr fm_161_94 s t ∧ v = none ∧ u = WW Z A t ++ ex ∧ (LRC (x1).toInt (x2).toNatClampNeg (x3).toNatClampNeg (s.2.1 95) ((t).2.1 95))) X := by
  intro post xp hP hX
  refine g_enter2 (k := 161) (N := 900) (by omega) rfl (Nat.le_of_ble_eq_true rfl) ?_
  refine g_iload_n 1 (gd rfl) rfl rfl ?_
  refine g_bipush 42 3 (gd rfl) rfl rfl ?_
  refine g_cmp_eq 6 12 (gd rfl) rfl rfl (fun c3 => ?_) (fun c3 => ?_)
  · skip
    have i3 := r_eq1 42 42 c3 h1 (in_c 42 rfl) rfl
    refine g_aload_n 13 (gd rfl) rfl rfl ?_
    refine g_getA (q2 := 95) 16 (gd rfl) rfl rfl rfl rfl ?_
    refine g_iload_n 17 (gd rfl) rfl rfl ?_
    refine g_dup2 18 (gd rfl) rfl rfl rfl ?_
    refine g_laload 19 (gd rfl) rfl (n := 61) rfl (in_ix h3 rfl) (fun z18 e18 => ?_)
    have i18 := inv_L hI (n := 61) 0 2305843009213693951 rfl (in_ix h3 rfl) rfl e18
    refine g_lconst 1 20 (gd rfl) rfl rfl ?_
    refine g_iload_n 21 (gd rfl) rfl rfl ?_
    refine g_lshl 22 (gd rfl) rfl (fun z21 e21 => ?_)
    have i21 := l_shl 60 e21 h2 rfl
    refine g_lor 23 (gd rfl) rfl (fun z22 e22 => ?_)
    have i22 := inl_or 61 e22 (lw 0 2305843009213693951 i18 rfl) (lw 0 2305843009213693951 i21 rfl) rfl
    refine g_lastore 24 (gd rfl) rfl (n := 61) rfl (in_ix h3 rfl) ?_
    have hI23 := inv_sL (q := 95) (j := x3.toNatClampNeg) (x := z22) hI rfl (lw 0 2305843009213693951 i22 rfl)
    refine g_iload_n 25 (gd rfl) rfl rfl ?_
    refine g_bipush 42 27 (gd rfl) rfl rfl ?_
    refine g_cmp_eq 30 36 (gd rfl) rfl rfl (fun c27 => ?_) (fun c27 => ?_)
    · skip
      refine g_aload_n 37 (gd rfl) rfl rfl ?_
      refine g_getA (q2 := 95) 40 (gd rfl) rfl rfl rfl rfl ?_
      refine g_iload_n 41 (gd rfl) rfl rfl ?_
      refine g_dup2 42 (gd rfl) rfl rfl rfl ?_
      refine g_laload 43 (gd rfl) rfl (n := 61) rfl (in_ix h2 rfl) (fun z42 e42 => ?_)
      have i42 := inv_L hI23 (n := 61) 0 2305843009213693951 rfl (in_ix h2 rfl) rfl e42
      refine g_lconst 1 44 (gd rfl) rfl rfl ?_
      refine g_iload_n 45 (gd rfl) rfl rfl ?_
      refine g_lshl 46 (gd rfl) rfl (fun z45 e45 => ?_)
      have i45 := l_shl 60 e45 h3 rfl
      refine g_lor 47 (gd rfl) rfl (fun z46 e46 => ?_)
      have i46 := inl_or 61 e46 (lw 0 2305843009213693951 i42 rfl) (lw 0 2305843009213693951 i45 rfl) rfl
      refine g_lastore 48 (gd rfl) rfl (n := 61) rfl (in_ix h2 rfl) ?_
      have hI47 := inv_sL (q := 95) (j := x2.toNatClampNeg) (x := z46) hI23 rfl (lw 0 2305843009213693951 i46 rfl)
      have n48 : LRC (x1).toInt (x2).toNatClampNeg (x3).toNatClampNeg (s.2.1 95) (((sL (sL s 95 x3.toNatClampNeg z22) 95 x2.toNatClampNeg z46)).2.1 95) := by intro x y; rw [(sL_w : (sL (sL s 95 x3.toNatClampNeg z22) 95 x2.toNatClampNeg z46).2.1 95 = _), lbu (show z46 = (sL s 95 x3.toNatClampNeg z22).2.1 95 (x2).toNatClampNeg ||| z45 from (by rw [← e42]; exact e46)), (sL_w : (sL s 95 x3.toNatClampNeg z22).2.1 95 = _), (lbu (show z22 = s.2.1 95 (x3).toNatClampNeg ||| z21 from (by rw [← e18]; exact e22))), (blx_1 e21 (show In x2 0 63 from ⟨by have a0 := h3; unfold In at a0; have a1 := h2; unfold In at a1; have a2 := i3; unfold In at a2; have oc := oc_161_94; omega, by have a0 := h3; unfold In at a0; have a1 := h2; unfold In at a1; have a2 := i3; unfold In at a2; have oc := oc_161_94; omega⟩) rfl) y, (blx_1 e45 (show In x3 0 63 from ⟨by have a0 := h3; unfold In at a0; have a1 := h2; unfold In at a1; have a2 := i3; unfold In at a2; have oc := oc_161_94; omega, by have a0 := h3; unfold In at a0; have a1 := h2; unfold In at a1; have a2 := i3; unfold In at a2; have oc := oc_161_94; omega⟩) rfl) y]; constructor; (rintro ((q | q) | q); (exact Or.inl q); (exact Or.inr (Or.inl ⟨by have a0 := h3; unfold In at a0; have a1 := h2; unfold In at a1; have a2 := i3; unfold In at a2; have oc := oc_161_94; omega, q⟩)); (exact Or.inr (Or.inr ⟨by have a0 := h3; unfold In at a0; have a1 := h2; unfold In at a1; have a2 := i3; unfold In at a2; have oc := oc_161_94; omega, q⟩))); (rintro (q | q | q); (exact Or.inl (Or.inl q)); (exact Or.inl (Or.inr q.2)); (exact Or.inr q.2))
      exact g_return (gd rfl) rfl (hP _ _ ⟨(sL (sL s 95 x3.toNatClampNeg z22) 95 x2.toNatClampNeg z46), hI47, (fr_sL rfl (fr_sL rfl fr_rf)), rfl, rfl, n48⟩)
    · skip
      exact n_ne c27 i3 (in_c 42 rfl) rfl
  · skip
    refine g_iload_n 7 (gd rfl) rfl rfl ?_
    refine g_bipush 43 9 (gd rfl) rfl rfl ?_
    refine g_cmp_ne 12 24 (gd rfl) rfl rfl (fun c9 => ?_) (fun c9 => ?_)
    · skip
      refine g_iload_n 25 (gd rfl) rfl rfl ?_
      refine g_bipush 42 27 (gd rfl) rfl rfl ?_
      refine g_cmp_eq 30 36 (gd rfl) rfl rfl (fun c27 => ?_) (fun c27 => ?_)
      · skip
        exact absurd c27 c3
      · skip
        refine g_iload_n 31 (gd rfl) rfl rfl ?_
        refine g_bipush 63 33 (gd rfl) rfl rfl ?_
        refine g_cmp_ne 36 48 (gd rfl) rfl rfl (fun c33 => ?_) (fun c33 => ?_)
        · skip
          have n48 : LRC (x1).toInt (x2).toNatClampNeg (x3).toNatClampNeg (s.2.1 95) ((s).2.1 95) := by intro x y; exact ⟨Or.inl, fun q => q.elim id (fun q => q.elim (fun q => absurd q.1 (by have a0 := h3; unfold In at a0; have a1 := h2; unfold In at a1; have a2 := h1; unfold In at a2; have oc := oc_161_94; omega)) (fun q => absurd q.1 (by have a0 := h3; unfold In at a0; have a1 := h2; unfold In at a1; have a2 := h1; unfold In at a2; have oc := oc_161_94; omega)))⟩
          exact g_return (gd rfl) rfl (hP _ _ ⟨s, hI, fr_rf, rfl, rfl, n48⟩)
        · skip
          have i33 := r_eq1 63 63 c33 h1 (in_c 63 rfl) rfl
          refine g_aload_n 37 (gd rfl) rfl rfl ?_
          refine g_getA (q2 := 95) 40 (gd rfl) rfl rfl rfl rfl ?_
          refine g_iload_n 41 (gd rfl) rfl rfl ?_
          refine g_dup2 42 (gd rfl) rfl rfl rfl ?_
          refine g_laload 43 (gd rfl) rfl (n := 61) rfl (in_ix h2 rfl) (fun z42 e42 => ?_)
          have i42 := inv_L hI (n := 61) 0 2305843009213693951 rfl (in_ix h2 rfl) rfl e42
          refine g_lconst 1 44 (gd rfl) rfl rfl ?_
          refine g_iload_n 45 (gd rfl) rfl rfl ?_
          refine g_lshl 46 (gd rfl) rfl (fun z45 e45 => ?_)
          have i45 := l_shl 60 e45 h3 rfl
          refine g_lor 47 (gd rfl) rfl (fun z46 e46 => ?_)
          have i46 := inl_or 61 e46 (lw 0 2305843009213693951 i42 rfl) (lw 0 2305843009213693951 i45 rfl) rfl
          refine g_lastore 48 (gd rfl) rfl (n := 61) rfl (in_ix h2 rfl) ?_
          have hI47 := inv_sL (q := 95) (j := x2.toNatClampNeg) (x := z46) hI rfl (lw 0 2305843009213693951 i46 rfl)
          have n48 : LRC (x1).toInt (x2).toNatClampNeg (x3).toNatClampNeg (s.2.1 95) (((sL s 95 x2.toNatClampNeg z46)).2.1 95) := by intro x y; rw [(sL_w : (sL s 95 x2.toNatClampNeg z46).2.1 95 = _), lbu (show z46 = s.2.1 95 (x2).toNatClampNeg ||| z45 from (by rw [← e42]; exact e46)), (blx_1 e45 (show In x3 0 63 from ⟨by have a0 := h3; unfold In at a0; have a1 := h2; unfold In at a1; have a2 := i33; unfold In at a2; have oc := oc_161_94; omega, by have a0 := h3; unfold In at a0; have a1 := h2; unfold In at a1; have a2 := i33; unfold In at a2; have oc := oc_161_94; omega⟩) rfl) y]; exact ⟨fun q => q.imp id (fun q => Or.inr ⟨by have a0 := h3; unfold In at a0; have a1 := h2; unfold In at a1; have a2 := i33; unfold In at a2; have oc := oc_161_94; omega, q⟩), fun q => q.imp id (fun q => q.elim (fun q => absurd q.1 (by have a0 := h3; unfold In at a0; have a1 := h2; unfold In at a1; have a2 := i33; unfold In at a2; have oc := oc_161_94; omega)) (fun q => q.2))⟩
          exact g_return (gd rfl) rfl (hP _ _ ⟨(sL s 95 x2.toNatClampNeg z46), hI47, (fr_sL rfl fr_rf), rfl, rfl, n48⟩)
    · skip
      have i9 := r_eq1 43 43 c9 h1 (in_c 43 rfl) rfl
      refine g_aload_n 13 (gd rfl) rfl rfl ?_
      refine g_getA (q2 := 95) 16 (gd rfl) rfl rfl rfl rfl ?_
      refine g_iload_n 17 (gd rfl) rfl rfl ?_
      refine g_dup2 18 (gd rfl) rfl rfl rfl ?_
      refine g_laload 19 (gd rfl) rfl (n := 61) rfl (in_ix h3 rfl) (fun z18 e18 => ?_)
      have i18 := inv_L hI (n := 61) 0 2305843009213693951 rfl (in_ix h3 rfl) rfl e18
      refine g_lconst 1 20 (gd rfl) rfl rfl ?_
      refine g_iload_n 21 (gd rfl) rfl rfl ?_
      refine g_lshl 22 (gd rfl) rfl (fun z21 e21 => ?_)
      have i21 := l_shl 60 e21 h2 rfl
      refine g_lor 23 (gd rfl) rfl (fun z22 e22 => ?_)
      have i22 := inl_or 61 e22 (lw 0 2305843009213693951 i18 rfl) (lw 0 2305843009213693951 i21 rfl) rfl
      refine g_lastore 24 (gd rfl) rfl (n := 61) rfl (in_ix h3 rfl) ?_
      have hI23 := inv_sL (q := 95) (j := x3.toNatClampNeg) (x := z22) hI rfl (lw 0 2305843009213693951 i22 rfl)
      refine g_iload_n 25 (gd rfl) rfl rfl ?_
      refine g_bipush 42 27 (gd rfl) rfl rfl ?_
      refine g_cmp_eq 30 36 (gd rfl) rfl rfl (fun c27 => ?_) (fun c27 => ?_)
      · skip
        exact absurd c27 c3
      · skip
        refine g_iload_n 31 (gd rfl) rfl rfl ?_
        refine g_bipush 63 33 (gd rfl) rfl rfl ?_
        refine g_cmp_ne 36 48 (gd rfl) rfl rfl (fun c33 => ?_) (fun c33 => ?_)
        · skip
          have n48 : LRC (x1).toInt (x2).toNatClampNeg (x3).toNatClampNeg (s.2.1 95) (((sL s 95 x3.toNatClampNeg z22)).2.1 95) := by intro x y; rw [(sL_w : (sL s 95 x3.toNatClampNeg z22).2.1 95 = _), (lbu (show z22 = s.2.1 95 (x3).toNatClampNeg ||| z21 from (by rw [← e18]; exact e22))), (blx_1 e21 (show In x2 0 63 from ⟨by have a0 := h3; unfold In at a0; have a1 := h2; unfold In at a1; have a2 := i9; unfold In at a2; have oc := oc_161_94; omega, by have a0 := h3; unfold In at a0; have a1 := h2; unfold In at a1; have a2 := i9; unfold In at a2; have oc := oc_161_94; omega⟩) rfl) y]; exact ⟨fun q => q.imp id (fun q => Or.inl ⟨by have a0 := h3; unfold In at a0; have a1 := h2; unfold In at a1; have a2 := i9; unfold In at a2; have oc := oc_161_94; omega, q⟩), fun q => q.imp id (fun q => q.elim (fun q => q.2) (fun q => absurd q.1 (by have a0 := h3; unfold In at a0; have a1 := h2; unfold In at a1; have a2 := i9; unfold In at a2; have oc := oc_161_94; omega)))⟩
          exact g_return (gd rfl) rfl (hP _ _ ⟨(sL s 95 x3.toNatClampNeg z22), hI23, (fr_sL rfl fr_rf), rfl, rfl, n48⟩)
        · skip
          exact n_eq c33 i9 (in_c 63 rfl) rfl
