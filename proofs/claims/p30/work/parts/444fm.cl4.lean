/-! COLOURS: CANLOWER, LESSEN, MAKECOLOURS -/
theorem cpi_v {f g h : Nat → Int32} (cp : ∀ k : Nat, h k = va_cpy f g (Int32.ofInt 0).toNatClampNeg (Int32.ofInt 0).toNatClampNeg (Int32.ofInt 32).toNatClampNeg k) : CEQL f h := fun k hk => by
  rw [cp k, show (Int32.ofInt 0).toNatClampNeg = 0 from rfl, show (Int32.ofInt 32).toNatClampNeg = 32 from rfl]
  unfold va_cpy
  rw [if_pos ⟨Nat.zero_le k, by omega⟩]
  show f (0 + (k - 0)) = f k
  rw [Nat.zero_add, Nat.sub_zero]
theorem n32c {x : Int32} (h : In x 0 31) : x.toNatClampNeg < 32 := by
  show x.toInt.toNat < 32
  have := h.2
  omega
def CLX (f : Nat → Int32) (n : Nat) (s : GS) (v c o : Int32) : Prop := SYR f ∧ FCL f n (s.2.2.1 60 3).toInt (s.1 61) ∧ (s.2.2.1 60 7).toInt = 0 ∧ v.toNatClampNeg < n ∧ n ≤ 32 ∧ c.toInt < o.toInt ∧ bt (s.1 61 o.toNatClampNeg) v.toNatClampNeg = true
section LOW
variable {f : Nat → Int32} {n : Nat} {s sc t : GS} {v c o bit bef : Int32}
theorem bef_b (eb : bit = Int32.ofInt 1 <<< (v &&& 31)) (e : bef = bit - Int32.ofInt 1) (iv : In v 0 31) : ∀ u, u < 32 → (bt bef u = true ↔ u < v.toNatClampNeg) := fun u hu => by
  rw [bt_all eb e iv hu, decide_eq_true_iff]
  have := clx iv.1
  omega
theorem lo_b {x w z23 z26 : Int32} {r : Int} (h : CLX f n s v c o) (iv : In v 0 31) (ic : In c 0 31) (eb : bit = Int32.ofInt 1 <<< (v &&& 31)) (e8 : bef = bit - Int32.ofInt 1) (ex : x = s.1 61 c.toNatClampNeg) (ew : w = f v.toNatClampNeg) (e23 : z23 = x &&& w) (e26 : z26 = z23 &&& bef) (hne : z26.toInt ≠ 0) (hr : r = 0) : CLW f n (s.2.2.1 60 3).toInt (s.1 61) (s.1 61) v.toNatClampNeg c.toNatClampNeg r := by
  obtain ⟨u, hu⟩ := bt_xs hne
  have a := bt_and1 e26 hu
  exact clw_b h.2.1 h.2.2.2.1 (n32c ic) cle_r hr ⟨u, (bef_b eb e8 iv u (bt_lt hu)).mp (bt_and2 e26 hu), by rw [← ex]; exact bt_and1 e23 a, by rw [← ew]; exact bt_and2 e23 a⟩
theorem lo_n {x w z23 z26 : Int32} (iv : In v 0 31) (eb : bit = Int32.ofInt 1 <<< (v &&& 31)) (e8 : bef = bit - Int32.ofInt 1) (ex : x = s.1 61 c.toNatClampNeg) (ew : w = f v.toNatClampNeg) (e23 : z23 = x &&& w) (e26 : z26 = z23 &&& bef) (h0 : z26.toInt = 0) : ∀ u, u < v.toNatClampNeg → bt (s.1 61 c.toNatClampNeg) u = true → bt (f v.toNatClampNeg) u = false := fun u hu hb => by
  refine bf_f (fun q => bt_nz (x := z26) (k := u) ?_ h0)
  rw [bt_and e26, bt_and e23, ex, ew, hb, q, (bef_b eb e8 iv u (bt_lt hb)).mpr hu]
  rfl
theorem bt_xr {x y z : Int32} {k : Nat} (e : z = x ^^^ y) : bt z k = (bt x k != bt y k) := by
  rw [e]
  unfold bt
  show (x.toBitVec ^^^ y.toBitVec).getLsbD k = _
  rw [BitVec.getLsbD_xor]
theorem lo_c {x z50 z51 ch z61 z74 z83 z86 : Int32} {r : Int} (h : CLX f n s v c o) (iv : In v 0 31) (ic : In c 0 31) (io : In o 0 31) (eb : bit = Int32.ofInt 1 <<< (v &&& 31)) (e8 : bef = bit - Int32.ofInt 1) (ex : x = s.1 61 c.toNatClampNeg) (e50 : z50 = s.1 61 o.toNatClampNeg) (e51 : z51 = x ||| z50) (hF : FLD f bit z51 ch) (e61 : z61 = ch &&& bef) (h61 : z61.toInt = 0) (e74 : z74 = x ^^^ ch) (e83 : z83 = (sI s 61 c.toNatClampNeg z74).1 61 o.toNatClampNeg) (e86 : z86 = z83 ^^^ ch) (hr : r ≠ 0) : CLW f n (s.2.2.1 60 3).toInt (s.1 61) ((sI (sI s 61 c.toNatClampNeg z74) 61 o.toNatClampNeg z86).1 61) v.toNatClampNeg c.toNatClampNeg r := by
  obtain ⟨h1, h2, h3, h4, h5, h6, h7⟩ := h
  have ec : ((c.toNatClampNeg : Nat) : Int) = c.toInt := clx ic.1
  have eo : ((o.toNatClampNeg : Nat) : Int) = o.toInt := clx io.1
  have ne : c.toNatClampNeg ≠ o.toNatClampNeg := by omega
  have q83 : z83 = s.1 61 o.toNatClampNeg := by rw [e83, sI_q, up_n (fun z => ne z.symm)]
  have ok : ((o.toNatClampNeg : Nat) : Int) < (s.2.2.1 60 3).toInt := h2.1.2.1 _ _ (n32c io) h7
  refine clw_c (o := o.toNatClampNeg) (bit := bit) (al := z51) (ch := ch) (zc := z74) (zo := z86) h2 h1 (n32c ic) (n32c io) ne (by omega) h7 (fun u => by rw [bt_one eb iv, decide_eq_true_iff]) (by rw [e51, ex, e50]) hF (fun u hu q => bt_nz (x := z61) (k := u) ?_ h61) (fun u => by rw [bt_xr e74, ex]) (fun u => by rw [bt_xr e86, q83]) (fun d hd => ?_) hr
  · rw [bt_and e61, hu, (bef_b eb e8 iv u (bt_lt hu)).mpr q]
    rfl
  · rw [sI_q, sI_q]
    by_cases a : d = o.toNatClampNeg
    · rw [a, up_e, if_pos rfl]
    · rw [up_n a, if_neg a]
      by_cases b : d = c.toNatClampNeg
      · rw [b, up_e, if_pos rfl]
      · rw [up_n b, if_neg b]
/-- the loop that masks the classes; saved are those of the entry -/
def L108 (s t : GS) (v y : Int32) : Prop := MKI (s.1 61) (t.1 61) v.toNatClampNeg y.toInt ∧ CEQL (s.1 61) (t.1 62) ∧ (t.2.2.1 60 7).toInt = (s.2.2.1 60 7).toInt
theorem l108_0 {y : Int32} (hc : CEQL (s.1 61) (t.1 62)) (e61 : t.1 61 = s.1 61) (e7 : t.2.2.1 60 7 = s.2.2.1 60 7) (hy : y.toInt = 0) : L108 s t v y := ⟨mki_0 (fun c _ => by rw [e61]) hy, hc, by rw [e7]⟩
theorem l108_s {y x z w : Int32} (h : L108 s t v y) (iv : In v 0 31) (iy : In y 0 31) (eb : bit = Int32.ofInt 1 <<< (v &&& 31)) (e8 : bef = bit - Int32.ofInt 1) (ex : x = t.1 61 y.toNatClampNeg) (e : z = x &&& bef) (hw : w.toInt = y.toInt + 1) : L108 s (sI t 61 y.toNatClampNeg z) v w := by
  have ey : ((y.toNatClampNeg : Nat) : Int) = y.toInt := clx iy.1
  refine ⟨?_, by rw [sI_p rfl]; exact h.2.1, h.2.2⟩
  rw [sI_q]
  exact mki_s h.1 ey.symm hw (bef_b eb e8 iv) (by rw [e, ex])
/-- the nodes behind v -/
theorem msk_of {al z158 z159 z163 m : Int32} (iv : In v 0 31) (eb : bit = Int32.ofInt 1 <<< (v &&& 31)) (e8 : bef = bit - Int32.ofInt 1) (ha : ∀ u : Nat, bt al u = true ↔ u < n) (e158 : z158 = bef ^^^ Int32.ofInt (-1)) (e159 : z159 = al &&& z158) (e163 : z163 = bit ^^^ Int32.ofInt (-1)) (e164 : m = z159 &&& z163) : ∀ u, bt m u = true ↔ (u < n ∧ v.toNatClampNeg < u) := fun u => by
  rw [clr_of iv eb e163 e164 u]
  by_cases hu : u < 32
  · have b := bef_b eb e8 iv u hu
    rw [bt_and e159, bt_not e158 hu, Bool.and_eq_true, ha u]
    constructor
    · rintro ⟨⟨a1, a2⟩, a3⟩
      refine ⟨a1, ?_⟩
      have : ¬ u < v.toNatClampNeg := fun z => by rw [b.mpr z] at a2; cases a2
      omega
    · rintro ⟨a1, a2⟩
      refine ⟨⟨a1, ?_⟩, by omega⟩
      have : ¬ bt bef u = true := fun z => by have := b.mp z; omega
      rw [bf_f this]
      rfl
  · constructor
    · rintro ⟨a, -⟩
      exact absurd (bt_lt a) hu
    · rintro ⟨a, -⟩
      exact absurd (bt_lt ((ha u).mpr a)) hu
theorem lo_x {y x z144 m : Int32} (h : CLX f n s v c o) (hL : L108 s t v y) (iv : In v 0 31) (ic : In c 0 31) (io : In o 0 31) (hk : (s.2.2.1 60 3).toInt ≤ y.toInt) (e3 : t.2.2.1 60 3 = s.2.2.1 60 3) (eb : bit = Int32.ofInt 1 <<< (v &&& 31)) (ex : x = t.1 61 c.toNatClampNeg) (e144 : z144 = x ||| bit) (hn : ∀ u, u < v.toNatClampNeg → bt (s.1 61 c.toNatClampNeg) u = true → bt (f v.toNatClampNeg) u = false) (hm : ∀ u, bt m u = true ↔ (u < n ∧ v.toNatClampNeg < u)) {d : Int} (hd : d = 0) : FLX f (sI t 61 c.toNatClampNeg z144) m d ∧ MKD (s.1 61) (t.1 61) v.toNatClampNeg ∧ PUTc (t.1 61) (upd (t.1 61) c.toNatClampNeg z144) c.toNatClampNeg v.toNatClampNeg := by
  obtain ⟨h1, h2, h3, h4, h5, h6, h7⟩ := h
  have ec : ((c.toNatClampNeg : Nat) : Int) = c.toInt := clx ic.1
  have eo : ((o.toNatClampNeg : Nat) : Int) = o.toInt := clx io.1
  have ok : ((o.toNatClampNeg : Nat) : Int) < (s.2.2.1 60 3).toInt := h2.1.2.1 _ _ (n32c io) h7
  have M := mki_e hL.1 h2.1 hk
  have p := put_of iv eb ex e144
  have V := mkd_v h2 M p h1 (n32c iv) (by omega) (n32c ic) hn hm
  have l := cb_le m
  refine ⟨⟨h1, ?_, ?_, ?_, by omega⟩, M, p⟩
  · show CPV f (t.2.2.1 60 3).toInt ((sI t 61 c.toNatClampNeg z144).1 61)
    rw [sI_q, e3]
    exact V.1
  · rw [sI_q]
    exact V.2
  · show (t.2.2.1 60 7).toInt + _ ≤ _
    rw [hL.2.2, h3]
    omega
theorem lo_y {t2 : GS} {y x z144 m r : Int32} {r2 : Int} (h : CLX f n s v c o) (ic : In c 0 31) (M : MKD (s.1 61) (t.1 61) v.toNatClampNeg) (p : PUTc (t.1 61) (upd (t.1 61) c.toNatClampNeg z144) c.toNatClampNeg v.toNatClampNeg) (e3 : t.2.2.1 60 3 = s.2.2.1 60 3) (hm : ∀ u, bt m u = true ↔ (u < n ∧ v.toNatClampNeg < u)) (hR : FRE f (t.2.2.1 60 3).toInt m ((sI t 61 c.toNatClampNeg z144).1 61) (t2.1 61) r.toInt) (hr : r.toInt ≠ 0) (hr2 : r2 ≠ 0) : CLW f n (s.2.2.1 60 3).toInt (s.1 61) (t2.1 61) v.toNatClampNeg c.toNatClampNeg r2 := by
  rw [sI_q, e3] at hR
  exact clw_y h.2.1 M p h.2.2.2.1 (n32c ic) hm hR hr hr2
theorem lo_z {t2 t3 : GS} {z144 m r : Int32} {d r2 : Int} (h : CLX f n s v c o) (ic : In c 0 31) (M : MKD (s.1 61) (t.1 61) v.toNatClampNeg) (p : PUTc (t.1 61) (upd (t.1 61) c.toNatClampNeg z144) c.toNatClampNeg v.toNatClampNeg) (hX : FLX f (sI t 61 c.toNatClampNeg z144) m d) (e3 : t.2.2.1 60 3 = s.2.2.1 60 3) (hm : ∀ u, bt m u = true ↔ (u < n ∧ v.toNatClampNeg < u)) (hR : FRE f (t.2.2.1 60 3).toInt m ((sI t 61 c.toNatClampNeg z144).1 61) (t2.1 61) r.toInt) (hr : r.toInt = 0) (e62 : CEQL (s.1 61) (t.1 62)) (e62b : t2.1 62 = t.1 62) (hc : CEQL (t2.1 62) (t3.1 61)) (hr2 : r2 = 0) : CLW f n (s.2.2.1 60 3).toInt (s.1 61) (t3.1 61) v.toNatClampNeg c.toNatClampNeg r2 := by
  rw [sI_q, e3] at hR
  have V : CPV f (t.2.2.1 60 3).toInt ((sI t 61 c.toNatClampNeg z144).1 61) := hX.2.1
  rw [sI_q, e3] at V
  rw [e62b] at hc
  exact clw_n h.2.1 M p V h.2.2.2.1 (n32c ic) hm hR hr hr2 (cle_t e62 hc)
/-! lessen -/
def LSX (f : Nat → Int32) (n : Nat) (s : GS) (v u : Int32) : Prop := SYR f ∧ FCL f n (s.2.2.1 60 3).toInt (s.1 61) ∧ (s.2.2.1 60 7).toInt = 0 ∧ v.toNatClampNeg < n ∧ n ≤ 32 ∧ USD (s.1 61) v.toNatClampNeg u.toInt
def L49 (f : Nat → Int32) (n : Nat) (s t : GS) (v own y : Int32) : Prop := LSI f n (s.2.2.1 60 3).toInt (s.1 61) (t.1 61) v.toNatClampNeg own.toInt y.toInt ∧ (t.2.2.1 60 7).toInt = 0
theorem l49_0 {u own y : Int32} (h : LSX f n s v u) (io : In own 0 31) (hb : (∃ c : Nat, c < 32 ∧ bt (s.1 61 c) v.toNatClampNeg = true) → bt (s.1 61 own.toNatClampNeg) v.toNatClampNeg = true) (hy : y.toInt = 0) : L49 f n s s v own y := by
  obtain ⟨h1, h2, h3, h4, h5, h6⟩ := h
  exact ⟨lsi_0 h2 kep_r h4 (clx io.1).symm (n32c io) (hb (h2.2.1 _ h4)) hy, h3⟩
theorem l49_w {u own x33 x19 y : Int32} (h : LSX f n s v u) (io : In own 0 31) (iu : In u 0 31) (hlt : u.toInt < own.toInt) (hb : (∃ c : Nat, c < 32 ∧ bt (s.1 61 c) v.toNatClampNeg = true) → bt (s.1 61 own.toNatClampNeg) v.toNatClampNeg = true) (e33 : x33 = s.1 61 u.toNatClampNeg) (e19 : x19 = s.1 61 own.toNatClampNeg) (hy : y.toInt = 0) : L49 f n s (sI (sI s 61 own.toNatClampNeg x33) 61 u.toNatClampNeg x19) v u y := by
  obtain ⟨h1, h2, h3, h4, h5, h6⟩ := h
  have eu : ((u.toNatClampNeg : Nat) : Int) = u.toInt := clx iu.1
  have eo : ((own.toNatClampNeg : Nat) : Int) = own.toInt := clx io.1
  have bo := hb (h2.2.1 _ h4)
  have ok := h2.1.2.1 _ _ (n32c io) bo
  have e2 : ∀ d, d < 32 → (sI (sI s 61 own.toNatClampNeg x33) 61 u.toNatClampNeg x19).1 61 d = if d = u.toNatClampNeg then s.1 61 own.toNatClampNeg else if d = own.toNatClampNeg then s.1 61 u.toNatClampNeg else s.1 61 d := fun d _ => by
    rw [sI_q, sI_q]
    by_cases a : d = u.toNatClampNeg
    · rw [a, up_e, if_pos rfl, e19]
    · rw [up_n a, if_neg a]
      by_cases b : d = own.toNatClampNeg
      · rw [b, up_e, if_pos rfl, e33]
      · rw [up_n b, if_neg b]
  refine ⟨lsi_0 (fcl_sw h2 (n32c io) (n32c iu) (by omega) (by omega) ok e2) (kep_sw h6 (n32c io) (n32c iu) (by omega) (by omega) e2) h4 eu.symm (n32c iu) ?_ hy, h3⟩
  rw [e2 _ (n32c iu), if_pos rfl]
  exact bo
theorem l49_x {u own y : Int32} (h : LSX f n s v u) (hL : L49 f n s t v own y) (io : In own 0 31) (hlt : y.toInt < own.toInt) (e3 : t.2.2.1 60 3 = s.2.2.1 60 3) : CLX f n t v y own := by
  obtain ⟨h1, h2, h3, h4, h5, h6⟩ := h
  obtain ⟨⟨l1, l2, ⟨o, o1, o2, o3⟩, l4⟩, l5⟩ := hL
  have e : own.toNatClampNeg = o := by have := clx io.1; omega
  refine ⟨h1, by rw [e3]; exact l1, l5, h4, h5, hlt, by rw [e]; exact o3⟩
theorem l49_y {t2 : GS} {own y w r : Int32} (hL : L49 f n s t v own y) (iy : In y 0 31) (hlt : y.toInt < own.toInt) (e3 : t.2.2.1 60 3 = s.2.2.1 60 3) (hR : CLW f n (t.2.2.1 60 3).toInt (t.1 61) (t2.1 61) v.toNatClampNeg y.toNatClampNeg r.toInt) (h7 : (t2.2.2.1 60 7).toInt = 0) (hr : r.toInt ≠ 0) (hw : w.toInt = y.toInt + 1) : L49 f n s t2 v y w := by
  rw [e3] at hR
  exact ⟨lsi_y hL.1 (clx iy.1).symm (n32c iy) hlt hR hr hw, h7⟩
theorem l49_n {t2 : GS} {own y w r : Int32} (hL : L49 f n s t v own y) (iy : In y 0 31) (e3 : t.2.2.1 60 3 = s.2.2.1 60 3) (hR : CLW f n (t.2.2.1 60 3).toInt (t.1 61) (t2.1 61) v.toNatClampNeg y.toNatClampNeg r.toInt) (h7 : (t2.2.2.1 60 7).toInt = 0) (hr : r.toInt = 0) (hw : w.toInt = y.toInt + 1) : L49 f n s t2 v own w := by
  rw [e3] at hR
  exact ⟨lsi_n hL.1 (clx iy.1).symm hR hr hw, h7⟩
/-! makeColours -/
def M33 (f : Nat → Int32) (n : Nat) (K0 : Int) (t : GS) : Prop := CL0 (t.1 61) ∧ LIM f n K0 (t.2.2.1 60 3).toInt ∧ (t.2.2.1 60 7).toInt = 0
theorem m33_x {K0 : Int} {m : Int32} {d : Int} (h : M33 f n K0 t) (hs : SYR f) (hd : d = 0) : FLX f t m d := by
  obtain ⟨h1, h2, h3⟩ := h
  have l := cb_le m
  exact ⟨hs, (cl0_v h1 (m := m)).1, (cl0_v h1 (f := f) (k := 0) (m := m)).2, by omega, by omega⟩
theorem m33_s {K0 : Int} {t2 : GS} {m r z : Int32} (h : M33 f n K0 t) (hm : ∀ u : Nat, bt m u = true ↔ u < n) (hR : FRE f (t.2.2.1 60 3).toInt m (t.1 61) (t2.1 61) r.toInt) (hA : ASI t t2) (hr : r.toInt = 0) (hz : z.toInt = (t.2.2.1 60 3).toInt + 1) : M33 f n K0 (sF t2 60 3 z) := by
  obtain ⟨h1, h2, h3⟩ := h
  have c := (hR.2 hr).1
  refine ⟨cl0_e h1 c, ?_, ?_⟩
  · rw [← sF_get]
    exact lim_s h2 h1 hm hR hr hz
  · rw [show (sF t2 60 3 z).2.2.1 60 7 = t2.2.2.1 60 7 from (sF_ne rfl rfl).symm, hA.1]
    exact h3
def M75 (f : Nat → Int32) (n : Nat) (K0 : Int) (t : GS) (v : Nat) (used : Int) : Prop := MCJ f n (t.2.2.1 60 3).toInt (t.1 61) (t.1 64) v used ∧ LIM f n K0 (t.2.2.1 60 3).toInt ∧ (t.2.2.1 60 7).toInt = 0
theorem m75_0 {K0 : Int} {t2 : GS} {m r : Int32} {used : Int} (h : M33 f n K0 t) (hm : ∀ u : Nat, bt m u = true ↔ u < n) (hR : FRE f (t.2.2.1 60 3).toInt m (t.1 61) (t2.1 61) r.toInt) (hA : ASI t t2) (hr : r.toInt ≠ 0) (e3 : t2.2.2.1 60 3 = t.2.2.1 60 3) : M75 f n K0 t2 0 used := by
  obtain ⟨h1, h2, h3⟩ := h
  refine ⟨mcj_0 (by rw [e3]; exact lim_f h1 hm hR hr), by rw [e3]; exact h2, by rw [hA.1]; exact h3⟩
theorem m75_x {K0 : Int} {y u : Int32} (h : M75 f n K0 t y.toNatClampNeg u.toInt) (hs : SYR f) (h32 : n ≤ 32) (hy : y.toNatClampNeg < n) : LSX f n t y u := by
  obtain ⟨h1, h2, h3⟩ := h
  exact ⟨hs, h1.1, h3, hy, h32, mcj_u h1⟩
theorem m75_s {K0 : Int} {t2 : GS} {y w z u u2 : Int32} (h : M75 f n K0 t y.toNatClampNeg u.toInt) (hL : LSE f n (t.2.2.1 60 3).toInt (t.1 61) (t2.1 61) y.toNatClampNeg z.toInt) (h7 : (t2.2.2.1 60 7).toInt = 0) (e3 : t2.2.2.1 60 3 = t.2.2.1 60 3) (e64 : t2.1 64 = t.1 64) (hw : w.toNatClampNeg = y.toNatClampNeg + 1) (h1 : u.toInt ≤ u2.toInt) (h2 : z.toInt < u2.toInt) : M75 f n K0 (sI t2 64 y.toNatClampNeg z) w.toNatClampNeg u2.toInt := by
  obtain ⟨a1, a2, a3⟩ := h
  refine ⟨?_, ?_, h7⟩
  · show MCJ f n (t2.2.2.1 60 3).toInt ((sI t2 64 y.toNatClampNeg z).1 61) ((sI t2 64 y.toNatClampNeg z).1 64) w.toNatClampNeg u2.toInt
    rw [sI_q, sI_p rfl, e3, e64, hw]
    exact mcj_s a1 hL h1 h2
  · show LIM f n K0 (t2.2.2.1 60 3).toInt
    rw [e3]
    exact a2
end LOW
theorem lim_32 {f : Nat → Int32} {n : Nat} {K0 k : Int} (h : LIM f n K0 k) (hK : K0 ≤ 31) (hx : ∃ χ, FUL f n 31 χ) : k ≤ 31 := by
  refine Classical.byContradiction fun z => ?_
  obtain ⟨χ, hχ⟩ := hx
  exact h.2 31 hK (by omega) χ hχ
/-! what colour answers -/
def KZ (S : Int32) : Int := if (cb S : Int) < 1 then 1 else (cb S : Int)
def COL (g : GVW) (v : Nat) (z : Int) : Prop := ∃ (f : Nat → Int32) (S : Int32), BFR g g.2.2.2.2.2.2.1 f ∧ CLG g S ∧ LXC f g.2.2.2.2.2.2.1.toNat (KZ S) v z
theorem clg_u {g h : GVW} (q : GEW g h) {S U : Int32} (a : CLG g S) (b : CLG h U) : S = U := by
  obtain ⟨f, a1, a2⟩ := a
  obtain ⟨f2, b1, b2⟩ := b
  rw [← q.2.2.2] at b1 b2
  exact clq_u (fun u w hu => (a1 u w hu).trans (by rw [nbr_e q]; exact (b1 u w hu).symm)) a2 b2
theorem col_u {g h : GVW} (q : GEW g h) {v : Nat} {y z : Int} (a : COL g v y) (b : COL h v z) : y = z := by
  obtain ⟨f, S, a1, a2, a3⟩ := a
  obtain ⟨f2, U, b1, b2, b3⟩ := b
  rw [← clg_u q a2 b2, ← q.2.2.2] at b3
  rw [← q.2.2.2] at b1
  refine lxc_u a3 (lxc_cg (fun u w hu => ?_) b3)
  have un : (u : Int) < g.2.2.2.2.2.2.1 := by omega
  rw [b1 u w un, ← nbr_e q]
  exact (a1 u w un).symm
theorem col_e {g h : GVW} (q : GEW g h) {v : Nat} {z : Int} (a : COL g v z) : COL h v z := by
  obtain ⟨f, S, a1, a2, a3⟩ := a
  have en := q.2.2.2
  refine ⟨f, S, fun u w hu => ?_, clg_e q a2, by rw [← en]; exact a3⟩
  rw [← nbr_e q]
  exact a1 u w (by rw [en]; exact hu)
def COB (g : GVW) (s : GS) : Prop := (s.2.2.1 60 2).toInt = g.2.2.2.2.2.2.2 → ∀ v : Nat, (v : Int) < g.2.2.2.2.2.2.1 → COL g v (s.1 64 v).toInt
def COV (g : GVW) (s : GS) : Prop := (s.2.2.1 60 2).toInt = g.2.2.2.2.2.2.2 ∧ ∀ v : Nat, (v : Int) < g.2.2.2.2.2.2.1 → COL g v (s.1 64 v).toInt
def COA (g : GVW) (s : GS) : Prop := ∀ v : Nat, (v : Int) < g.2.2.2.2.2.2.1 → COL g v (s.1 64 v).toInt
def COC (s : GS) : Prop := CQB (shC s) s ∧ COB (shC s) s
def KCG (g : GVW) (s t : GS) : Prop := KPG g s t ∧ COV g t
def KCK (g : GVW) (s t : GS) : Prop := CQQ g t ∧ t.2.2.1 60 2 = s.2.2.1 60 2 ∧ t.1 64 = s.1 64
theorem two_nb {g : GVW} : ∃ u w, u < w ∧ w < 32 ∧ ¬ NBR g u w := two_no (E := NBR g) (A := JNA g) (fun u w q => by
    obtain ⟨p, p1, p2⟩ := jnk_e.mpr q
    exact ⟨p, p1, p2⟩) (fun p u w x y a b => by
    rcases a.2.2 with ⟨a1, a2⟩ | ⟨a1, a2⟩ <;> rcases b.2.2 with ⟨b1, b2⟩ | ⟨b1, b2⟩ <;> omega)
theorem ful_g {g : GVW} {near : Nat → Int32} (h : ∀ u w, FEQ near (Int32.ofInt (-1)) u w ↔ (u ≠ w ∧ PE g 1 u w)) {n : Nat} (h32 : n ≤ 32) : ∃ χ, FUL near n 31 χ := ful_31 h32 (syr_of h) (by
  obtain ⟨u, w, h1, h2, h3⟩ := two_nb (g := g)
  exact ⟨u, w, h1, h2, fun _ => bf_f (fun z => h3 ((nbr_r h (show u < 32 by omega) rfl w).mp z))⟩)
theorem kz_31 {g : GVW} {S : Int32} (h : CLG g S) : KZ S ≤ 31 := by
  obtain ⟨f, h1, ⟨h2, h3⟩, -⟩ := h
  unfold KZ
  split
  · omega
  · refine Classical.byContradiction fun z => ?_
    have c : S = Int32.ofInt (-1) := Classical.byContradiction fun ne => by
      have q := cb_ss (x := S) (y := Int32.ofInt (-1)) (fun k hk => bt_m1 (bt_lt hk)) ne
      rw [cb_m1] at q
      omega
    obtain ⟨u, w, a1, a2, a3⟩ := two_nb (g := g)
    have bu : bt S u = true := by rw [c]; exact bt_m1 (by omega)
    have bw : bt S w = true := by rw [c]; exact bt_m1 a2
    exact a3 ((h1 u w (h3 u bu)).mp (h2 u w bu bw (by omega)))
theorem kz_m {S z : Int32} (h : z.toInt = (cb S : Int)) : (1 < z.toInt → KZ S = z.toInt) ∧ (z.toInt ≤ 1 → KZ S = (Int32.ofInt 1).toInt) := by
  have o : (Int32.ofInt 1).toInt = 1 := rfl
  unfold KZ
  by_cases c : (cb S : Int) < 1
  · rw [if_pos c]
    exact ⟨fun q => by omega, fun _ => o.symm⟩
  · rw [if_neg c]
    exact ⟨fun _ => h.symm, fun q => by omega⟩
theorem m33_0 {t : GS} {f : Nat → Int32} {n : Nat} {S : Int32} (hz : ∀ j, j < 32 → t.1 61 j = Int32.ofInt 0) (hk : KZ S = (t.2.2.1 60 3).toInt) (h7 : (t.2.2.1 60 7).toInt = 0) : M33 f n (KZ S) t := ⟨fun c u hc => by rw [hz c hc]; exact bt_0f rfl, lim_0 hk, h7⟩
theorem bfr_of {g : GVW} {near : Nat → Int32} (h : ∀ u w, FEQ near (Int32.ofInt (-1)) u w ↔ (u ≠ w ∧ PE g 1 u w)) {n : Int} (hn : n ≤ 32) : BFR g n near := fun u w hu => nbr_r h (show u < 32 by omega) rfl w
/-- what makeColours leaves -/
theorem m75_e {g : GVW} {t : GS} {f : Nat → Int32} {S : Int32} {v : Nat} {used : Int} (h : M75 f v (KZ S) t v used) (hb : BFR g g.2.2.2.2.2.2.1 f) (hS : CLG g S) (hv : v = g.2.2.2.2.2.2.1.toNat) : COA g t := by
  intro u hu
  refine ⟨f, S, hb, hS, ?_⟩
  rw [← hv]
  exact mcj_e h.1 h.2.1 u (by omega)
/-! THE REFERENCE -/
def X61 (t : GS) (k m : Int) : Prop := ∃ χ, FUL (t.1 138) (t.2.2.1 109 20).toInt.toNat k χ ∧ ∀ w : Nat, (w : Int) < m → (w : Int) < (t.2.2.1 109 20).toInt → χ w = (t.1 141 w).toInt
def LXR (t : GS) (k m : Int) : Prop := ∀ u : Nat, (u : Int) < m → (u : Int) < (t.2.2.1 109 20).toInt → ∀ χ, FUL (t.1 138) (t.2.2.1 109 20).toInt.toNat k χ → (∀ w, w < u → χ w = (t.1 141 w).toInt) → (t.1 141 u).toInt ≤ χ u
/-- what the reference's loop over the colours knows -/
def H72 (t0 : GS) (k : Int) (u : Nat) (c f : Int) : Prop := ∀ χ, Sol (adjq t0) (Sg t0) k (UU t0) χ → (if f = 0 then c + 1 else c) ≤ χ u
def H90 (t0 : GS) (k : Int) (u : Nat) (c : Int) : Prop := ∀ χ, Sol (adjq t0) (Sg t0) k (UU t0) χ → c ≤ χ u
theorem h72_0 {t : GS} {k : Int} {y : Int32} (hN : NS t y.toInt) (h0 : 0 ≤ y.toInt) (hn : y.toInt < (t.2.2.1 109 20).toInt) : H72 t k y.toNatClampNeg (Int32.ofInt (-1)).toInt (Int32.ofInt 0).toInt := by
  intro χ h
  rw [if_pos (show (Int32.ofInt 0).toInt = 0 by decide), m1_i]
  have := (h.1 _ (uu_u hN h0 hn)).1
  omega
theorem h72_90 {t : GS} {k c f d : Int} {u : Nat} (h : H72 t k u c f) (hf : f = 0) (hd : d = c + 1) : H90 t k u d := fun χ q => by
  have := h χ q
  rw [if_pos hf] at this
  omega
theorem h72_b {t0 t : GS} {k : Int} {y c z f : Int32} (hN : NS t0 y.toInt) (h0 : 0 ≤ y.toInt) (hn : y.toInt < (t0.2.2.1 109 20).toInt) (hb : BSD t0) (h : S3 t0 t) (hc : CE t) (p : BAR t y.toNatClampNeg (t.2.2.1 109 20).toInt z) (hz : bt z c.toNatClampNeg = true) (c0 : 0 ≤ c.toInt) (g : H90 t0 k y.toNatClampNeg c.toInt) (hf : f.toInt = 0) : H72 t0 k y.toNatClampNeg c.toInt f.toInt := by
  intro χ h1
  have h2 := g χ h1
  rw [if_pos hf]
  obtain ⟨w, w1, w2, w3, w4⟩ := (p _).mp hz
  have hu := uu_u hN h0 hn
  have ha : adjq t0 y.toNatClampNeg w := ⟨hu.1, by rw [← h.1]; exact w2⟩
  have e := ce_sg h hb hc _ _ ha
  have r := (h1.2 _ hu w ha).2 (by omega)
  have w5 : (t.1 142 w).toInt.toNat = c.toInt.toNat := w4
  omega
theorem ext_at {t0 t : GS} {k : Int} {y c : Int32} {χ : Nat → Int} (hN : NS t0 y.toInt) (h0 : 0 ≤ y.toInt) (hn : y.toInt < (t0.2.2.1 109 20).toInt) (h : S3 t0 t) (c0 : 0 ≤ c.toInt) (ec : χ y.toNatClampNeg = c.toInt) (g1 : Sol (adjq t0) (Sg t0) k (UU t0) χ) : EXT (sI t 141 y.toNatClampNeg c) k (UU (sI t 141 y.toNatClampNeg c)) := by
  have hu := uu_u hN h0 hn
  have e20 : (sI t 141 y.toNatClampNeg c).2.2.1 109 20 = t0.2.2.1 109 20 := h.2.2
  have sgu : Sg (sI t 141 y.toNatClampNeg c) y.toNatClampNeg = c.toInt := by
    rw [sg_lt (by rw [e20]; exact hu.1), sI_q, up_e]
  have sgn : ∀ x, x ≠ y.toNatClampNeg → Sg (sI t 141 y.toNatClampNeg c) x = Sg t0 x := by
    intro x hx
    unfold Sg
    rw [e20, sI_q, up_n hx, h.2.1]
  have ad : adjq (sI t 141 y.toNatClampNeg c) = adjq t0 := by
    funext a b
    unfold adjq
    rw [e20, sI_p rfl, h.1]
  have uu : ∀ v, UU (sI t 141 y.toNatClampNeg c) v → v ≠ y.toNatClampNeg ∧ UU t0 v := by
    intro v hv
    have hne : v ≠ y.toNatClampNeg := by
      intro e
      have := hv.2
      rw [e, sgu] at this
      omega
    refine ⟨hne, ?_, ?_⟩
    · have := hv.1; rw [e20] at this; exact this
    · have := hv.2; rw [sgn v hne] at this; exact this
  unfold EXT
  rw [ad]
  refine ⟨χ, fun v hv => g1.1 v (uu v hv).2, fun v hv w hw => ⟨fun hT => (g1.2 v (uu v hv).2 w hw).1 (uu w hT).2, fun hs => ?_⟩⟩
  by_cases e : w = y.toNatClampNeg
  · rw [e, sgu, ← ec]
    rw [e] at hw
    exact fun z => (g1.2 v (uu v hv).2 _ hw).1 hu z.symm
  · rw [sgn w e] at hs ⊢
    exact (g1.2 v (uu v hv).2 w hw).2 hs
theorem h72_c {t0 t : GS} {k : Int} {y c r : Int32} (hN : NS t0 y.toInt) (h0 : 0 ≤ y.toInt) (hn : y.toInt < (t0.2.2.1 109 20).toInt) (h : S3 t0 t) (c0 : 0 ≤ c.toInt) (g : H90 t0 k y.toNatClampNeg c.toInt) (p : CLR (sI t 141 y.toNatClampNeg c) k r.toInt) : H72 t0 k y.toNatClampNeg c.toInt r.toInt := by
  intro χ g1
  have g2 := g χ g1
  by_cases q : r.toInt = 0
  · rw [if_pos q]
    refine Classical.byContradiction fun hc => ?_
    exact p.1 q (ext_at hN h0 hn h c0 (by omega) g1)
  · rw [if_neg q]
    exact g2
/-- a full colouring that begins as the settled ones is an extension -/
theorem ful_sol {t : GS} {k m : Int} {χ : Nat → Int} (hN : NS t m) (h : FUL (t.1 138) (t.2.2.1 109 20).toInt.toNat k χ) (hw : ∀ w : Nat, (w : Int) < m → (w : Int) < (t.2.2.1 109 20).toInt → χ w = (t.1 141 w).toInt) : Sol (adjq t) (Sg t) k (UU t) χ := by
  refine ⟨fun v hv => h.1 v (by have := hv.1; omega), fun v hv u hu => ⟨fun hT => ?_, fun hs => ?_⟩⟩
  · exact h.2 v u (by have := hv.1; omega) (by have := hT.1; omega) hu.2
  · have un : (u : Int) < (t.2.2.1 109 20).toInt := Classical.byContradiction fun z => by rw [sg_ge z] at hs; omega
    rw [sg_lt un] at hs ⊢
    have um : (u : Int) < m := Classical.byContradiction fun z => by
      rw [hN u (by omega) un, m1_i] at hs
      omega
    rw [← hw u um un]
    exact fun z => h.2 v u (by have := hv.1; omega) (by omega) hu.2 z.symm
theorem x61_0 {t : GS} {k : Int} (hN : NS t 0) (h : EXT t k (UU t)) : X61 t k 0 := by
  obtain ⟨χ, h1, h2⟩ := h
  have uu : ∀ v : Nat, v < (t.2.2.1 109 20).toInt.toNat → UU t v := fun v hv => ⟨by omega, by rw [ns_sg hN]; omega⟩
  exact ⟨χ, ⟨fun v hv => h1 v (uu v hv), fun v u hv hu e => (h2 v (uu v hv) u ⟨by omega, e⟩).1 (uu u hu)⟩, fun w hw => by omega⟩
theorem x61_s {t0 t t2 : GS} {k : Int} {y c z : Int32} (hX : X61 t0 k y.toInt) (hN : NS t0 y.toInt) (h0 : 0 ≤ y.toInt) (hn : y.toInt < (t0.2.2.1 109 20).toInt) (hb : BSD t0) (h : S3 t0 t) (hc : CE t) (p : BAR t y.toNatClampNeg (t.2.2.1 109 20).toInt z) (hz : bt z c.toNatClampNeg = false) (c0 : 0 ≤ c.toInt) (ck : c.toInt < k) (h2 : S3 (sI t 141 y.toNatClampNeg c) t2) (hE : EXT t2 k (UU t2)) : X61 t2 k (y.toInt + 1) := by
  obtain ⟨χ, f1, f2⟩ := hX
  obtain ⟨ξ, x1, x2⟩ := hE
  have ey : y.toNatClampNeg = y.toInt.toNat := rfl
  have e138 : t2.1 138 = t0.1 138 := by rw [h2.1, sI_p rfl]; exact h.1
  have e20 : t2.2.2.1 109 20 = t0.2.2.1 109 20 := h2.2.2.trans h.2.2
  have e141 : t2.1 141 = upd (t0.1 141) y.toNatClampNeg c := by rw [h2.2.1, sI_q, h.2.1]
  obtain ⟨N, hNN⟩ : ∃ N : Nat, N = (t0.2.2.1 109 20).toInt.toNat := ⟨_, rfl⟩
  have N0 : (N : Int) = (t0.2.2.1 109 20).toInt := by omega
  obtain ⟨Y, hY⟩ : ∃ Y : Nat, Y = y.toNatClampNeg := ⟨_, rfl⟩
  have Y0 : (Y : Int) = y.toInt := by omega
  rw [← hNN] at f1
  have f2' : ∀ w : Nat, w < Y → w < N → χ w = (t0.1 141 w).toInt := fun w a b => f2 w (by omega) (by omega)
  -- the colours settled now
  have s2 : ∀ w : Nat, w < N → Sg t2 w = (upd (t0.1 141) y.toNatClampNeg c w).toInt := fun w hw => by rw [sg_lt (by rw [e20]; omega), e141]
  have sl : ∀ w : Nat, w < Y → w < N → Sg t2 w = χ w := fun w a b => by rw [s2 w b, up_n (by omega), f2' w a b]
  have sy : Sg t2 Y = c.toInt := by rw [s2 Y (by omega), hY, up_e]
  have sm : ∀ w : Nat, Y < w → w < N → UU t2 w := fun w a b => ⟨by rw [e20]; omega, by
    rw [s2 w b, up_n (by omega), hN w (by omega) (by omega), m1_i]; omega⟩
  have adj2 : ∀ a b : Nat, a < N → bt (t0.1 138 a) b = true → adjq t2 a b := fun a b ha hab => ⟨by rw [e20]; omega, by rw [e138]; exact hab⟩
  have sym : ∀ a b : Nat, a < N → bt (t0.1 138 a) b = true → bt (t0.1 138 b) a = true ∧ a ≠ b := fun a b ha hab => (hb a b (by omega) hab).2
  obtain ⟨ψ, p1, p2, p3⟩ : ∃ ψ : Nat → Int, (∀ w, w < Y → ψ w = χ w) ∧ ψ Y = c.toInt ∧ ∀ w, Y < w → ψ w = ξ w := ⟨fun w => if w < Y then χ w else if w = Y then c.toInt else ξ w, fun w a => if_pos a, by
    show (if Y < Y then χ Y else if Y = Y then c.toInt else ξ Y) = _
    rw [if_neg (by omega), if_pos rfl], fun w a => by
    show (if w < Y then χ w else if w = Y then c.toInt else ξ w) = _
    rw [if_neg (by omega), if_neg (by omega)]⟩
  have key : ∀ v u : Nat, v < N → u < N → bt (t0.1 138 v) u = true → (Y < v ∨ (v = Y ∧ u < Y) ∨ (v < Y ∧ u < Y)) → ψ u ≠ ψ v := by
    intro v u hv hu e c3
    rcases c3 with q | ⟨q1, q2⟩ | ⟨q1, q2⟩
    · rw [p3 v q]
      have a := x2 v (sm v q hv) u (adj2 v u hv e)
      rcases Nat.lt_trichotomy u Y with g | g | g
      · rw [p1 u g, ← sl u g hu]
        have r := a.2 (by rw [sl u g hu]; exact (f1.1 u hu).1)
        exact fun z => r z.symm
      · rw [g, p2, ← sy]
        rw [g] at a
        have r := a.2 (by rw [sy]; exact c0)
        exact fun z => r z.symm
      · rw [p3 u g]
        exact a.1 (sm u g hu)
    · rw [q1, p2, p1 u q2]
      intro z2
      have bt1 : adjq t0 y.toNatClampNeg u := ⟨by omega, by rw [← hY, ← q1]; exact e⟩
      have e142 := ce_sg h hb hc _ _ bt1
      have su : Sg t0 u = χ u := by rw [sg_lt (by omega), f2' u q2 hu]
      have c9 : bt z c.toNatClampNeg = true := (p _).mpr ⟨u, by rw [h.2.2]; omega, by rw [h.1, ← hY, ← q1]; exact e, by omega, by show (t.1 142 u).toInt.toNat = c.toInt.toNat; omega⟩
      rw [hz] at c9
      cases c9
    · rw [p1 u q2, p1 v q1]
      exact f1.2 v u hv hu e
  refine ⟨ψ, ?_, fun w hw hwn => ?_⟩
  · rw [e138, e20, ← hNN]
    refine ⟨fun v hv => ?_, fun v u hv hu e => ?_⟩
    · rcases Nat.lt_trichotomy v Y with g | g | g
      · rw [p1 v g]; exact f1.1 v hv
      · rw [g, p2]; exact ⟨c0, ck⟩
      · rw [p3 v g]; exact x1 v (sm v g hv)
    · have sv := sym v u hv e
      by_cases q : Y < v ∨ (v = Y ∧ u < Y) ∨ (v < Y ∧ u < Y)
      · exact key v u hv hu e q
      · exact fun z => key u v hu hv sv.1 (by omega) z.symm
  · rw [e20] at hwn
    rcases Nat.lt_trichotomy w Y with g | g | g
    · rw [p1 w g, e141, up_n (by omega)]
      exact f2' w g (by omega)
    · rw [g, p2, e141, hY, up_e]
    · omega
theorem lxr_0 {t : GS} {k : Int} : LXR t k 0 := fun u hu => by omega
theorem lxr_s {t0 t t2 : GS} {k : Int} {y c : Int32} (hL : LXR t0 k y.toInt) (hN : NS t0 y.toInt) (h0 : 0 ≤ y.toInt) (hn : y.toInt < (t0.2.2.1 109 20).toInt) (h : S3 t0 t) (h2 : S3 (sI t 141 y.toNatClampNeg c) t2) (g : H90 t0 k y.toNatClampNeg c.toInt) : LXR t2 k (y.toInt + 1) := by
  have ey : y.toNatClampNeg = y.toInt.toNat := rfl
  have e138 : t2.1 138 = t0.1 138 := by rw [h2.1, sI_p rfl]; exact h.1
  have e20 : t2.2.2.1 109 20 = t0.2.2.1 109 20 := h2.2.2.trans h.2.2
  have e141 : t2.1 141 = upd (t0.1 141) y.toNatClampNeg c := by rw [h2.2.1, sI_q, h.2.1]
  intro u hu hun χ hχ hw
  rw [e138, e20] at hχ
  rw [e20] at hun
  rw [e141] at hw ⊢
  by_cases q : u = y.toNatClampNeg
  · rw [q, up_e]
    rw [q] at hw
    exact g χ (ful_sol hN hχ (fun w a _ => by rw [hw w (by omega), up_n (by omega)]))
  · rw [up_n q]
    exact hL u (by omega) hun χ hχ (fun w a => by rw [hw w a, up_n (by omega)])
/-- the loop over the colours -/
def J72 (t0 t : GS) (k : Int) (y : Int32) (c f : Int) : Prop := (f ≠ 0 → X61 t k (y.toInt + 1) ∧ LXR t k (y.toInt + 1)) ∧ H72 t0 k y.toNatClampNeg c f
def R45 (s t : GS) (k : Int) : Prop := BFR (gvZ s) (gvZ s).2.2.2.2.2.2.1 (t.1 138) ∧ ∃ S, CLG (gvZ s) S ∧ LIM (t.1 138) (gvZ s).2.2.2.2.2.2.1.toNat (KZ S) k
theorem bt_b1 : ∀ k : Fin 32, bt (Int32.ofInt 1) k.val = decide (k.val = 0) := by decide +kernel
theorem kz_1 {g : GVW} {S : Int32} (h : CLG g S) (h0 : 0 < g.2.2.2.2.2.2.1) : KZ S = (cb S : Int) := by
  obtain ⟨f, h1, -, h3⟩ := h
  have b : ∀ k, bt (Int32.ofInt 1) k = true → k = 0 := fun k hk => by
    have q := bt_b1 ⟨k, bt_lt hk⟩
    have q2 : bt (Int32.ofInt 1) k = decide (k = 0) := q
    rw [hk] at q2
    exact of_decide_eq_true q2.symm
  have c := (h3 (Int32.ofInt 1) (fun u w hu hw ne => absurd ((b u hu).trans (b w hw).symm) ne) (fun k hk => by rw [b k hk]; omega)).1
  have o : cb (Int32.ofInt 1) = 1 := by decide +kernel
  unfold KZ
  rw [if_neg (by omega)]
theorem r45_0 {s t : GS} {S : Int32} {k : Int} (hB : BFR (gvZ s) (gvZ s).2.2.2.2.2.2.1 (t.1 138)) (h : CLG (gvZ s) S) (h0 : 0 < (gvZ s).2.2.2.2.2.2.1) (hk : k = (cb S : Int)) : R45 s t k := ⟨hB, S, h, lim_0 (by rw [hk]; exact kz_1 h h0)⟩
theorem r45_s {s t t2 : GS} {k j r : Int} (hR : R45 s t k) (hN : NS t 0) (e138 : t2.1 138 = t.1 138) (en : (gvZ s).2.2.2.2.2.2.1 = (t.2.2.1 109 20).toInt) (p : CLR t k r) (hr : r = 0) (hj : j = k + 1) : R45 s t2 j := by
  obtain ⟨hB, S, h1, h2, h3⟩ := hR
  refine ⟨by rw [e138]; exact hB, S, h1, by omega, fun i a b χ hχ => ?_⟩
  rw [e138] at hχ
  by_cases q : i = k
  · rw [q, en] at hχ
    exact p.1 hr ⟨χ, ful_sol hN hχ (fun w hw => by omega)⟩
  · exact h3 i a (by omega) χ hχ
theorem r45_3 {s t t2 : GS} {k : Int} (h : R45 s t k) (e : t2.1 138 = t.1 138) : R45 s t2 k := by
  unfold R45 at h ⊢
  rw [e]
  exact h
/-- the answer -/
theorem col_z {s t : GS} {k : Int} {v y : Int32} (hI : Inv s) (hR : R45 s t k) (hX : X61 t k y.toInt) (hL : LXR t k y.toInt) (iv : 0 ≤ v.toInt) (hv : v.toInt < (t.2.2.1 109 20).toInt) (hy : v.toInt < y.toInt) (en : (gvZ s).2.2.2.2.2.2.1 = (t.2.2.1 109 20).toInt) : COL (gvZ s) v.toNatClampNeg (t.1 141 v.toNatClampNeg).toInt := by
  obtain ⟨hB, S, h1, h2, h3⟩ := hR
  obtain ⟨χ, x1, x2⟩ := hX
  have ev : ((v.toNatClampNeg : Nat) : Int) = v.toInt := clx iv
  refine ⟨t.1 138, S, hB, h1, k, fun u => (t.1 141 u).toInt, h2, h3, ⟨χ, by rw [en]; exact x1, fun u hu => x2 u (by omega) (by omega)⟩, fun u hu ξ hξ hw => ?_, rfl⟩
  rw [en] at hξ
  exact hL u (by omega) (by omega) ξ hξ hw
def COR3 (s t : GS) (x z : Int32) : Prop := ((t.2.2.1 109 0).toInt = 1 ∧ ¬ (0 ≤ x.toInt ∧ x.toInt < (gvZ s).2.2.2.2.2.2.1)) ∨ ((t.2.2.1 109 0).toInt = 0 ∧ (0 ≤ x.toInt ∧ x.toInt < (gvZ s).2.2.2.2.2.2.1) ∧ COL (gvZ s) x.toNatClampNeg z.toInt)
