/-! WHICH NODE REACHES WHICH -/
theorem low_min {x : Int32} {k j : Nat} (h : lowB x k) (hk : k < 32) (hj : bt x j = true) : k ≤ j := by
  refine Classical.byContradiction fun c => ?_
  have e : (x &&& -x).toBitVec.getLsbD k = (Int32.ofBitVec (BitVec.twoPow 32 k)).toBitVec.getLsbD k := by
    unfold lowB at h
    rw [h]
  rw [show (x &&& -x).toBitVec = x.toBitVec &&& -x.toBitVec from rfl, show (Int32.ofBitVec (BitVec.twoPow 32 k)).toBitVec = BitVec.twoPow 32 k from rfl, BitVec.getLsbD_and, BitVec.getLsbD_neg, BitVec.getLsbD_twoPow] at e
  have hex : ∃ i, i < k ∧ x.toBitVec.getLsbD i = true := ⟨j, by omega, hj⟩
  cases hx : x.toBitVec.getLsbD k <;> simp [hx, hex, hk] at e
theorem cbf_or {f g h : Nat → Bool} : ∀ n, (∀ k, k < n → h k = (f k || g k)) → (∀ k, k < n → f k = true → g k = false) → cbf h n = cbf f n + cbf g n
  | 0, _, _ => rfl
  | n + 1, h1, h2 => by
    have i := cbf_or n (fun k hk => h1 k (by omega)) (fun k hk => h2 k (by omega))
    show cbf h n + (h n).toNat = cbf f n + (f n).toNat + (cbf g n + (g n).toNat)
    have a := h1 n (by omega)
    have b := h2 n (by omega)
    rw [i, a]
    cases ef : f n
    · show _ + (g n).toNat = _ + 0 + _
      omega
    · rw [b ef]
      show _ + 1 = _ + 1 + (_ + 0)
      omega
theorem cb_or {x y z : Int32} (e : z = x ||| y) (h : ∀ k, bt x k = true → bt y k = false) : cb z = cb x + cb y := cbf_or 32 (fun k _ => bt_or e) (fun k _ => h k)
theorem cb_pos {x : Int32} {k : Nat} (h : bt x k = true) : 1 ≤ cb x := by
  have q := cbf_clr (f := bt x) (g := fun j => bt x j && !(decide (j = k))) (u := k) h (by show (bt x k && !(decide (k = k))) = false; simp) (n := 32) (bt_lt h) (fun j _ hne => by show (bt x j && !(decide (j = k))) = _; simp [hne])
  unfold cb
  omega
def FEQ (r : Nat → Int32) (al : Int32) (u w : Nat) : Prop := u < 32 ∧ bt (r u) w = true ∧ bt al w = true
/-- what is reached from the seed -/
def FLD (r : Nat → Int32) (seed al z : Int32) : Prop := ∀ w : Nat, bt z w = true ↔ ∃ x : Nat, bt seed x = true ∧ wlq (FEQ r al) x w
def FLI (r : Nat → Int32) (seed al seen todo : Int32) (i : Int) : Prop := (∀ w : Nat, bt seen w = true → ∃ x : Nat, bt seed x = true ∧ wlq (FEQ r al) x w) ∧ (∀ w : Nat, bt seed w = true → bt seen w = true) ∧ (∀ w : Nat, bt todo w = true → bt seen w = true) ∧ (∀ u w : Nat, bt seen u = true → bt todo u = false → FEQ r al u w → bt seen w = true) ∧ (cb seen : Int) = i + (cb todo : Int)
theorem fli_0 {r : Nat → Int32} {seed al : Int32} {i : Int} (hi : i = 0) : FLI r seed al seed seed i := ⟨fun w h => ⟨w, h, wl_0⟩, fun _ h => h, fun _ h => h, fun u w h1 h2 _ => (by rw [h1] at h2; cases h2), by rw [hi]; omega⟩
theorem fli_s {r : Nat → Int32} {seed al seen todo k z26 z28 z31 z32 z40 z41 z48 z54 : Int32} {i j : Int} (h : FLI r seed al seen todo i) (ik : In k 0 31) (hb : bt todo k.toNatClampNeg = true) (hl : lowB todo k.toNatClampNeg) (e26 : z26 = r k.toNatClampNeg) (e28 : z28 = z26 &&& al) (e31 : z31 = seen ^^^ Int32.ofInt (-1)) (e32 : z32 = z28 &&& z31) (e40 : z40 = todo - Int32.ofInt 1) (e41 : z41 = todo &&& z40) (e48 : z48 = z41 ||| z32) (e54 : z54 = seen ||| z32) (hj : j = i + 1) : FLI r seed al z54 z48 j := by
  obtain ⟨h1, h2, h3, h4, h5⟩ := h
  have k31 : k.toNatClampNeg < 32 := by
    show k.toInt.toNat < 32
    have := ik.2
    omega
  have c41 : ∀ j, bt z41 j = (bt todo j && !(decide (j = k.toNatClampNeg))) := fun j => lowB_clr hl e40 e41
  have a32 : ∀ w, bt z32 w = true → bt seen w = false := fun w q => bt_andn e31 e32 q
  have f32 : ∀ w, bt z32 w = true → FEQ r al k.toNatClampNeg w := fun w q => by
    have q1 := bt_and1 e32 q
    have q2 := bt_and1 e28 q1
    rw [e26] at q2
    exact ⟨k31, q2, bt_and2 e28 q1⟩
  have s54 : ∀ w, bt z54 w = true → bt seen w = true ∨ bt z32 w = true := fun w q => by
    rw [bt_or e54] at q
    exact (Bool.or_eq_true _ _).mp q
  refine ⟨fun w q => ?_, fun w q => bt_orl e54 (h2 w q), fun w q => ?_, fun u w q1 q2 q3 => ?_, ?_⟩
  · rcases s54 w q with q | q
    · exact h1 w q
    · obtain ⟨x, hx, hw⟩ := h1 _ (h3 _ hb)
      exact ⟨x, hx, wl_tr hw (wl_1 (f32 w q))⟩
  · rw [bt_or e48] at q
    rcases (Bool.or_eq_true _ _).mp q with q | q
    · rw [c41 w] at q
      exact bt_orl e54 (h3 w ((Bool.and_eq_true _ _).mp q).1)
    · exact bt_orr e54 q
  · rw [bt_or e48] at q2
    obtain ⟨q4, q5⟩ := (Bool.or_eq_false_iff).mp q2
    have q6 : bt seen u = true := by
      rcases s54 u q1 with q | q
      · exact q
      · rw [q5] at q; cases q
    by_cases c : bt todo u = true
    · have eu : u = k.toNatClampNeg := by
        refine Classical.byContradiction fun hne => ?_
        rw [c41 u, c] at q4
        simp [hne] at q4
      rw [eu] at q3
      cases hs : bt seen w with
      | true => exact bt_orl e54 hs
      | false =>
        refine bt_orr e54 ?_
        have hw : w < 32 := bt_lt q3.2.1
        rw [bt_and e32, bt_and e28, e26, q3.2.1, q3.2.2, bt_not e31 hw, hs]
        rfl
    · have c2 : bt todo u = false := by
        cases e : bt todo u with
        | true => exact absurd e c
        | false => rfl
      exact bt_orl e54 (h4 u w q6 c2 q3)
  · have n1 := cb_or e54 (fun w q => by
      cases e : bt z32 w with
      | true => rw [a32 w e] at q; cases q
      | false => rfl)
    have n2 := cb_or e48 (fun w q => by
      cases e : bt z32 w with
      | true =>
        rw [c41 w] at q
        have q7 := h3 w ((Bool.and_eq_true _ _).mp q).1
        rw [a32 w e] at q7; cases q7
      | false => rfl)
    have n3 : cb z41 + 1 = cb todo := cbf_clr hb (by rw [c41]; simp) k31 (fun j _ hne => by rw [c41]; simp [hne])
    omega
theorem fli_e {r : Nat → Int32} {seed al seen todo : Int32} {i : Int} (h : FLI r seed al seen todo i) (ht : todo.toInt = 0 ∨ 32 ≤ i) : FLD r seed al seen := by
  obtain ⟨h1, h2, h3, h4, h5⟩ := h
  have c32 := cb_le seen
  have tz : ∀ u, bt todo u = false := fun u => by
    cases e : bt todo u with
    | false => rfl
    | true =>
      exfalso
      have p := cb_pos e
      rcases ht with q | q
      · exact bt_nz e q
      · omega
  have go : ∀ (j x w : Nat), bt seen x = true → wkq (FEQ r al) j x w → bt seen w = true := by
    intro j
    induction j with
    | zero => intro x w hx hw; rw [← (show x = w from hw)]; exact hx
    | succ j ih =>
      intro x w hx hw
      obtain ⟨y, hy, hw⟩ := hw
      exact ih y w (h4 x y hx (tz x) hy) hw
  intro w
  refine ⟨h1 w, fun ⟨x, hx, j, hj⟩ => go j x w (h2 x hx) hj⟩
theorem fld_1 {r : Nat → Int32} {seed al z v : Int32} (h : FLD r seed al z) (e : seed = Int32.ofInt 1 <<< (v &&& 31)) (hv : In v 0 31) (w : Nat) : bt z w = true ↔ wlq (FEQ r al) v.toNatClampNeg w := by
  rw [h w]
  constructor
  · rintro ⟨x, hx, hw⟩
    rw [bt_one e hv] at hx
    rw [← of_decide_eq_true hx]
    exact hw
  · intro hw
    exact ⟨_, by rw [bt_one e hv]; exact decide_eq_true rfl, hw⟩
/-! arcs as they are seen -/
def AJG (g : GVW) (u w : Nat) : Prop := ∃ p : Nat, p < 160 ∧ ARE g 0 p = (u : Int) ∧ ARE g 1 p = (w : Int)
def PE (g : GVW) (w : Int) (a b : Nat) : Prop := AJG g a b ∨ (w ≠ 0 ∧ AJG g b a)
theorem ajg_e {g h : GVW} (q : GEW g h) : AJG g = AJG h := by
  funext u w
  refine propext ⟨fun ⟨p, a, b, c⟩ => ⟨p, a, by rw [← are_e q a]; exact b, by rw [← are_e q a]; exact c⟩, fun ⟨p, a, b, c⟩ => ⟨p, a, by rw [are_e q a]; exact b, by rw [are_e q a]; exact c⟩⟩
theorem wl_mono {E F : Nat → Nat → Prop} (h : ∀ u w, E u w → F u w) {u w : Nat} (q : wlq E u w) : wlq F u w := by
  obtain ⟨j, hj⟩ := q
  refine ⟨j, ?_⟩
  revert u
  induction j with
  | zero => intro u hj; exact hj
  | succ j ih =>
    intro u hj
    obtain ⟨x, hx, hw⟩ := hj
    exact ⟨x, h u x hx, ih hw⟩
theorem wl_rev {E : Nat → Nat → Prop} {u w : Nat} (q : wlq E u w) : wlq (fun a b => E b a) w u := by
  obtain ⟨j, hj⟩ := q
  revert u
  induction j with
  | zero => intro u hj; rw [show u = w from hj]; exact wl_0
  | succ j ih =>
    intro u hj
    obtain ⟨x, hx, hw⟩ := hj
    exact wl_tr (ih hw) (wl_1 (E := fun a b => E b a) hx)
theorem wl_loop {E : Nat → Nat → Prop} {u w : Nat} (q : wlq E u w) : wlq (fun a b => a ≠ b ∧ E a b) u w := by
  obtain ⟨j, hj⟩ := q
  revert u
  induction j with
  | zero => intro u hj; rw [show u = w from hj]; exact wl_0
  | succ j ih =>
    intro u hj
    obtain ⟨x, hx, hw⟩ := hj
    by_cases c : u = x
    · rw [c]; exact ih hw
    · exact wl_tr (wl_1 (E := fun a b => a ≠ b ∧ E a b) ⟨c, hx⟩) (ih hw)
theorem wl_iff {E F : Nat → Nat → Prop} (h : ∀ u w, E u w ↔ F u w) {u w : Nat} : wlq E u w ↔ wlq F u w := ⟨wl_mono (fun a b => (h a b).mp), wl_mono (fun a b => (h a b).mpr)⟩
theorem fe_all {fr tt ne ou nn : Nat → Int32} {T : Nat} {g : GVW} (hM : MSK fr tt ne ou nn T) (hT : T ≤ 160) (hg0 : ∀ p, ARE g 0 p = gF fr p) (hg1 : ∀ p, ARE g 1 p = gG fr tt p) (hq : ∀ p, T ≤ p → p < 160 → gF fr p = -1) (hr : ∀ p, p < 160 → (fr p).toInt ≤ 31 ∧ (tt p).toInt ≤ 31) : (∀ u w, FEQ ou (Int32.ofInt (-1)) u w ↔ AJG g u w) ∧ (∀ u w, FEQ nn (Int32.ofInt (-1)) u w ↔ AJG g w u) ∧ ∀ u w, FEQ ne (Int32.ofInt (-1)) u w ↔ (u ≠ w ∧ PE g 1 u w) := by
  have aj : ∀ u w, AJ fr tt T u w ↔ AJG g u w := fun u w => by
    constructor
    · rintro ⟨p, a, b, c⟩
      exact ⟨p, by omega, by rw [hg0]; exact b, by rw [hg1]; exact c⟩
    · rintro ⟨p, a, b, c⟩
      rw [hg0] at b
      rw [hg1] at c
      refine ⟨p, Classical.byContradiction fun z => ?_, b, c⟩
      have := hq p (by omega) a
      omega
  have lt : ∀ u w, AJG g u w → u < 32 ∧ w < 32 := fun u w => by
    rintro ⟨p, a, b, c⟩
    rw [hg0] at b
    rw [hg1] at c
    obtain ⟨r1, r2⟩ := hr p a
    unfold gF at b
    rw [if_pos a] at b
    unfold gG at c
    split at c
    · omega
    · omega
  refine ⟨fun u w => ⟨fun h => ?_, fun h => ?_⟩, fun u w => ⟨fun h => ?_, fun h => ?_⟩, fun u w => ⟨fun h => ?_, fun h => ?_⟩⟩
  · exact (aj u w).mp ((hM u w h.1 (bt_lt h.2.1)).1.mp h.2.1)
  · obtain ⟨a, b⟩ := lt u w h
    exact ⟨a, (hM u w a b).1.mpr ((aj u w).mpr h), bt_m1 b⟩
  · exact (aj w u).mp ((hM w u (bt_lt h.2.1) h.1).2.1.mp h.2.1)
  · obtain ⟨a, b⟩ := lt w u h
    exact ⟨b, (hM w u a b).2.1.mpr ((aj w u).mpr h), bt_m1 a⟩
  · obtain ⟨a, b⟩ := (hM u w h.1 (bt_lt h.2.1)).2.2.mp h.2.1
    exact ⟨a, b.elim (fun q => Or.inl ((aj u w).mp q)) (fun q => Or.inr ⟨by decide, (aj w u).mp q⟩)⟩
  · have ab : u < 32 ∧ w < 32 := by
      rcases h.2 with q | q
      · exact lt u w q
      · exact ⟨(lt w u q.2).2, (lt w u q.2).1⟩
    refine ⟨ab.1, (hM u w ab.1 ab.2).2.2.mpr ⟨h.1, ?_⟩, bt_m1 ab.2⟩
    exact h.2.elim (fun q => Or.inl ((aj u w).mpr q)) (fun q => Or.inr ((aj w u).mpr q.2))
/-! parts -/
def PEQ (g : GVW) (w : Int) (v j : Nat) : Prop := wlq (PE g w) v j ∧ wlq (PE g w) j v
/-- the least node of v's part -/
def PSP (g : GVW) (w : Int) (v : Nat) (z : Int) : Prop := ∃ j : Nat, z = (j : Int) ∧ PEQ g w v j ∧ ∀ i : Nat, i < j → ¬ PEQ g w v i
theorem psp_u {g h : GVW} (q : GEW g h) {w : Int} {v : Nat} {y z : Int} (h1 : PSP g w v y) (h2 : PSP h w v z) : y = z := by
  have e : PE h w = PE g w := by
    funext a b
    unfold PE
    rw [ajg_e q]
  obtain ⟨j, a1, a2, a3⟩ := h1
  obtain ⟨k, b1, b2, b3⟩ := h2
  unfold PEQ at a2 a3 b2 b3
  rw [e] at b2 b3
  rcases Nat.lt_trichotomy j k with c | c | c
  · exact absurd a2 (b3 j c)
  · omega
  · exact absurd b2 (a3 k c)
theorem pe_sym {g : GVW} {u w : Nat} (h : wlq (PE g 1) u w) : wlq (PE g 1) w u := wl_mono (fun a b q => by
  rcases q with q | q
  · exact Or.inr ⟨by decide, q⟩
  · exact Or.inl q.2) (wl_rev h)
theorem pex_0 {g : GVW} : ∀ u w, AJG g u w ↔ PE g 0 u w := fun u w => ⟨Or.inl, fun h => h.elim id (fun q => absurd rfl q.1)⟩
theorem psp_low {g : GVW} {w : Int} {v : Nat} {x z : Int32} (hx : ∀ j : Nat, bt x j = true ↔ PEQ g w v j) (hl : x.toInt ≠ 0 → In z 0 31 ∧ bt x z.toNatClampNeg = true ∧ lowB x z.toNatClampNeg) : PSP g w v z.toInt := by
  have hv : bt x v = true := (hx v).mpr ⟨wl_0, wl_0⟩
  obtain ⟨i, b, l⟩ := hl (bt_nz hv)
  have ez : (z.toNatClampNeg : Int) = z.toInt := by
    show ((z.toInt.toNat : Nat) : Int) = _
    have := i.1
    omega
  refine ⟨z.toNatClampNeg, ez.symm, (hx _).mp b, fun j hj q => ?_⟩
  have := low_min l (by have := i.2; omega) ((hx j).mpr q)
  omega
theorem fe_2 {s t : GS} {L : FM} (hI : Inv t) (hF : Fr L s t) (q4 : qI L.1 4 = true) (q5 : qI L.1 5 = true) (q3 : qF L.2.2.1 2 3 = true) (hv : (t.2.2.1 2 4).toInt = (t.2.2.1 2 0).toInt) (hq : TQ s) : (∀ u w, FEQ (t.1 10) (Int32.ofInt (-1)) u w ↔ AJG (gvC s) u w) ∧ (∀ u w, FEQ (t.1 11) (Int32.ofInt (-1)) u w ↔ AJG (gvC s) w u) ∧ ∀ u w, FEQ (t.1 9) (Int32.ofInt (-1)) u w ↔ (u ≠ w ∧ PE (gvC s) 1 u w) := by
  have h := (tg_2 hI hv).2.2.2
  rw [hF.1 4 q4, hF.1 5 q5, hF.2.2.1 2 3 q3] at h
  have i3 : In (s.2.2.1 2 3) 0 160 := by rw [← hF.2.2.1 2 3 q3]; exact inv_F hI 0 160 rfl rfl
  have i30 := i3.1
  have i31 := i3.2
  refine fe_all h (by omega) (fun p => if_pos rfl) (fun p => if_neg (by decide)) (gf_top (fun p hp hn => by have := hq p hp hn; omega)) (fun p hp => ?_)
  have a := hI.1.1 4 p (Nat.lt_of_lt_of_le hp (Nat.le_of_ble_eq_true rfl))
  have c := hI.1.1 5 p (Nat.lt_of_lt_of_le hp (Nat.le_of_ble_eq_true rfl))
  rw [hF.1 4 q4] at a
  rw [hF.1 5 q5] at c
  exact ⟨a.2, c.2⟩
theorem psw_2 {s t : GS} {L : FM} (hI : Inv t) (hF : Fr L s t) (q4 : qI L.1 4 = true) (q5 : qI L.1 5 = true) (q3 : qF L.2.2.1 2 3 = true) (hv : (t.2.2.1 2 4).toInt = (t.2.2.1 2 0).toInt) (hq : TQ s) {x y f z : Int32} (i1 : In x 0 31) (e1 : y = Int32.ofInt 1 <<< (x &&& 31)) (hf : FLD (t.1 9) y (Int32.ofInt (-1)) f) (hl : f.toInt ≠ 0 → In z 0 31 ∧ bt f z.toNatClampNeg = true ∧ lowB f z.toNatClampNeg) : PSP (gvC s) 1 x.toNatClampNeg z.toInt := by
  have h := (fe_2 hI hF q4 q5 q3 hv hq).2.2
  refine psp_low (fun j => ?_) hl
  rw [fld_1 hf e1 i1 j, wl_iff h]
  constructor
  · intro q
    have q2 := wl_mono (F := PE (gvC s) 1) (fun a b q => q.2) q
    exact ⟨q2, pe_sym q2⟩
  · intro q
    exact wl_loop q.1
theorem pss_2 {s t : GS} {L : FM} (hI : Inv t) (hF : Fr L s t) (q4 : qI L.1 4 = true) (q5 : qI L.1 5 = true) (q3 : qF L.2.2.1 2 3 = true) (hv : (t.2.2.1 2 4).toInt = (t.2.2.1 2 0).toInt) (hq : TQ s) {x y y2 f f2 f3 z : Int32} (i1 : In x 0 31) (e1 : y = Int32.ofInt 1 <<< (x &&& 31)) (hf : FLD (t.1 10) y (Int32.ofInt (-1)) f) (e2 : y2 = Int32.ofInt 1 <<< (x &&& 31)) (hg : FLD (t.1 11) y2 (Int32.ofInt (-1)) f2) (e3 : f3 = f &&& f2) (hl : f3.toInt ≠ 0 → In z 0 31 ∧ bt f3 z.toNatClampNeg = true ∧ lowB f3 z.toNatClampNeg) : PSP (gvC s) 0 x.toNatClampNeg z.toInt := by
  obtain ⟨h1, h2, -⟩ := fe_2 hI hF q4 q5 q3 hv hq
  refine psp_low (fun j => ?_) hl
  rw [bt_and e3, Bool.and_eq_true, fld_1 hf e1 i1 j, fld_1 hg e2 i1 j, wl_iff h1, wl_iff h2]
  unfold PEQ
  rw [← wl_iff pex_0, ← wl_iff pex_0]
  exact ⟨fun q => ⟨q.1, wl_rev q.2⟩, fun q => ⟨q.1, wl_rev q.2⟩⟩
theorem fe_32 {s t : GS} {L : FM} (hI : Inv t) (hF : Fr L s t) (q4 : qI L.1 34 = true) (q5 : qI L.1 35 = true) (q3 : qF L.2.2.1 32 3 = true) (hv : (t.2.2.1 32 4).toInt = (t.2.2.1 32 0).toInt) (hq : TQD s) : (∀ u w, FEQ (t.1 40) (Int32.ofInt (-1)) u w ↔ AJG (gvD s) u w) ∧ (∀ u w, FEQ (t.1 41) (Int32.ofInt (-1)) u w ↔ AJG (gvD s) w u) ∧ ∀ u w, FEQ (t.1 39) (Int32.ofInt (-1)) u w ↔ (u ≠ w ∧ PE (gvD s) 1 u w) := by
  have h := (tg_32 hI hv).2.2.2
  rw [hF.1 34 q4, hF.1 35 q5, hF.2.2.1 32 3 q3] at h
  have i3 : In (s.2.2.1 32 3) 0 160 := by rw [← hF.2.2.1 32 3 q3]; exact inv_F hI 0 160 rfl rfl
  have i30 := i3.1
  have i31 := i3.2
  refine fe_all h (by omega) (fun p => if_pos rfl) (fun p => if_neg (by decide)) (gf_top (fun p hp hn => by have := hq p hp hn; omega)) (fun p hp => ?_)
  have a := hI.1.1 34 p (Nat.lt_of_lt_of_le hp (Nat.le_of_ble_eq_true rfl))
  have c := hI.1.1 35 p (Nat.lt_of_lt_of_le hp (Nat.le_of_ble_eq_true rfl))
  rw [hF.1 34 q4] at a
  rw [hF.1 35 q5] at c
  exact ⟨a.2, c.2⟩
theorem psw_32 {s t : GS} {L : FM} (hI : Inv t) (hF : Fr L s t) (q4 : qI L.1 34 = true) (q5 : qI L.1 35 = true) (q3 : qF L.2.2.1 32 3 = true) (hv : (t.2.2.1 32 4).toInt = (t.2.2.1 32 0).toInt) (hq : TQD s) {x y f z : Int32} (i1 : In x 0 31) (e1 : y = Int32.ofInt 1 <<< (x &&& 31)) (hf : FLD (t.1 39) y (Int32.ofInt (-1)) f) (hl : f.toInt ≠ 0 → In z 0 31 ∧ bt f z.toNatClampNeg = true ∧ lowB f z.toNatClampNeg) : PSP (gvD s) 1 x.toNatClampNeg z.toInt := by
  have h := (fe_32 hI hF q4 q5 q3 hv hq).2.2
  refine psp_low (fun j => ?_) hl
  rw [fld_1 hf e1 i1 j, wl_iff h]
  constructor
  · intro q
    have q2 := wl_mono (F := PE (gvD s) 1) (fun a b q => q.2) q
    exact ⟨q2, pe_sym q2⟩
  · intro q
    exact wl_loop q.1
theorem pss_32 {s t : GS} {L : FM} (hI : Inv t) (hF : Fr L s t) (q4 : qI L.1 34 = true) (q5 : qI L.1 35 = true) (q3 : qF L.2.2.1 32 3 = true) (hv : (t.2.2.1 32 4).toInt = (t.2.2.1 32 0).toInt) (hq : TQD s) {x y y2 f f2 f3 z : Int32} (i1 : In x 0 31) (e1 : y = Int32.ofInt 1 <<< (x &&& 31)) (hf : FLD (t.1 40) y (Int32.ofInt (-1)) f) (e2 : y2 = Int32.ofInt 1 <<< (x &&& 31)) (hg : FLD (t.1 41) y2 (Int32.ofInt (-1)) f2) (e3 : f3 = f &&& f2) (hl : f3.toInt ≠ 0 → In z 0 31 ∧ bt f3 z.toNatClampNeg = true ∧ lowB f3 z.toNatClampNeg) : PSP (gvD s) 0 x.toNatClampNeg z.toInt := by
  obtain ⟨h1, h2, -⟩ := fe_32 hI hF q4 q5 q3 hv hq
  refine psp_low (fun j => ?_) hl
  rw [bt_and e3, Bool.and_eq_true, fld_1 hf e1 i1 j, fld_1 hg e2 i1 j, wl_iff h1, wl_iff h2]
  unfold PEQ
  rw [← wl_iff pex_0, ← wl_iff pex_0]
  exact ⟨fun q => ⟨q.1, wl_rev q.2⟩, fun q => ⟨q.1, wl_rev q.2⟩⟩
/-! close (reference) -/
def CLA (s : GS) (x n : Int) (a : Nat) : Prop := (s.1 112 (bs s + a)).toInt ≠ 0 ∧ (a : Int) ≠ x ∧ (s.1 113 (bs s + a)).toInt ≠ n ∧ (s.1 114 (bs s + a)).toInt ≠ n
def CLE (s : GS) (w x n : Int) (u v : Nat) : Prop := ∃ a : Nat, a < 160 ∧ CLA s x n a ∧ (((s.1 113 (bs s + a)).toNatClampNeg = u ∧ (s.1 114 (bs s + a)).toNatClampNeg = v) ∨ (w ≠ 0 ∧ (s.1 114 (bs s + a)).toNatClampNeg = u ∧ (s.1 113 (bs s + a)).toNatClampNeg = v))
def CQ1 (s : GS) (w x n : Int) (f : Nat → Int32) (k : Nat) : Prop := (∀ u v : Nat, (u : Int) < nmx s → bt (f u) v = true → wlq (CLE s w x n) u v) ∧ ∀ a, a < k → CLA s x n a → bt (f (s.1 113 (bs s + a)).toNatClampNeg) (s.1 114 (bs s + a)).toNatClampNeg = true ∧ (w ≠ 0 → bt (f (s.1 114 (bs s + a)).toNatClampNeg) (s.1 113 (bs s + a)).toNatClampNeg = true)
section CLO
variable {s : GS} {w x n : Int} {f f0 : Nat → Int32} {k m : Nat}
theorem cq1_0 (h : ∀ u v : Nat, (u : Int) < nmx s → bt (f u) v = true → u = v) : CQ1 s w x n f 0 := ⟨fun u v hu hb => by rw [h u v hu hb]; exact wl_0, fun a ha => absurd ha (Nat.not_lt_zero _)⟩
theorem cq1_no (h : CQ1 s w x n f k) (hn : ¬ CLA s x n k) : CQ1 s w x n f (k + 1) := by
  refine ⟨h.1, fun a ha hc => ?_⟩
  by_cases c : a = k
  · rw [c] at hc; exact absurd hc hn
  · exact h.2 a (by omega) hc
theorem cq_row {u v : Nat} {z2 z3 : Int32} {W : Prop} (h2 : ∀ j, bt z2 j = true ↔ (bt (f u) j = true ∨ j = v)) (h3 : ∀ j, bt z3 j = true ↔ (bt (upd f u z2 v) j = true ∨ (W ∧ j = u))) : ∀ y j, bt (upd (upd f u z2) v z3 y) j = true ↔ (bt (f y) j = true ∨ (y = u ∧ j = v) ∨ (W ∧ y = v ∧ j = u)) := by
  intro y j
  have q : bt (upd f u z2 y) j = true ↔ (bt (f y) j = true ∨ (y = u ∧ j = v)) := by
    by_cases c : y = u
    · rw [c, up_e, h2]
      exact ⟨fun h => h.imp id (fun e => ⟨rfl, e⟩), fun h => h.imp id (fun e => e.2)⟩
    · rw [up_n c]
      exact ⟨Or.inl, fun h => h.elim id (fun e => absurd e.1 c)⟩
  by_cases c : y = v
  · rw [c] at q ⊢
    rw [up_e, h3, q]
    constructor
    · rintro ((h | h) | h)
      · exact Or.inl h
      · exact Or.inr (Or.inl h)
      · exact Or.inr (Or.inr ⟨h.1, rfl, h.2⟩)
    · rintro (h | h | h)
      · exact Or.inl (Or.inl h)
      · exact Or.inl (Or.inr h)
      · exact Or.inr ⟨h.1, h.2.2⟩
  · rw [up_n c, q]
    constructor
    · rintro (h | h)
      · exact Or.inl h
      · exact Or.inr (Or.inl h)
    · rintro (h | h | h)
      · exact Or.inl h
      · exact Or.inr h
      · exact absurd h.2.1 c
theorem cq1_st {u v z1 x1 z2 x2 z3 y3 : Int32} (h : CQ1 s w x n f k) (hk : k < 160) (ha : CLA s x n k) (hu : u = s.1 113 (bs s + k)) (hv : v = s.1 114 (bs s + k)) (hvr : In v 0 31) (e0 : x1 = f u.toNatClampNeg) (e1 : z1 = Int32.ofInt 1 <<< (v &&& 31)) (e2 : z2 = x1 ||| z1) (e3 : x2 = upd f u.toNatClampNeg z2 v.toNatClampNeg) (e4 : z3 = x2 ||| y3) (hy : ∀ j, bt y3 j = true ↔ (w ≠ 0 ∧ j = u.toNatClampNeg)) : CQ1 s w x n (upd (upd f u.toNatClampNeg z2) v.toNatClampNeg z3) (k + 1) := by
  have row := cq_row (f := f) (u := u.toNatClampNeg) (v := v.toNatClampNeg) (z2 := z2) (z3 := z3) (W := w ≠ 0) (fun j => by rw [bt_set e1 e2 hvr, Bool.or_eq_true, decide_eq_true_iff, e0]) (fun j => by rw [bt_or e4, Bool.or_eq_true, hy j, e3])
  refine ⟨fun y j hy0 hb => ?_, fun a hlt hc => ?_⟩
  · rcases (row y j).mp hb with q | ⟨q1, q2⟩ | ⟨q0, q1, q2⟩
    · exact h.1 y j hy0 q
    · rw [q1, q2]
      exact wl_1 ⟨k, hk, ha, Or.inl ⟨by rw [hu], by rw [hv]⟩⟩
    · rw [q1, q2]
      exact wl_1 ⟨k, hk, ha, Or.inr ⟨q0, by rw [hv], by rw [hu]⟩⟩
  · by_cases c : a = k
    · rw [c, ← hu, ← hv]
      exact ⟨(row _ _).mpr (Or.inr (Or.inl ⟨rfl, rfl⟩)), fun hw => (row _ _).mpr (Or.inr (Or.inr ⟨hw, rfl, rfl⟩))⟩
    · obtain ⟨p1, p2⟩ := h.2 a (by omega) hc
      exact ⟨(row _ _).mpr (Or.inl p1), fun hw => (row _ _).mpr (Or.inl (p2 hw))⟩
def CQ2 (s : GS) (w x n : Int) (f : Nat → Int32) (m : Nat) : Prop := CQ1 s w x n f 160 ∧ ∀ v u j : Nat, v < m → (u : Int) < nmx s → bt (f u) v = true → bt (f v) j = true → bt (f u) j = true
theorem cq2_s {c : Int} (hI : Inv s) (h : CQ2 s w x n f0 m) (h3 : RQ3 (nmx s) f0 f m c) (hc : nmx s ≤ c) (hm : (m : Int) < nmx s) : CQ2 s w x n f (m + 1) := by
  obtain ⟨⟨h1, h2⟩, ht⟩ := h
  have up : ∀ u j : Nat, (u : Int) < nmx s → bt (f0 u) j = true → bt (f u) j = true := fun u j hu hb => (h3 u j hu).mpr (Or.inl hb)
  refine ⟨⟨fun u j hu hb => ?_, fun a ha hth => ?_⟩, fun v u j hv hu b1 b2 => ?_⟩
  · rcases (h3 u j hu).mp hb with q | ⟨-, q1, q2⟩
    · exact h1 u j hu q
    · exact wl_tr (h1 u m hu q1) (h1 m j hm q2)
  · have hn := arc_n hI ha hth.1
    obtain ⟨p1, p2⟩ := h2 a ha hth
    exact ⟨up _ _ (nat_jn hn.1.1 hn.1.2).2 p1, fun hw => up _ _ (nat_jn hn.2.1.1 hn.2.1.2).2 (p2 hw)⟩
  · have hvn : (v : Int) < nmx s := by omega
    have p1 := (h3 u v hu).mp b1
    have p2 := (h3 v j hvn).mp b2
    refine (h3 u j hu).mpr ?_
    by_cases k : v = m
    · rw [k] at p1 p2
      have q1 : bt (f0 u) m = true := by
        rcases p1 with q | ⟨-, q, -⟩
        · exact q
        · exact q
      have q2 : bt (f0 m) j = true := by
        rcases p2 with q | ⟨-, -, q⟩
        · exact q
        · exact q
      exact Or.inr ⟨by omega, q1, q2⟩
    · have hvm : v < m := by omega
      rcases p1 with q | ⟨q0, q1, q2⟩ <;> rcases p2 with r | ⟨r0, r1, r2⟩
      · exact Or.inl (ht v u j hvm hu q r)
      · exact Or.inr ⟨by omega, ht v u m hvm hu q r1, r2⟩
      · exact Or.inr ⟨by omega, q1, ht v m j hvm hm q2 r⟩
      · exact Or.inr ⟨by omega, q1, r2⟩
end CLO
/-- what close leaves: who reaches whom -/
def CCQ (s : GS) (w x n : Int) (f : Nat → Int32) : Prop := ∀ u v : Nat, (u : Int) < nmx s → (u : Int) ≠ n → (bt (f u) v = true ↔ wlq (CLE s w x n) u v)
theorem ccq_e {s : GS} {w x n : Int} {f : Nat → Int32} {m : Nat} (hI : Inv s) (h : CQ2 s w x n f m) (hm : nmx s ≤ (m : Int)) (hs : ∀ j : Nat, ((j : Int) < nmx s ∧ (j : Int) ≠ n) → bt (f j) j = true) : CCQ s w x n f := by
  intro u v hu hn
  refine ⟨h.1.1 u v hu, fun ⟨j, hj⟩ => ?_⟩
  have hm2 : (s.2.2.1 109 20).toInt ≤ (m : Int) := hm
  have go : ∀ (j y v : Nat), bt (f u) y = true → wkq (CLE s w x n) j y v → bt (f u) v = true := by
    intro j
    induction j with
    | zero => intro y v hy hw; rw [← (show y = v from hw)]; exact hy
    | succ j ih =>
      intro y v hy hw
      obtain ⟨z, ⟨a, ha, hc, he⟩, hw⟩ := hw
      have hn := arc_n hI ha hc.1
      have b := h.1.2 a ha hc
      refine ih z v ?_ hw
      rcases he with ⟨e1, e2⟩ | ⟨e0, e1, e2⟩
      · have b1 := b.1
        rw [e1, e2] at b1
        have hy2 := (nat_jn hn.1.1 hn.1.2).2
        rw [e1] at hy2
        exact h.2 y u z (by omega) hu hy b1
      · have b1 := b.2 e0
        rw [e1, e2] at b1
        have hy2 := (nat_jn hn.2.1.1 hn.2.1.2).2
        rw [e1] at hy2
        exact h.2 y u z (by omega) hu hy b1
  exact go j u v (hs u ⟨hu, hn⟩) hj
theorem ccq_cg {s t : GS} {w x n : Int} {f : Nat → Int32} (h : CCQ s w x n f) (h2 : t.1 112 = s.1 112) (h3 : t.1 113 = s.1 113) (h4 : t.1 114 = s.1 114) (h7 : t.2.2.1 109 19 = s.2.2.1 109 19) (h8 : t.2.2.1 109 20 = s.2.2.1 109 20) : CCQ t w x n f := by
  have e : CLE t w x n = CLE s w x n := by
    funext u v
    unfold CLE CLA bs
    rw [h2, h3, h4, h7]
  have en : nmx t = nmx s := by unfold nmx; rw [h8]
  unfold CCQ
  rw [e, en]
  exact h
abbrev gvZ (s : GS) : GVW := gvG s (s.2.2.1 109 18).toNatClampNeg
theorem cle_pe {s : GS} (hI : Inv s) {w : Int} : ∀ u v, CLE s w (-1) (-1) u v ↔ PE (gvZ s) w u v := by
  have k2 : (s.2.2.1 109 19).toInt = 160 * (s.2.2.1 109 18).toInt := hI.2.2.2.2.2.2.2.2.2.1
  have i18 := inv_F hI (z := s.2.2.1 109 18) 0 1 rfl rfl
  have eb : bs s = 160 * (s.2.2.1 109 18).toNatClampNeg := by
    show (s.2.2.1 109 19).toInt.toNat = 160 * (s.2.2.1 109 18).toInt.toNat
    have := i18.1
    omega
  have l18 : (s.2.2.1 109 18).toNatClampNeg ≤ 1 := by
    show (s.2.2.1 109 18).toInt.toNat ≤ 1
    have := i18.2
    omega
  have rg : ∀ a, a < 160 → In (s.1 113 (bs s + a)) 0 31 ∧ In (s.1 114 (bs s + a)) 0 31 := fun a ha => by
    have hl : bs s + a < 480 := by rw [eb]; omega
    exact ⟨hI.1.1 113 _ (Nat.lt_of_lt_of_le hl (Nat.le_of_ble_eq_true rfl)), hI.1.1 114 _ (Nat.lt_of_lt_of_le hl (Nat.le_of_ble_eq_true rfl))⟩
  have main : ∀ a, a < 160 → ∀ u v : Nat, (ARE (gvZ s) 0 a = (u : Int) ∧ ARE (gvZ s) 1 a = (v : Int)) ↔ (CLA s (-1) (-1) a ∧ (s.1 113 (bs s + a)).toNatClampNeg = u ∧ (s.1 114 (bs s + a)).toNatClampNeg = v) := fun a ha u v => by
    obtain ⟨⟨r1, r2⟩, r3, r4⟩ := rg a ha
    have c1 : (s.1 113 (bs s + a)).toNatClampNeg = (s.1 113 (bs s + a)).toInt.toNat := rfl
    have c2 : (s.1 114 (bs s + a)).toNatClampNeg = (s.1 114 (bs s + a)).toInt.toNat := rfl
    by_cases c : (s.1 112 (bs s + a)).toInt = 0
    · rw [are_no (tg_no (g := (s.2.2.1 109 18).toNatClampNeg) (x := s.1 112 (bs s + a)) (by rw [eb]) c)]
      constructor
      · intro q
        have := q.1
        omega
      · intro q
        exact absurd c q.1.1
    · have hl : 160 * (s.2.2.1 109 18).toNatClampNeg + a < 480 := by omega
      have ne := tg_ne hI (x := s.1 112 (bs s + a)) (by rw [eb]) c hl
      have f0 : ARE (gvZ s) 0 a = (s.1 113 (bs s + a)).toInt := by
        rw [are_f ha rfl, ← tg_is (x := s.1 112 (bs s + a)) (f := s.1 113 (bs s + a)) (by rw [eb]) c (by rw [eb])]
      have f1 : ARE (gvZ s) 1 a = (s.1 114 (bs s + a)).toInt := by
        rw [are_t ha ne (by decide), eb]
        rfl
      rw [f0, f1]
      constructor
      · rintro ⟨q1, q2⟩
        exact ⟨⟨c, by omega, by omega, by omega⟩, by omega, by omega⟩
      · rintro ⟨-, q1, q2⟩
        exact ⟨by omega, by omega⟩
  intro u v
  constructor
  · rintro ⟨a, ha, hc, he⟩
    rcases he with ⟨e1, e2⟩ | ⟨e0, e1, e2⟩
    · obtain ⟨p1, p2⟩ := (main a ha u v).mpr ⟨hc, e1, e2⟩
      exact Or.inl ⟨a, ha, p1, p2⟩
    · obtain ⟨p1, p2⟩ := (main a ha v u).mpr ⟨hc, e2, e1⟩
      exact Or.inr ⟨e0, a, ha, p1, p2⟩
  · rintro (⟨a, ha, p1, p2⟩ | ⟨e0, a, ha, p1, p2⟩)
    · obtain ⟨q0, q1, q2⟩ := (main a ha u v).mp ⟨p1, p2⟩
      exact ⟨a, ha, q0, Or.inl ⟨q1, q2⟩⟩
    · obtain ⟨q0, q1, q2⟩ := (main a ha v u).mp ⟨p1, p2⟩
      exact ⟨a, ha, q0, Or.inr ⟨e0, q2, q1⟩⟩
theorem psp_r {s : GS} (hI : Inv s) {w : Int} {f : Nat → Int32} {v j : Nat} (hc : CCQ s w (-1) (-1) f) (hv : (v : Int) < nmx s) (hj : (j : Int) < nmx s) (b1 : bt (f v) j = true) (b2 : bt (f j) v = true) (hm : ∀ i : Nat, i < j → ¬ (bt (f v) i = true ∧ bt (f i) v = true)) : PSP (gvZ s) w v (j : Int) := by
  have q : ∀ i : Nat, (i : Int) < nmx s → ((bt (f v) i = true ∧ bt (f i) v = true) ↔ PEQ (gvZ s) w v i) := fun i hi => by
    rw [hc v i hv (by omega), hc i v hi (by omega), wl_iff (cle_pe hI), wl_iff (cle_pe hI)]
    exact Iff.rfl
  exact ⟨j, rfl, (q j hj).mp ⟨b1, b2⟩, fun i hi h => hm i hi ((q i (by omega)).mpr h)⟩
def PAR (s t : GS) (x y z : Int32) : Prop := ((t.2.2.1 109 0).toInt = 1 ∧ ¬ (In x 0 1 ∧ 0 ≤ y.toInt ∧ y.toInt < (s.2.2.1 109 20).toInt)) ∨ ((t.2.2.1 109 0).toInt = 0 ∧ (In x 0 1 ∧ 0 ≤ y.toInt ∧ y.toInt < (s.2.2.1 109 20).toInt) ∧ PSP (gvZ s) x.toInt y.toNatClampNeg z.toInt)
