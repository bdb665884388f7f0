/-! THE START: what the constructors leave -/
def sgA (ws : va_W) (k : Nat) : Nat := ((xads ws)[k]?).getD 0
def sgI (ws : va_W) (q : Nat) : Nat → Int32 := match ws[q]? with
  | some (_, .inl (_, _, .inl f)) => f
  | _ => fun _ => 0
def sgL (ws : va_W) (q : Nat) : Nat → Int64 := match ws[q]? with
  | some (_, .inl (_, _, .inr (.inl f))) => f
  | _ => fun _ => 0
def sgFo (o : Option (Nat × va_E)) (j : Nat) : Int32 := match o with
  | some (_, .inr (_, fs)) => (match fs[j]? with
    | some (.int n) => n
    | _ => 0)
  | _ => 0
def sgGo (o : Option (Nat × va_E)) (j : Nat) : Int64 := match o with
  | some (_, .inr (_, fs)) => (match fs[j]? with
    | some (.long n) => n
    | _ => 0)
  | _ => 0
def sgF (ws : va_W) (q j : Nat) : Int32 := if q = 30 ∧ j = 0 then Int32.ofInt 448 else sgFo ws[q]? j
def sgG (ws : va_W) (q j : Nat) : Int64 := sgGo ws[q]? j
def sg (ws : va_W) : GS := (sgI ws, sgL ws, sgF ws, sgG ws, fun _ _ => 0)
/-! what is checked of each cell -/
noncomputable def ckf (k ci : Nat) (t : XT XV 7) (j : Nat) : Bool := match xtget 7 t j with
  | some (.inl _) => !(Nat.beq (wty ci j) 1) && !(Nat.beq (wty ci j) 3)
  | some (.inr (.inl _)) => Nat.beq (wty ci j) 1
  | some (.inr (.inr (r + 3))) => Nat.beq (wty ci j) 3 && Nat.beq (wr k j) r
  | _ => false
noncomputable def ckc (k : Nat) (c : XC) : Bool := match c with
  | .inl (0, n, _, _) => (Nat.beq (wk k) 0 && Nat.beq (wn k) n) || (Nat.beq k 30 && Nat.beq n 448)
  | .inl (t, n, _, _) => Nat.beq (wk k) t && Nat.beq (wn k) n
  | .inr (ci, t) => Nat.beq (wk k) (ci + 4) && Nat.beq (wn k) (xt ci).length && Nat.blt ci 13 && Nat.ble (wn k) 128 && (List.range (wn k)).all (ckf k ci t)
noncomputable def ck (k : Nat) : Bool := match xhg xz_h0 k with
  | some c => ckc k c
  | none => false
theorem ck_all : (List.range 196).all ck = true := by decide +kernel
theorem ck_k {k : Nat} (hk : k < 196) : ck k = true := List.all_eq_true.mp ck_all k (List.mem_range.mpr hk)
theorem wv_1 {A : Nat → Nat} {s : GS} {q ci j : Nat} (h : wty ci j = 1) : wv A s q ci j = .long (s.2.2.2.1 q j) := by unfold wv; rw [h]; rfl
theorem wv_3 {A : Nat → Nat} {s : GS} {q ci j : Nat} (h : wty ci j = 3) : wv A s q ci j = .ref (A (wr q j)) := by unfold wv; rw [h]; rfl
theorem wv_0 {A : Nat → Nat} {s : GS} {q ci j : Nat} (h1 : wty ci j ≠ 1) (h3 : wty ci j ≠ 3) : wv A s q ci j = .int (s.2.2.1 q j) := by
  unfold wv
  split
  · rename_i h; exact absurd h h1
  · rename_i h; exact absurd h h3
  · rfl
section ST0
variable {σ : Nat → Int32} {b : Nat} {Z : AmZ} {ws : va_W}
theorem sg_c (hH : xhr σ b Z ws xz_h0) {k : Nat} (hk : k < 196) : ∃ a e c, ws[k]? = some (a, e) ∧ sgA ws k = a ∧ xhg xz_h0 k = some c ∧ xcr σ b (xads ws) Z e c := by
  have hl : k < ws.length := by rw [hH.1]; exact hk
  obtain ⟨⟨a, e⟩, hw⟩ : ∃ q, ws[k]? = some q := ⟨_, List.getElem?_eq_getElem hl⟩
  obtain ⟨c, h1, h2⟩ := hH.2.2 k a e hw
  refine ⟨a, e, c, hw, ?_, h1, h2⟩
  unfold sgA xads
  rw [List.getElem?_map, hw]
  rfl
theorem sg_none (hH : xhr σ b Z ws xz_h0) {k : Nat} (hk : ¬ k < 196) : ws[k]? = none := List.getElem?_eq_none (by rw [hH.1]; exact Nat.le_of_not_lt hk)
theorem sg_Ia {k : Nat} {a : Nat} {cA : ClassId} {n : Nat} {f : Nat → Int32} (h : ws[k]? = some (a, .inl (cA, n, .inl f))) : sgI ws k = f := by unfold sgI; rw [h]
theorem sg_La {k : Nat} {a : Nat} {cA : ClassId} {n : Nat} {f : Nat → Int64} (h : ws[k]? = some (a, .inl (cA, n, .inr (.inl f)))) : sgL ws k = f := by unfold sgL; rw [h]
theorem sg_Fa {k j : Nat} {a ci : Nat} {fs : List Value} {n : Int32} (h : ws[k]? = some (a, .inr (ci, fs))) (hj : fs[j]? = some (.int n)) (h30 : k ≠ 30) : sgF ws k j = n := by
  unfold sgF sgFo
  rw [if_neg (fun q => h30 q.1), h]
  show (match fs[j]? with
    | some (.int n) => n
    | _ => 0) = n
  rw [hj]
theorem sg_Ga {k j : Nat} {a ci : Nat} {fs : List Value} {n : Int64} (h : ws[k]? = some (a, .inr (ci, fs))) (hj : fs[j]? = some (.long n)) : sgG ws k j = n := by
  unfold sgG sgGo
  rw [h]
  show (match fs[j]? with
    | some (.long n) => n
    | _ => 0) = n
  rw [hj]
theorem sg_o (hH : xhr σ b Z ws xz_h0) {k a ci : Nat} {fs : List Value} {t : XT XV 7} (hk : k < 196) (hw : ws[k]? = some (a, .inr (ci, fs))) (hc : xhg xz_h0 k = some (.inr (ci, t))) (hx : xor σ b (xads ws) ci fs t) : k ≠ 30 ∧ wk k = ci + 4 ∧ wn k = fs.length ∧ ci < 13 ∧ ∀ j, j < wn k → fs[j]? = some (wv (sgA ws) (sg ws) k ci j) := by
  have q := ck_k hk
  unfold ck at q
  rw [hc] at q
  have q : (Nat.beq (wk k) (ci + 4) && Nat.beq (wn k) (xt ci).length && Nat.blt ci 13 && Nat.ble (wn k) 128 && (List.range (wn k)).all (ckf k ci t)) = true := q
  simp only [Bool.and_eq_true] at q
  obtain ⟨⟨⟨⟨q1, q2⟩, q3⟩, q4⟩, q5⟩ := q
  have q1 := Nat.eq_of_beq_eq_true q1
  have q2 := Nat.eq_of_beq_eq_true q2
  have q3 : ci < 13 := Nat.le_of_ble_eq_true q3
  have q4 := Nat.le_of_ble_eq_true q4
  have h30 : k ≠ 30 := by
    intro e
    rw [e] at q1
    have : (1000 : Nat) = ci + 4 := q1
    omega
  refine ⟨h30, q1, by rw [q2, hx.1], q3, fun j hj => ?_⟩
  have hl : j < fs.length := by rw [hx.1, ← q2]; exact hj
  obtain ⟨v, hv⟩ : ∃ v, fs[j]? = some v := ⟨_, List.getElem?_eq_getElem hl⟩
  obtain ⟨x, h1, h2⟩ := hx.2 j v (by omega) hv
  have q6 := List.all_eq_true.mp q5 j (List.mem_range.mpr hj)
  unfold ckf at q6
  rw [h1] at q6
  rw [hv]
  congr 1
  match x, q6, h2 with
  | .inl x, q6, h2 =>
    obtain ⟨n, rfl, -⟩ := h2
    have q6 : (!(Nat.beq (wty ci j) 1) && !(Nat.beq (wty ci j) 3)) = true := q6
    rw [Bool.and_eq_true] at q6
    rw [wv_0 (fun e => by rw [e] at q6; exact absurd q6.1 (by decide)) (fun e => by rw [e] at q6; exact absurd q6.2 (by decide))]
    exact congrArg Value.int (sg_Fa hw hv h30).symm
  | .inr (.inl o), q6, h2 =>
    obtain ⟨n, rfl, -⟩ := h2
    rw [wv_1 (Nat.eq_of_beq_eq_true q6)]
    exact congrArg Value.long (sg_Ga hw hv).symm
  | .inr (.inr (r + 3)), q6, h2 =>
    obtain ⟨a1, rfl, ha⟩ := h2
    have q6 : (Nat.beq (wty ci j) 3 && Nat.beq (wr k j) r) = true := q6
    rw [Bool.and_eq_true] at q6
    rw [wv_3 (Nat.eq_of_beq_eq_true q6.1), Nat.eq_of_beq_eq_true q6.2]
    unfold sgA
    rw [ha]
    rfl
  | .inr (.inr 0), q6, h2 => cases q6
  | .inr (.inr 1), q6, h2 => cases q6
  | .inr (.inr 2), q6, h2 => cases q6
theorem sg_cell (hH : xhr σ b Z ws xz_h0) {k : Nat} (hk : k < 196) : ws[k]? = some (sgA ws k, wc Z (sgA ws) (sg ws) k) := by
  obtain ⟨a, e, c, hw, ha, hc, hx⟩ := sg_c hH hk
  rw [ha]
  have q := ck_k hk
  unfold ck at q
  rw [hc] at q
  match c, hc, hx, q with
  | .inr (ci, t), hc, hx, q =>
    obtain ⟨fs, rfl, hy⟩ := hx
    obtain ⟨h30, q1, q2, q3, q5⟩ := sg_o hH hk hw hc hy
    rw [hw]
    congr 2
    unfold wc
    rw [q1]
    show _ = cond (Nat.beq ci 996) _ (Sum.inr (ci, (List.range (wn k)).map (wv (sgA ws) (sg ws) k ci)) : va_E)
    have e996 : Nat.beq ci 996 = false := by
      cases hb : Nat.beq ci 996 with
      | false => rfl
      | true => have := Nat.eq_of_beq_eq_true hb; omega
    rw [e996]
    show _ = Sum.inr (ci, (List.range (wn k)).map (wv (sgA ws) (sg ws) k ci))
    congr 2
    apply List.ext_getElem?
    intro j
    rw [List.getElem?_map]
    by_cases hj : j < wn k
    · rw [List.getElem?_range hj, q5 j hj]
      rfl
    · rw [List.getElem?_eq_none (by rw [← q2]; omega), List.getElem?_eq_none (by rw [List.length_range]; omega)]
      rfl
  | .inl (0, n, d, t), hc, hx, q =>
    obtain ⟨f, rfl, -, -⟩ := hx
    have q : ((Nat.beq (wk k) 0 && Nat.beq (wn k) n) || (Nat.beq k 30 && Nat.beq n 448)) = true := q
    have hI : (sg ws).1 k = f := sg_Ia hw
    rw [hw]
    congr 2
    rw [Bool.or_eq_true, Bool.and_eq_true, Bool.and_eq_true] at q
    rcases q with ⟨q1, q2⟩ | ⟨q1, q2⟩
    · unfold wc
      rw [Nat.eq_of_beq_eq_true q1, Nat.eq_of_beq_eq_true q2, ← hI]
    · have q1 := Nat.eq_of_beq_eq_true q1
      subst q1
      have q2 := Nat.eq_of_beq_eq_true q2
      subst q2
      rw [← hI]
      rfl
  | .inl (1, n, d, t), hc, hx, q =>
    obtain ⟨f, rfl, -, -⟩ := hx
    have q : (Nat.beq (wk k) 1 && Nat.beq (wn k) n) = true := q
    rw [Bool.and_eq_true] at q
    have hI : (sg ws).2.1 k = f := sg_La hw
    rw [hw]
    congr 2
    unfold wc
    rw [Nat.eq_of_beq_eq_true q.1, Nat.eq_of_beq_eq_true q.2, ← hI]
  | .inl (2, n, d, t), hc, hx, q =>
    obtain ⟨f, rfl, -, -⟩ := hx
    have q : (Nat.beq (wk k) 2 && Nat.beq (wn k) n) = true := q
    rw [Bool.and_eq_true] at q
    have hI : (sg ws).1 k = f := sg_Ia hw
    rw [hw]
    congr 2
    unfold wc
    rw [Nat.eq_of_beq_eq_true q.1, Nat.eq_of_beq_eq_true q.2, ← hI]
  | .inl (3, n, d, t), hc, hx, q =>
    obtain ⟨f, rfl, -, -⟩ := hx
    have q : (Nat.beq (wk k) 3 && Nat.beq (wn k) n) = true := q
    rw [Bool.and_eq_true] at q
    have hI : (sg ws).1 k = f := sg_Ia hw
    rw [hw]
    congr 2
    unfold wc
    rw [Nat.eq_of_beq_eq_true q.1, Nat.eq_of_beq_eq_true q.2, ← hI]
  | .inl (t + 4, n, d, a), hc, hx, q => exact hx.elim
theorem sg_world (hH : xhr σ b Z ws xz_h0) : ws = WW Z (sgA ws) (sg ws) ++ [] := by
  rw [List.append_nil]
  apply List.ext_getElem?
  intro k
  by_cases hk : k < 196
  · rw [sg_cell hH hk]
    unfold WW
    rw [List.getElem?_map, List.getElem?_range hk]
    rfl
  · rw [sg_none hH hk, List.getElem?_eq_none (by rw [ww_len]; omega)]
/-! single values -/
noncomputable def fgi (k j : Nat) : Option Int := match xhg xz_h0 k with
  | some (.inr (_, t)) => (match xtget 7 t j with
    | some (.inl (.inl c)) => some c.toInt
    | _ => none)
  | _ => none
noncomputable def igi (k j : Nat) : Option Int := match xhg xz_h0 k with
  | some (.inl (0, n, d, t)) => cond (Nat.blt j n) (match xget d t j with
    | .inl (.inl c) => some c.toInt
    | _ => none) none
  | some (.inl (3, n, d, t)) => cond (Nat.blt j n) (match xget d t j with
    | .inl (.inl c) => some c.toInt
    | _ => none) none
  | _ => none
noncomputable def igz (d : XV) : Bool := match d with
  | .inl (.inl c) => decide (c.toInt = 0)
  | _ => false
noncomputable def igt (t : XA) : Bool := match t with
  | .inl _ => true
  | _ => false
theorem igz_w {d : XV} (h : igz d = true) : ∃ c : Int32, d = .inl (.inl c) ∧ c.toInt = 0 := by
  match d, h with
  | .inl (.inl c), h => exact ⟨c, rfl, of_decide_eq_true h⟩
  | .inl (.inr _), h => cases h
  | .inr _, h => cases h
theorem igt_w {t : XA} (h : igt t = true) : ∃ u, t = .inl u := by
  match t, h with
  | .inl u, _ => exact ⟨u, rfl⟩
  | .inr _, h => cases h
noncomputable def igc (k m : Nat) : Bool := match xhg xz_h0 k with
  | some (.inl p) => (Nat.beq p.1 0 || Nat.beq p.1 3) && Nat.ble m p.2.1 && igz p.2.2.1 && igt p.2.2.2
  | _ => false
theorem st_F (hH : xhr σ b Z ws xz_h0) {k j : Nat} {v : Int} (hk : (Nat.blt k 196 && Nat.blt j (wn k)) = true) (h : fgi k j = some v) : ((sg ws).2.2.1 k j).toInt = v := by
  rw [Bool.and_eq_true] at hk
  have hk1 : k < 196 := Nat.le_of_ble_eq_true hk.1
  have hj : j < wn k := Nat.le_of_ble_eq_true hk.2
  obtain ⟨a, e, c, hw, ha, hc, hx⟩ := sg_c hH hk1
  unfold fgi at h
  rw [hc] at h
  rcases c with p | ⟨ci, t⟩
  · cases h
  ·
    obtain ⟨fs, rfl, hy⟩ := hx
    obtain ⟨h30, q1, q2, q3, q5⟩ := sg_o hH hk1 hw hc hy
    have hl : j < fs.length := by rw [← q2]; exact hj
    obtain ⟨w, hv⟩ : ∃ v, fs[j]? = some v := ⟨_, List.getElem?_eq_getElem hl⟩
    have q := ck_k hk1
    unfold ck at q
    rw [hc] at q
    have q : (Nat.beq (wk k) (ci + 4) && Nat.beq (wn k) (xt ci).length && Nat.blt ci 13 && Nat.ble (wn k) 128 && (List.range (wn k)).all (ckf k ci t)) = true := q
    simp only [Bool.and_eq_true] at q
    have q4 := Nat.le_of_ble_eq_true q.1.2
    obtain ⟨x, h1, h2⟩ := hy.2 j w (by omega) hv
    have h : (match xtget 7 t j with
      | some (.inl (.inl c)) => some c.toInt
      | _ => none) = some v := h
    rw [h1] at h
    match x, h, h2 with
    | .inl (.inl c), h, h2 =>
      obtain ⟨n, rfl, hn⟩ := h2
      have hn : n = c := hn
      have e1 : (sg ws).2.2.1 k j = n := sg_Fa hw hv h30
      rw [e1, hn]
      exact Option.some.inj h
    | .inl (.inr _), h, _ => cases h
    | .inr _, h, _ => cases h
theorem st_I (hH : xhr σ b Z ws xz_h0) {k j : Nat} {v : Int} (hk : Nat.blt k 196 = true) (h : igi k j = some v) : ((sg ws).1 k j).toInt = v := by
  have hk1 : k < 196 := Nat.le_of_ble_eq_true hk
  obtain ⟨a, e, c, hw, ha, hc, hx⟩ := sg_c hH hk1
  unfold igi at h
  rw [hc] at h
  have go : ∀ (n : Nat) (d : XV) (t : XA) (f : Nat → Int32), (sg ws).1 k = f → (∀ j, j < n → xvr σ b (xads ws) (.int (f j)) (xget d t j)) → cond (Nat.blt j n) (match xget d t j with
    | .inl (.inl c) => some c.toInt
    | _ => none) none = some v → ((sg ws).1 k j).toInt = v := by
    intro n d t f hf hv h
    obtain ⟨hb, h⟩ := xcond h
    have g := hv j (Nat.le_of_ble_eq_true hb)
    rw [hf]
    generalize xget d t j = x at h g
    match x, h, g with
    | .inl (.inl c), h, g =>
      obtain ⟨n, e, hn⟩ := g
      cases e
      have hn : f j = c := hn
      rw [hn]
      exact Option.some.inj h
    | .inl (.inr _), h, _ => cases h
    | .inr _, h, _ => cases h
  match c, hc, hx, h with
  | .inr (ci, t), hc, hx, h => cases h
  | .inl (0, n, d, t), hc, hx, h =>
    obtain ⟨f, rfl, -, hf⟩ := hx
    exact go n d t f (sg_Ia hw) hf h
  | .inl (1, n, d, t), hc, hx, h => cases h
  | .inl (2, n, d, t), hc, hx, h => cases h
  | .inl (3, n, d, t), hc, hx, h =>
    obtain ⟨f, rfl, -, hf⟩ := hx
    exact go n d t f (sg_Ia hw) hf h
  | .inl (t + 4, n, d, a), hc, hx, h => exact hx.elim
theorem st_C (hH : xhr σ b Z ws xz_h0) {k m : Nat} (hk : Nat.blt k 196 = true) (h : igc k m = true) : ∀ j, j < m → ((sg ws).1 k j).toInt = 0 := by
  intro j hj
  have hk1 : k < 196 := Nat.le_of_ble_eq_true hk
  obtain ⟨a, e, c, hw, ha, hc, hx⟩ := sg_c hH hk1
  unfold igc at h
  rw [hc] at h
  rcases c with ⟨tg, n, d, t⟩ | q
  · have h : ((Nat.beq tg 0 || Nat.beq tg 3) && Nat.ble m n && igz d && igt t) = true := h
    rw [Bool.and_eq_true, Bool.and_eq_true, Bool.and_eq_true, Bool.or_eq_true] at h
    obtain ⟨⟨⟨h1, h2⟩, h3⟩, h4⟩ := h
    have hn := Nat.lt_of_lt_of_le hj (Nat.le_of_ble_eq_true h2)
    obtain ⟨c1, rfl, hc1⟩ := igz_w h3
    obtain ⟨u, rfl⟩ := igt_w h4
    clear hc
    rcases h1 with h1 | h1
    · have h1 := Nat.eq_of_beq_eq_true h1
      subst h1
      obtain ⟨f, rfl, -, hf⟩ := hx
      obtain ⟨z, e, hz⟩ := hf j hn
      cases e
      have hz : f j = c1 := hz
      have e1 : (sg ws).1 k = f := sg_Ia hw
      rw [e1, hz]
      exact hc1
    · have h1 := Nat.eq_of_beq_eq_true h1
      subst h1
      obtain ⟨f, rfl, -, hf⟩ := hx
      obtain ⟨z, e, hz⟩ := hf j hn
      cases e
      have hz : f j = c1 := hz
      have e1 : (sg ws).1 k = f := sg_Ia hw
      rw [e1, hz]
      exact hc1
  · cases h
/-! ranges -/
noncomputable def inb (c : Int) (r : Int × Int) : Bool := decide (r.1 ≤ c) && decide (c ≤ r.2)
noncomputable def inx (x : XV) (r : Int × Int) : Bool := match x with
  | .inl (.inl c) => inb c.toInt r
  | _ => false
noncomputable def inxL (x : XV) (r : Int × Int) : Bool := match x with
  | .inr (.inl (some (.inl c))) => inb c.toInt r
  | _ => false
noncomputable def rowck (n : Nat) (d : XV) (t : XA) (f : XV → Bool) : Bool := match t with
  | .inl _ => f d
  | _ => (List.range n).all (fun j => f (xget d t j))
theorem rowck_ok {n : Nat} {d : XV} {t : XA} {f : XV → Bool} (h : rowck n d t f = true) {j : Nat} (hj : j < n) : f (xget d t j) = true := by
  match t, h with
  | .inl _, h => exact h
  | .inr t, h => exact List.all_eq_true.mp (show (List.range n).all (fun j => f (xget d (.inr t) j)) = true from h) j (List.mem_range.mpr hj)
noncomputable def rkI (k : Nat) : Bool := match xhg xz_h0 k with
  | some (.inl (1, _, _, _)) => inb 0 (rI k)
  | some (.inl (_, n, d, t)) => rowck n d t (fun x => inx x (rI k)) && Nat.ble (wn k) n
  | _ => inb 0 (rI k)
noncomputable def rkL (k : Nat) : Bool := match xhg xz_h0 k with
  | some (.inl (1, n, d, t)) => rowck n d t (fun x => inxL x (rL k)) && Nat.ble (wn k) n
  | _ => inb 0 (rL k)
theorem rkI_all : (List.range 196).all rkI = true := by decide +kernel
theorem rkL_all : (List.range 196).all rkL = true := by decide +kernel
theorem inb_w {c : Int} {r : Int × Int} (h : inb c r = true) : r.1 ≤ c ∧ c ≤ r.2 := by
  unfold inb at h
  rw [Bool.and_eq_true] at h
  exact ⟨of_decide_eq_true h.1, of_decide_eq_true h.2⟩
theorem inx_w {ads : List Nat} {x : XV} {r : Int × Int} {n : Int32} (h : inx x r = true) (g : xvr σ b ads (.int n) x) : In n r.1 r.2 := by
  match x, h, g with
  | .inl (.inl c), h, g =>
    obtain ⟨m, e, hm⟩ := g
    cases e
    have hm : n = c := hm
    rw [hm]
    exact inb_w h
  | .inl (.inr _), h, _ => cases h
  | .inr _, h, _ => cases h
theorem inxL_w {ads : List Nat} {x : XV} {r : Int × Int} {n : Int64} (h : inxL x r = true) (g : xvr σ b ads (.long n) x) : InL n r.1 r.2 := by
  match x, h, g with
  | .inr (.inl (some (.inl c))), h, g =>
    obtain ⟨m, e, hm⟩ := g
    cases e
    have hm : n = c := hm
    rw [hm]
    exact inb_w h
  | .inr (.inl (some (.inr _))), h, _ => cases h
  | .inr (.inl none), h, _ => cases h
  | .inr (.inr _), h, _ => cases h
  | .inl _, h, _ => cases h
theorem bl_no {q c : Nat} (hq : ¬ q < 196) (hc : Nat.ble c 196 = true) : Nat.blt q c = false := by
  cases hb : Nat.blt q c with
  | false => rfl
  | true => have h1 : q < c := Nat.le_of_ble_eq_true hb; have h2 := Nat.le_of_ble_eq_true hc; omega
theorem bl_nj {q c : Nat} (hq : ¬ q < 128) (hc : Nat.ble c 128 = true) : Nat.blt q c = false := by
  cases hb : Nat.blt q c with
  | false => rfl
  | true => have h1 : q < c := Nat.le_of_ble_eq_true hb; have h2 := Nat.le_of_ble_eq_true hc; omega
theorem be_nj {q c : Nat} (hq : ¬ q < 128) (hc : Nat.ble c 127 = true) : Nat.beq q c = false := by
  cases hb : Nat.beq q c with
  | false => rfl
  | true => have h1 := Nat.eq_of_beq_eq_true hb; have h2 := Nat.le_of_ble_eq_true hc; omega
theorem cnd_P {α : Type} {P : α → Prop} {c : Bool} {x y : α} (h1 : P x) (h2 : P y) : P (cond c x y) := by cases c; exact h2; exact h1
theorem rI_big {q : Nat} (hq : ¬ q < 196) : rI q = (-2147483648, 2147483647) := by
  unfold rI
  rw [bl_no hq (c := 82) rfl, bl_no hq (c := 141) rfl, bl_no hq (c := 164) rfl, bl_no hq (c := 178) rfl, bl_no hq (c := 186) rfl, bl_no hq (c := 189) rfl, bl_no hq (c := 190) rfl]
  rfl
theorem rL_big {q : Nat} (hq : ¬ q < 196) : rL q = (-9223372036854775808, 9223372036854775807) := by
  unfold rL
  rw [bl_no hq (c := 97) rfl, bl_no hq (c := 99) rfl, bl_no hq (c := 102) rfl]
  rfl
theorem rF_big {q j : Nat} (hq : ¬ q < 196) : rF q j = (-2147483648, 2147483647) := by
  unfold rF
  rw [bl_no hq (c := 57) rfl, bl_no hq (c := 86) rfl, bl_no hq (c := 102) rfl, bl_no hq (c := 109) rfl, bl_no hq (c := 110) rfl]
  rfl
theorem rG_big {q j : Nat} (hq : ¬ q < 196) : rG q j = (-9223372036854775808, 9223372036854775807) := by
  unfold rG
  rw [bl_no hq (c := 94) rfl, bl_no hq (c := 95) rfl]
  rfl
theorem inb_f : inb 0 (-2147483648, 2147483647) = true := by decide +kernel
theorem inb_g : inb 0 (-9223372036854775808, 9223372036854775807) = true := by decide +kernel
theorem rF_0_bj {j : Nat} (hj : ¬ j < 128) : inb 0 (rF_0 j) = true := by
  have e : rF_0 j = (-2147483648, 2147483647) := by
    unfold rF_0
    rw [bl_nj hj (c := 2) rfl, bl_nj hj (c := 3) rfl]
    rfl
  rw [e]
  decide +kernel
theorem rF_1_bj {j : Nat} (hj : ¬ j < 128) : inb 0 (rF_1 j) = true := by
  unfold rF_1
  decide +kernel
theorem rF_2_bj {j : Nat} (hj : ¬ j < 128) : inb 0 (rF_2 j) = true := by
  have e : rF_2 j = (-2147483648, 2147483647) := by
    unfold rF_2
    rw [bl_nj hj (c := 3) rfl, bl_nj hj (c := 4) rfl, bl_nj hj (c := 5) rfl]
    rfl
  rw [e]
  decide +kernel
theorem rF_16_bj {j : Nat} (hj : ¬ j < 128) : inb 0 (rF_16 j) = true := by
  have e : rF_16 j = (-2147483648, 2147483647) := by
    unfold rF_16
    rw [bl_nj hj (c := 3) rfl, bl_nj hj (c := 4) rfl, bl_nj hj (c := 5) rfl]
    rfl
  rw [e]
  decide +kernel
theorem rF_30_bj {j : Nat} (hj : ¬ j < 128) : inb 0 (rF_30 j) = true := by
  have e : rF_30 j = (-2147483648, 2147483647) := by
    unfold rF_30
    rw [be_nj hj (c := 0) rfl]
    rfl
  rw [e]
  decide +kernel
theorem rF_32_bj {j : Nat} (hj : ¬ j < 128) : inb 0 (rF_32 j) = true := by
  have e : rF_32 j = (-2147483648, 2147483647) := by
    unfold rF_32
    rw [bl_nj hj (c := 3) rfl, bl_nj hj (c := 4) rfl, bl_nj hj (c := 5) rfl]
    rfl
  rw [e]
  decide +kernel
theorem rF_46_bj {j : Nat} (hj : ¬ j < 128) : inb 0 (rF_46 j) = true := by
  have e : rF_46 j = (0, 4608) := by
    unfold rF_46
    rw [bl_nj hj (c := 5) rfl, bl_nj hj (c := 7) rfl, bl_nj hj (c := 8) rfl, bl_nj hj (c := 9) rfl]
    rfl
  rw [e]
  decide +kernel
theorem rF_49_bj {j : Nat} (hj : ¬ j < 128) : inb 0 (rF_49 j) = true := by
  have e : rF_49 j = (-2147483648, 2147483647) := by
    unfold rF_49
    rw [bl_nj hj (c := 8) rfl, bl_nj hj (c := 11) rfl, bl_nj hj (c := 12) rfl]
    rfl
  rw [e]
  decide +kernel
theorem rF_56_bj {j : Nat} (hj : ¬ j < 128) : inb 0 (rF_56 j) = true := by
  have e : rF_56 j = (-2147483648, 2147483647) := by
    unfold rF_56
    rw [bl_nj hj (c := 2) rfl, bl_nj hj (c := 3) rfl, bl_nj hj (c := 4) rfl]
    rfl
  rw [e]
  decide +kernel
theorem rF_60_bj {j : Nat} (hj : ¬ j < 128) : inb 0 (rF_60 j) = true := by
  have e : rF_60 j = (-2147483648, 2147483647) := by
    unfold rF_60
    rw [bl_nj hj (c := 3) rfl, bl_nj hj (c := 7) rfl, bl_nj hj (c := 8) rfl]
    rfl
  rw [e]
  decide +kernel
theorem rF_65_bj {j : Nat} (hj : ¬ j < 128) : inb 0 (rF_65 j) = true := by
  have e : rF_65 j = (-2147483648, 2147483647) := by
    unfold rF_65
    rw [bl_nj hj (c := 9) rfl, bl_nj hj (c := 17) rfl, bl_nj hj (c := 18) rfl]
    rfl
  rw [e]
  decide +kernel
theorem rF_76_bj {j : Nat} (hj : ¬ j < 128) : inb 0 (rF_76 j) = true := by
  have e : rF_76 j = (-2147483648, 2147483647) := by
    unfold rF_76
    rw [bl_nj hj (c := 9) rfl, bl_nj hj (c := 10) rfl]
    rfl
  rw [e]
  decide +kernel
theorem rF_86_bj {j : Nat} (hj : ¬ j < 128) : inb 0 (rF_86 j) = true := by
  have e : rF_86 j = (-2147483648, 2147483647) := by
    unfold rF_86
    rw [bl_nj hj (c := 4) rfl, bl_nj hj (c := 5) rfl, bl_nj hj (c := 6) rfl]
    rfl
  rw [e]
  decide +kernel
theorem rF_94_bj {j : Nat} (hj : ¬ j < 128) : inb 0 (rF_94 j) = true := by
  unfold rF_94
  decide +kernel
theorem rF_102_bj {j : Nat} (hj : ¬ j < 128) : inb 0 (rF_102 j) = true := by
  have e : rF_102 j = (-2147483648, 2147483647) := by
    unfold rF_102
    rw [bl_nj hj (c := 4) rfl, bl_nj hj (c := 9) rfl, bl_nj hj (c := 10) rfl]
    rfl
  rw [e]
  decide +kernel
theorem rF_109_bj {j : Nat} (hj : ¬ j < 128) : inb 0 (rF_109 j) = true := by
  have e : rF_109 j = (-2147483648, 2147483647) := by
    unfold rF_109
    rw [bl_nj hj (c := 32) rfl, bl_nj hj (c := 96) rfl, bl_nj hj (c := 110) rfl, bl_nj hj (c := 112) rfl, bl_nj hj (c := 113) rfl, bl_nj hj (c := 114) rfl]
    rfl
  rw [e]
  decide +kernel
theorem rG_94_bj {j : Nat} (hj : ¬ j < 128) : inb 0 (rG_94 j) = true := by
  have e : rG_94 j = (-9223372036854775808, 9223372036854775807) := by
    unfold rG_94
    rw [bl_nj hj (c := 2) rfl]
    rfl
  rw [e]
  decide +kernel
theorem rF_bj {q j : Nat} (hj : ¬ j < 128) : inb 0 (rF q j) = true :=
  (cnd_P (P := fun r => inb 0 r = true) (cnd_P (P := fun r => inb 0 r = true) (cnd_P (P := fun r => inb 0 r = true) (cnd_P (P := fun r => inb 0 r = true) (rF_0_bj hj) (cnd_P (P := fun r => inb 0 r = true) (rF_1_bj hj) (rF_2_bj hj))) (cnd_P (P := fun r => inb 0 r = true) (cnd_P (P := fun r => inb 0 r = true) inb_f (rF_16_bj hj)) (cnd_P (P := fun r => inb 0 r = true) inb_f (rF_30_bj hj)))) (cnd_P (P := fun r => inb 0 r = true) (cnd_P (P := fun r => inb 0 r = true) (cnd_P (P := fun r => inb 0 r = true) inb_f (rF_32_bj hj)) (cnd_P (P := fun r => inb 0 r = true) inb_f (rF_46_bj hj))) (cnd_P (P := fun r => inb 0 r = true) (cnd_P (P := fun r => inb 0 r = true) inb_f (rF_49_bj hj)) (cnd_P (P := fun r => inb 0 r = true) inb_f (rF_56_bj hj))))) (cnd_P (P := fun r => inb 0 r = true) (cnd_P (P := fun r => inb 0 r = true) (cnd_P (P := fun r => inb 0 r = true) inb_f (cnd_P (P := fun r => inb 0 r = true) (rF_60_bj hj) inb_f)) (cnd_P (P := fun r => inb 0 r = true) (cnd_P (P := fun r => inb 0 r = true) (rF_65_bj hj) inb_f) (cnd_P (P := fun r => inb 0 r = true) (rF_76_bj hj) inb_f))) (cnd_P (P := fun r => inb 0 r = true) (cnd_P (P := fun r => inb 0 r = true) (cnd_P (P := fun r => inb 0 r = true) (rF_86_bj hj) inb_f) (cnd_P (P := fun r => inb 0 r = true) (rF_94_bj hj) inb_f)) (cnd_P (P := fun r => inb 0 r = true) (cnd_P (P := fun r => inb 0 r = true) (rF_102_bj hj) inb_f) (cnd_P (P := fun r => inb 0 r = true) (rF_109_bj hj) inb_f)))))
theorem rG_bj {q j : Nat} (hj : ¬ j < 128) : inb 0 (rG q j) = true :=
  (cnd_P (P := fun r => inb 0 r = true) inb_g (cnd_P (P := fun r => inb 0 r = true) (rG_94_bj hj) inb_g))
noncomputable def fkF (k j : Nat) : Bool := match xhg xz_h0 k with
  | some (.inr (_, t)) => (match xtget 7 t j with
    | some (.inl x) => inx (.inl x) (rF k j) && (Nat.blt j (wn k) || inb 0 (rF k j))
    | _ => inb 0 (rF k j))
  | _ => (Nat.beq k 30 && Nat.beq j 0) || inb 0 (rF k j)
noncomputable def fkG (k j : Nat) : Bool := match xhg xz_h0 k with
  | some (.inr (_, t)) => (match xtget 7 t j with
    | some (.inr (.inl x)) => inxL (.inr (.inl x)) (rG k j) && (Nat.blt j (wn k) || inb 0 (rG k j))
    | _ => inb 0 (rG k j))
  | _ => inb 0 (rG k j)
theorem fkF_all : (List.range 196).all (fun k => (List.range 128).all (fkF k)) = true := by decide +kernel
theorem fkG_all : (List.range 196).all (fun k => (List.range 128).all (fkG k)) = true := by decide +kernel
theorem xcr_l {ads : List Nat} {e : va_E} {p : Nat × Nat × XV × XA} (h : xcr σ b ads Z e (.inl p)) : ∃ y, e = .inl y := by
  match p, h with
  | (0, n, d, t), h => obtain ⟨f, e, -⟩ := h; exact ⟨_, e⟩
  | (1, n, d, t), h => obtain ⟨f, e, -⟩ := h; exact ⟨_, e⟩
  | (2, n, d, t), h => obtain ⟨f, e, -⟩ := h; exact ⟨_, e⟩
  | (3, n, d, t), h => obtain ⟨f, e, -⟩ := h; exact ⟨_, e⟩
  | (t + 4, n, d, a), h => exact h.elim
theorem st_rF (hH : xhr σ b Z ws xz_h0) (q j : Nat) : In (sgF ws q j) (rF q j).1 (rF q j).2 := by
  by_cases h30 : q = 30 ∧ j = 0
  · obtain ⟨rfl, rfl⟩ := h30
    have e : sgF ws 30 0 = Int32.ofInt 448 := if_pos ⟨rfl, rfl⟩
    rw [e]
    exact ⟨by decide +kernel, by decide +kernel⟩
  have e0 : sgF ws q j = sgFo ws[q]? j := if_neg h30
  rw [e0]
  by_cases hq : q < 196
  · obtain ⟨a, e, c, hw, ha, hc, hx⟩ := sg_c hH hq
    rw [hw]
    by_cases hj : j < 128
    · have ck1 := List.all_eq_true.mp (List.all_eq_true.mp fkF_all q (List.mem_range.mpr hq)) j (List.mem_range.mpr hj)
      unfold fkF at ck1
      rw [hc] at ck1
      match c, hc, hx, ck1 with
      | .inl p, hc, hx, ck1 =>
        obtain ⟨y, rfl⟩ := xcr_l hx
        have ck1 : ((Nat.beq q 30 && Nat.beq j 0) || inb 0 (rF q j)) = true := ck1
        rw [Bool.or_eq_true, Bool.and_eq_true] at ck1
        rcases ck1 with ck1 | ck1
        · exact absurd ⟨Nat.eq_of_beq_eq_true ck1.1, Nat.eq_of_beq_eq_true ck1.2⟩ h30
        · exact inb_w ck1
      | .inr (ci, t), hc, hx, ck1 =>
        obtain ⟨fs, rfl, hy⟩ := hx
        obtain ⟨-, q1, q2, q3, -⟩ := sg_o hH hq hw hc hy
        have ck1 : (match xtget 7 t j with
          | some (.inl x) => inx (.inl x) (rF q j) && (Nat.blt j (wn q) || inb 0 (rF q j))
          | _ => inb 0 (rF q j)) = true := ck1
        show In (match fs[j]? with
          | some (.int n) => n
          | _ => 0) _ _
        cases hv : fs[j]? with
        | none =>
          have hn : ¬ j < wn q := fun z => by rw [q2] at z; rw [List.getElem?_eq_getElem z] at hv; cases hv
          have hz : inb 0 (rF q j) = true := by
            split at ck1
            · rw [Bool.and_eq_true, Bool.or_eq_true] at ck1
              rcases ck1.2 with z | z
              · exact absurd (Nat.le_of_ble_eq_true z) hn
              · exact z
            · exact ck1
          exact inb_w hz
        | some w =>
          obtain ⟨x, h1, h2⟩ := hy.2 j w hj hv
          rw [h1] at ck1
          match x, h2, ck1 with
          | .inl x, h2, ck1 =>
            have g2 := h2
            obtain ⟨n, rfl, hn⟩ := h2
            have ck1 : (inx (.inl x) (rF q j) && (Nat.blt j (wn q) || inb 0 (rF q j))) = true := ck1
            rw [Bool.and_eq_true] at ck1
            exact inx_w ck1.1 g2
          | .inr (.inl o), h2, ck1 =>
            obtain ⟨n, rfl, -⟩ := h2
            exact inb_w ck1
          | .inr (.inr 0), h2, ck1 =>
            have h2 : w = .null := h2
            subst h2
            exact inb_w ck1
          | .inr (.inr 1), h2, ck1 =>
            obtain ⟨n, rfl⟩ := h2
            exact inb_w ck1
          | .inr (.inr 2), h2, ck1 =>
            have h2 : w = .ref b := h2
            subst h2
            exact inb_w ck1
          | .inr (.inr (r + 3)), h2, ck1 =>
            obtain ⟨n, rfl, -⟩ := h2
            exact inb_w ck1
    · match c, hc, hx with
      | .inl p, hc, hx =>
        obtain ⟨y, rfl⟩ := xcr_l hx
        exact inb_w (rF_bj hj)
      | .inr (ci, t), hc, hx =>
        obtain ⟨fs, rfl, hy⟩ := hx
        obtain ⟨-, q1, q2, q3, -⟩ := sg_o hH hq hw hc hy
        have q := ck_k hq
        unfold ck at q
        rw [hc] at q
        have q : (Nat.beq (wk _) (ci + 4) && Nat.beq (wn _) (xt ci).length && Nat.blt ci 13 && Nat.ble (wn _) 128 && (List.range (wn _)).all (ckf _ ci t)) = true := q
        simp only [Bool.and_eq_true] at q
        have q4 := Nat.le_of_ble_eq_true q.1.2
        show In (match fs[j]? with
          | some (.int n) => n
          | _ => 0) _ _
        rw [List.getElem?_eq_none (by omega)]
        exact inb_w (rF_bj hj)
  · rw [sg_none hH hq, rF_big hq]
    exact i_rng _
theorem st_rG (hH : xhr σ b Z ws xz_h0) (q j : Nat) : InL (sgG ws q j) (rG q j).1 (rG q j).2 := by
  unfold sgG
  by_cases hq : q < 196
  · obtain ⟨a, e, c, hw, ha, hc, hx⟩ := sg_c hH hq
    rw [hw]
    by_cases hj : j < 128
    · have ck1 := List.all_eq_true.mp (List.all_eq_true.mp fkG_all q (List.mem_range.mpr hq)) j (List.mem_range.mpr hj)
      unfold fkG at ck1
      rw [hc] at ck1
      match c, hc, hx, ck1 with
      | .inl p, hc, hx, ck1 =>
        obtain ⟨y, rfl⟩ := xcr_l hx
        exact inb_w ck1
      | .inr (ci, t), hc, hx, ck1 =>
        obtain ⟨fs, rfl, hy⟩ := hx
        obtain ⟨-, q1, q2, q3, -⟩ := sg_o hH hq hw hc hy
        have ck1 : (match xtget 7 t j with
          | some (.inr (.inl x)) => inxL (.inr (.inl x)) (rG q j) && (Nat.blt j (wn q) || inb 0 (rG q j))
          | _ => inb 0 (rG q j)) = true := ck1
        show InL (match fs[j]? with
          | some (.long n) => n
          | _ => 0) _ _
        cases hv : fs[j]? with
        | none =>
          have hn : ¬ j < wn q := fun z => by rw [q2] at z; rw [List.getElem?_eq_getElem z] at hv; cases hv
          have hz : inb 0 (rG q j) = true := by
            split at ck1
            · rw [Bool.and_eq_true, Bool.or_eq_true] at ck1
              rcases ck1.2 with z | z
              · exact absurd (Nat.le_of_ble_eq_true z) hn
              · exact z
            · exact ck1
          exact inb_w hz
        | some w =>
          obtain ⟨x, h1, h2⟩ := hy.2 j w hj hv
          rw [h1] at ck1
          match x, h2, ck1 with
          | .inl x, h2, ck1 =>
            obtain ⟨n, rfl, -⟩ := h2
            exact inb_w ck1
          | .inr (.inl o), h2, ck1 =>
            have g2 := h2
            obtain ⟨n, rfl, hn⟩ := h2
            have ck1 : (inxL (.inr (.inl o)) (rG q j) && (Nat.blt j (wn q) || inb 0 (rG q j))) = true := ck1
            rw [Bool.and_eq_true] at ck1
            exact inxL_w ck1.1 g2
          | .inr (.inr 0), h2, ck1 =>
            have h2 : w = .null := h2
            subst h2
            exact inb_w ck1
          | .inr (.inr 1), h2, ck1 =>
            obtain ⟨n, rfl⟩ := h2
            exact inb_w ck1
          | .inr (.inr 2), h2, ck1 =>
            have h2 : w = .ref b := h2
            subst h2
            exact inb_w ck1
          | .inr (.inr (r + 3)), h2, ck1 =>
            obtain ⟨n, rfl, -⟩ := h2
            exact inb_w ck1
    · match c, hc, hx with
      | .inl p, hc, hx =>
        obtain ⟨y, rfl⟩ := xcr_l hx
        exact inb_w (rG_bj hj)
      | .inr (ci, t), hc, hx =>
        obtain ⟨fs, rfl, hy⟩ := hx
        obtain ⟨-, q1, q2, q3, -⟩ := sg_o hH hq hw hc hy
        have q := ck_k hq
        unfold ck at q
        rw [hc] at q
        have q : (Nat.beq (wk _) (ci + 4) && Nat.beq (wn _) (xt ci).length && Nat.blt ci 13 && Nat.ble (wn _) 128 && (List.range (wn _)).all (ckf _ ci t)) = true := q
        simp only [Bool.and_eq_true] at q
        have q4 := Nat.le_of_ble_eq_true q.1.2
        show InL (match fs[j]? with
          | some (.long n) => n
          | _ => 0) _ _
        rw [List.getElem?_eq_none (by omega)]
        exact inb_w (rG_bj hj)
  · rw [sg_none hH hq, rG_big hq]
    exact l_rng _
theorem st_rI (hH : xhr σ b Z ws xz_h0) (q j : Nat) (hj : j < wn q) : In (sgI ws q j) (rI q).1 (rI q).2 := by
  by_cases hq : q < 196
  · obtain ⟨a, e, c, hw, ha, hc, hx⟩ := sg_c hH hq
    have ck1 := List.all_eq_true.mp rkI_all q (List.mem_range.mpr hq)
    unfold rkI at ck1
    rw [hc] at ck1
    match c, hc, hx, ck1 with
    | .inr (ci, t), hc, hx, ck1 =>
      obtain ⟨fs, rfl, hy⟩ := hx
      have e : sgI ws q = fun _ => 0 := by unfold sgI; rw [hw]
      rw [e]
      exact inb_w ck1
    | .inl (1, n, d, t), hc, hx, ck1 =>
      obtain ⟨f, rfl, hx⟩ := hx
      have e : sgI ws q = fun _ => 0 := by unfold sgI; rw [hw]
      rw [e]
      exact inb_w ck1
    | .inl (0, n, d, t), hc, hx, ck1 =>
      obtain ⟨f, rfl, -, hf⟩ := hx
      have ck1 : (rowck n d t (fun x => inx x (rI q)) && Nat.ble (wn q) n) = true := ck1
      rw [Bool.and_eq_true] at ck1
      have hn := Nat.lt_of_lt_of_le hj (Nat.le_of_ble_eq_true ck1.2)
      rw [sg_Ia hw]
      exact inx_w (rowck_ok ck1.1 hn) (hf j hn)
    | .inl (2, n, d, t), hc, hx, ck1 =>
      obtain ⟨f, rfl, -, hf⟩ := hx
      have ck1 : (rowck n d t (fun x => inx x (rI q)) && Nat.ble (wn q) n) = true := ck1
      rw [Bool.and_eq_true] at ck1
      have hn := Nat.lt_of_lt_of_le hj (Nat.le_of_ble_eq_true ck1.2)
      rw [sg_Ia hw]
      exact inx_w (rowck_ok ck1.1 hn) (hf j hn)
    | .inl (3, n, d, t), hc, hx, ck1 =>
      obtain ⟨f, rfl, -, hf⟩ := hx
      have ck1 : (rowck n d t (fun x => inx x (rI q)) && Nat.ble (wn q) n) = true := ck1
      rw [Bool.and_eq_true] at ck1
      have hn := Nat.lt_of_lt_of_le hj (Nat.le_of_ble_eq_true ck1.2)
      rw [sg_Ia hw]
      exact inx_w (rowck_ok ck1.1 hn) (hf j hn)
    | .inl (t + 4, n, d, a), hc, hx, ck1 => exact hx.elim
  · rw [rI_big hq]
    exact i_rng _
theorem st_rL (hH : xhr σ b Z ws xz_h0) (q j : Nat) (hj : j < wn q) : InL (sgL ws q j) (rL q).1 (rL q).2 := by
  by_cases hq : q < 196
  · obtain ⟨a, e, c, hw, ha, hc, hx⟩ := sg_c hH hq
    have ck1 := List.all_eq_true.mp rkL_all q (List.mem_range.mpr hq)
    unfold rkL at ck1
    rw [hc] at ck1
    match c, hc, hx, ck1 with
    | .inr (ci, t), hc, hx, ck1 =>
      obtain ⟨fs, rfl, hy⟩ := hx
      have e : sgL ws q = fun _ => 0 := by unfold sgL; rw [hw]
      rw [e]
      exact inb_w ck1
    | .inl (1, n, d, t), hc, hx, ck1 =>
      obtain ⟨f, rfl, -, hf⟩ := hx
      have ck1 : (rowck n d t (fun x => inxL x (rL q)) && Nat.ble (wn q) n) = true := ck1
      rw [Bool.and_eq_true] at ck1
      have hn := Nat.lt_of_lt_of_le hj (Nat.le_of_ble_eq_true ck1.2)
      rw [sg_La hw]
      exact inxL_w (rowck_ok ck1.1 hn) (hf j hn)
    | .inl (0, n, d, t), hc, hx, ck1 =>
      obtain ⟨f, rfl, hx⟩ := hx
      have e : sgL ws q = fun _ => 0 := by unfold sgL; rw [hw]
      rw [e]
      exact inb_w ck1
    | .inl (2, n, d, t), hc, hx, ck1 =>
      obtain ⟨f, rfl, hx⟩ := hx
      have e : sgL ws q = fun _ => 0 := by unfold sgL; rw [hw]
      rw [e]
      exact inb_w ck1
    | .inl (3, n, d, t), hc, hx, ck1 =>
      obtain ⟨f, rfl, hx⟩ := hx
      have e : sgL ws q = fun _ => 0 := by unfold sgL; rw [hw]
      rw [e]
      exact inb_w ck1
    | .inl (t + 4, n, d, a), hc, hx, ck1 => exact hx.elim
  · rw [rL_big hq]
    exact l_rng _
theorem tn_of {x : Int32} {n : Nat} (h : x.toInt = (n : Int)) : x.toNatClampNeg = n := by
  show x.toInt.toNat = n
  rw [h]
  exact Int.toNat_natCast n
theorem st_inv (hH : xhr σ b Z ws xz_h0) : Inv (sg ws) := by
  refine ⟨⟨st_rI hH, st_rF hH, st_rL hH, st_rG hH⟩, ?_, ?_, ?_, ?_⟩
  · exact kk_un rfl rfl (st_F hH rfl (by decide +kernel)) (by rw [st_F hH (k := 2) (j := 0) (v := 0) rfl (by decide +kernel)]; decide)
  · exact kk_un rfl rfl (st_F hH rfl (by decide +kernel)) (by rw [st_F hH (k := 32) (j := 0) (v := 0) rfl (by decide +kernel)]; decide)
  · refine ⟨fun j hj => ?_, ?_, ?_⟩
    · rw [mI_at rfl, st_C hH (k := 134) (m := 10005) rfl (by decide +kernel) (5 * j) (by omega)]
      decide
    · rw [mI_at rfl, mI_at rfl, mI_at rfl]
      have w := st_C hH (k := 184) (m := 3) rfl (by decide +kernel)
      have w0 := w 0 (by decide)
      have w1 := w 1 (by decide)
      have e1 : ((sg ws).1 186 1).toNatClampNeg = 1 := tn_of (st_I hH rfl (by decide +kernel))
      have e2 : ((sg ws).1 186 2).toNatClampNeg = 2 := tn_of (st_I hH rfl (by decide +kernel))
      unfold KP
      rw [e1, e2]
      constructor
      · simp [ht, hs, w0]
      · simp [ht, hs, w1]
    · rw [mI_at rfl, mF_at rfl, mF_at rfl]
      have w := st_C hH (k := 103) (m := 3) rfl (by decide +kernel)
      have w0 := w 0 (by decide)
      have w1 := w 1 (by decide)
      have e1 : ((sg ws).2.2.1 102 1).toNatClampNeg = 1 := tn_of (st_F hH rfl (by decide +kernel))
      have e2 : ((sg ws).2.2.1 102 2).toNatClampNeg = 2 := tn_of (st_F hH rfl (by decide +kernel))
      unfold KC
      rw [e1, e2]
      constructor
      · simp [ht, hc, w0]
      · simp [ht, hc, w1]
  · have f9 : ((mF (sg ws)) 109 9).toInt = 0 := by rw [mF_at rfl]; exact st_F hH rfl (by decide +kernel)
    have f18 : ((mF (sg ws)) 109 18).toInt = 0 := by rw [mF_at rfl]; exact st_F hH rfl (by decide +kernel)
    have f19 : ((mF (sg ws)) 109 19).toInt = 0 := by rw [mF_at rfl]; exact st_F hH rfl (by decide +kernel)
    have f20 : ((mF (sg ws)) 109 20).toInt = 0 := by rw [mF_at rfl]; exact st_F hH rfl (by decide +kernel)
    have i0 : ((mI (sg ws)) 110 0).toInt = 0 := by rw [mI_at rfl]; exact st_I hH rfl (by decide +kernel)
    have i1 : ((mI (sg ws)) 110 1).toInt = 0 := by rw [mI_at rfl]; exact st_I hH rfl (by decide +kernel)
    have th : ∀ j, j < 480 → ((mI (sg ws)) 112 j).toInt = 0 := by rw [mI_at rfl]; exact st_C hH rfl (by decide +kernel)
    have e18 : ((mF (sg ws)) 109 18).toNatClampNeg = 0 := tn_of f18
    refine ⟨fun k hk => ?_, ?_, ⟨⟨by rw [i0]; decide, by rw [i0]; decide⟩, ⟨by rw [i1]; decide, by rw [i1]; decide⟩⟩, fun a ha hn => ?_, fun a ha hn => ?_, ?_, ?_⟩
    · rw [f9] at hk; omega
    · rw [f9, i0]; rfl
    · exact absurd (th _ (by omega)) hn
    · exact absurd (th _ (by omega)) hn
    · rw [f19, f18]; rfl
    · rw [e18]
      exact i_eq.mpr (by rw [f20, i0])
theorem st_kn (hH : xhr σ b Z ws xz_h0) {g : Nat} (hk : Nat.blt (g + 2) 196 = true) (h : (List.range 160).all (fun j => decide (igi (g + 2) j = some (-1))) = true) {n : Int32} : KN ((sg ws).1 (g + 2)) ((sg ws).1 (g + 3)) n := by
  intro p hp
  exact Or.inl (st_I hH hk (of_decide_eq_true (List.all_eq_true.mp h p (List.mem_range.mpr hp))))
theorem st_kl (hH : xhr σ b Z ws xz_h0) : KL (sg ws) := by
  have f0 : ((sg ws).2.2.1 2 0).toInt = 0 := st_F hH rfl (by decide +kernel)
  have f1 : ((sg ws).2.2.1 2 1).toInt = 0 := st_F hH rfl (by decide +kernel)
  have g0 : ((sg ws).2.2.1 32 0).toInt = 0 := st_F hH rfl (by decide +kernel)
  have g1 : ((sg ws).2.2.1 32 1).toInt = 0 := st_F hH rfl (by decide +kernel)
  have l0 : ((sg ws).2.2.1 30 0).toInt = 448 := by
    have e1 : sgF ws 30 0 = Int32.ofInt 448 := if_pos ⟨rfl, rfl⟩
    have e : (sg ws).2.2.1 30 0 = Int32.ofInt 448 := e1
    rw [e]; rfl
  refine ⟨fun k hk => ?_, by omega, by omega, ⟨?_, st_kn hH rfl (by decide +kernel)⟩, ⟨?_, st_kn hH rfl (by decide +kernel)⟩⟩
  · rw [f0] at hk; omega
  · rw [f0, f1]; rfl
  · rw [g0, g1]; rfl
theorem st_rel (hH : xhr σ b Z ws xz_h0) : REL (sg ws) := by
  have a : ((sg ws).2.2.1 46 1).toInt = 0 := st_F hH rfl (by decide +kernel)
  have c : ((sg ws).2.2.1 109 22).toInt = 0 := st_F hH rfl (by decide +kernel)
  exact i_eq.mpr (by rw [a, c])
theorem st_all (hH : xhr σ b Z ws xz_h0) {q n : Nat} {v : Int} (hk : Nat.blt q 196 = true) (h : (List.range n).all (fun j => decide (igi q j = some v)) = true) : ∀ i, i < n → ((sg ws).1 q i).toInt = v := fun i hi => st_I hH hk (of_decide_eq_true (List.all_eq_true.mp h i (List.mem_range.mpr hi)))
theorem st_two (hH : xhr σ b Z ws xz_h0) {q p n : Nat} (hk : Nat.blt q 196 = true) (hp : Nat.blt p 196 = true) (h : (List.range n).all (fun j => decide (igi q j = some 0)) = true) (g : (List.range n).all (fun j => decide (igi p j = some 0)) = true) : ∀ i, i < n → (sg ws).1 q i = (sg ws).1 p i := fun i hi => i_eq.mpr ((st_all hH hk h i hi).trans (st_all hH hp g i hi).symm)
theorem st_rel2 (hH : xhr σ b Z ws xz_h0) : REL2 (sg ws) := by
  have a : ((sg ws).2.2.1 46 1).toInt = 0 := st_F hH rfl (by decide +kernel)
  have f0 : ((sg ws).2.2.1 2 0).toInt = 0 := st_F hH rfl (by decide +kernel)
  have f1 : ((sg ws).2.2.1 2 1).toInt = 0 := st_F hH rfl (by decide +kernel)
  have f9 : ((sg ws).2.2.1 109 9).toInt = 0 := st_F hH rfl (by decide +kernel)
  have r4 := st_all hH (q := 4) (n := 160) (v := -1) rfl (by decide +kernel)
  have r2 := st_all hH (q := 112) (n := 160) (v := 0) rfl (by decide +kernel)
  have r0 := st_all hH (q := 110) (n := 1) (v := 0) rfl (by decide +kernel) 0 (by decide)
  refine ⟨st_rel hH, fun i hi => ?_, ⟨st_two hH (q := 3) (p := 111) rfl rfl (by decide +kernel) (by decide +kernel), fun i hi => ?_, st_two hH (q := 5) (p := 114) rfl rfl (by decide +kernel) (by decide +kernel), st_two hH (q := 6) (p := 115) rfl rfl (by decide +kernel) (by decide +kernel), st_two hH (q := 7) (p := 116) rfl rfl (by decide +kernel) (by decide +kernel), st_two hH (q := 8) (p := 117) rfl rfl (by decide +kernel) (by decide +kernel), f1.trans r0.symm, f0.trans f9.symm⟩, fun p hp hn => absurd (r4 p hp) hn⟩
  · rw [a] at hi; exact absurd hi (Nat.not_lt_zero _)
  · show (sg ws).1 4 i = thf ((sg ws).1 112) ((sg ws).1 113) i
    unfold thf
    rw [if_pos (r2 i hi)]
    exact i_eq.mpr (r4 i hi)
theorem st_ext (hH : xhr σ b Z ws xz_h0) : EXK (sg ws) (fun _ => gvC (sg ws)) := Or.inl (st_F hH rfl (by decide +kernel))
theorem st_rel3 (hH : xhr σ b Z ws xz_h0) : REL3 (sg ws) := by
  have f20 : ((sg ws).2.2.1 2 0).toInt = 0 := st_F hH rfl (by decide +kernel)
  have f21 : ((sg ws).2.2.1 2 1).toInt = 0 := st_F hH rfl (by decide +kernel)
  have g0 : ((sg ws).2.2.1 32 0).toInt = 0 := st_F hH rfl (by decide +kernel)
  have g1 : ((sg ws).2.2.1 32 1).toInt = 0 := st_F hH rfl (by decide +kernel)
  have v2 : ((sg ws).2.2.1 0 2).toInt = -1 := st_F hH rfl (by decide +kernel)
  have v17 : ((sg ws).2.2.1 109 17).toInt = -1 := st_F hH rfl (by decide +kernel)
  have v18 : ((sg ws).2.2.1 109 18).toInt = 0 := st_F hH rfl (by decide +kernel)
  have r4 := st_all hH (q := 4) (n := 160) (v := -1) rfl (by decide +kernel)
  have r34 := st_all hH (q := 34) (n := 160) (v := -1) rfl (by decide +kernel)
  have e4 : GE0 (gvC (sg ws)) := ⟨r4, f21, f20⟩
  have e34 : GE0 (gvD (sg ws)) := ⟨r34, g1, g0⟩
  refine ⟨st_rel2 hH, fun _ => gvC (sg ws), ⟨e4, fun k hk => ?_⟩, gev_r, ⟨ge0_e e34 e4, by omega, by omega, i_eq.mpr (by rw [v2, v17]), fun z => ?_⟩, ?_, fun p hp hn => absurd (r34 p hp) hn, st_ext hH⟩
  · rw [f20] at hk; omega
  · rw [v17] at z; omega
  · unfold GSE
    rw [v18, v17]
    rfl
end ST0
