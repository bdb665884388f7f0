section
/-! WHAT IS LEFT OF A METHOD'S RUN, a row an instruction. GG .. N: from here on N steps are enough, whatever stands in the locals beside f. Values get names (z) with what they are. -/
def g0 (o : Option Value) : Option Value := match o with
  | some (.int x) => some (.int x)
  | some (.ref a) => some (.ref a)
  | _ => none
def g1 (i : Nat) (v : Value) (f : Nat → Option Value) : Nat → Option Value := fun j => cond (Nat.beq j i) (some v) (cond (Nat.beq (j + 1) i) (g0 (f j)) (f j))
def g2 (i : Nat) (v : Value) (f : Nat → Option Value) : Nat → Option Value := fun j => cond (Nat.beq j i) (some v) (cond (Nat.beq j (i + 1)) none (cond (Nat.beq (j + 1) i) (g0 (f j)) (f j)))
def GL (f : Nat → Option Value) (lv : List (Nat × Value)) : Prop := ∀ i v, f i = some v → (i, v) ∈ lv
theorem g0_ok {o : Option Value} {w : Value} (h : g0 o = some w) : o = some w ∧ w.category = 1 := by
  cases o with
  | none => cases h
  | some v => cases v <;> first | (cases h; exact ⟨rfl, rfl⟩) | cases h
theorem gl1 {f : Nat → Option Value} {lv : List (Nat × Value)} (h : GL f lv) (i : Nat) (v : Value) : GL (g1 i v f) (am_s1 i v lv) := by
  intro j w hj
  unfold g1 at hj
  unfold am_s1
  cases h1 : Nat.beq j i with
  | true =>
    rw [h1] at hj
    have hj : some v = some w := hj
    cases hj
    rw [Nat.eq_of_beq_eq_true h1]
    exact List.mem_cons_self
  | false =>
    rw [h1] at hj
    have e := Nat.ne_of_beq_eq_false h1
    refine List.mem_cons_of_mem _ (List.mem_filter.mpr ?_)
    cases h2 : Nat.beq (j + 1) i with
    | true =>
      rw [h2] at hj
      have hj : g0 (f j) = some w := hj
      obtain ⟨a, b⟩ := g0_ok hj
      exact ⟨h j w a, by simp [e, b]⟩
    | false =>
      rw [h2] at hj
      have hj : f j = some w := hj
      have e2 := Nat.ne_of_beq_eq_false h2
      exact ⟨h j w hj, by simp [e, e2]⟩
theorem gl2 {f : Nat → Option Value} {lv : List (Nat × Value)} (h : GL f lv) (i : Nat) (v : Value) : GL (g2 i v f) (am_s2 i v lv) := by
  intro j w hj
  unfold g2 at hj
  unfold am_s2
  cases h1 : Nat.beq j i with
  | true =>
    rw [h1] at hj
    have hj : some v = some w := hj
    cases hj
    rw [Nat.eq_of_beq_eq_true h1]
    exact List.mem_cons_self
  | false =>
    rw [h1] at hj
    have e := Nat.ne_of_beq_eq_false h1
    refine List.mem_cons_of_mem _ (List.mem_filter.mpr ?_)
    cases h3 : Nat.beq j (i + 1) with
    | true => rw [h3] at hj; cases hj
    | false =>
      rw [h3] at hj
      have e3 := Nat.ne_of_beq_eq_false h3
      cases h2 : Nat.beq (j + 1) i with
      | true =>
        rw [h2] at hj
        have hj : g0 (f j) = some w := hj
        obtain ⟨a, b⟩ := g0_ok hj
        exact ⟨h j w a, by simp [e, b, e3]⟩
      | false =>
        rw [h2] at hj
        have hj : f j = some w := hj
        have e2 := Nat.ne_of_beq_eq_false h2
        exact ⟨h j w hj, by simp [e, e2, e3]⟩
/-- the script (of the law alone), calls of wrappers, where a throw goes -/
abbrev GX : Type := AmS × AmC × AmH
def gx (X : AmX) : GX := (none, am_no, fun _ _ _ _ _ => X)
def GG (Z : AmZ) (d m : Nat) (ret : AmR) (xp : GX) (N pc : Nat) (f : Nat → Option Value) (st : List Value) (ws : va_W) (C S : Nat) : Prop :=
  ∀ lv, GL f lv → ∀ n, N ≤ n → am_run Z xp.1 (xcls (xo m)) (xc m) (xn m) (xr m) (xin m) (am_wp Z am_leaf d) xp.2.1 xp.2.2 ret n pc lv st ws C S
def GD (m pc : Nat) (i : Instr) (len : Nat) : Prop := m < xm_n ∧ decode (xc m) pc = .ok (i, len)
theorem gd {m pc : Nat} {i : Instr} {len : Nat} (h : cond (Nat.blt m xm_n) (xlook pc (xi m pc)) none = some (i, len)) : GD m pc i len := xi_w h
section GA
variable {Z : AmZ} {d m N pc : Nat} {ret : AmR} {xp : GX} {f : Nat → Option Value} {st r : List Value} {ws : va_W} {C S : Nat}
theorem gg_w {M : Nat} (hN : M ≤ N) (h : GG Z d m ret xp M pc f st ws C S) : GG Z d m ret xp N pc f st ws C S := fun lv hl n hn => h lv hl n (Nat.le_trans hN hn)
theorem gg_f {e : Nat → Option Value} (he : ∀ i v, e i = some v → f i = some v) (h : GG Z d m ret xp N pc e st ws C S) : GG Z d m ret xp N pc f st ws C S := fun lv hl n hn => h lv (fun i v hv => hl i v (he i v hv)) n hn
theorem g_st (h : ∀ lv, GL f lv → ∀ n, N ≤ n → am_stp Z xp.1 (xcls (xo m)) (xc m) (xn m) (xr m) (xin m) (am_wp Z am_leaf d) xp.2.1 xp.2.2 ret (am_run Z xp.1 (xcls (xo m)) (xc m) (xn m) (xr m) (xin m) (am_wp Z am_leaf d) xp.2.1 xp.2.2 ret n) pc lv st ws C S) : GG Z d m ret xp (N + 1) pc f st ws C S := by
  intro lv hl n hn
  cases n with
  | zero => exact absurd hn (Nat.not_succ_le_zero N)
  | succ n => exact Or.inl (h lv hl n (Nat.le_of_succ_le_succ hn))
theorem g_less {ws' : va_W} (hs : am_less ws' ws) (h : GG Z d m ret xp N pc f st ws' C S) : GG Z d m ret xp (N + 1) pc f st ws C S := by
  intro lv hl n hn
  cases n with
  | zero => exact absurd hn (Nat.not_succ_le_zero N)
  | succ n => exact Or.inr ⟨ws', hs, h lv hl n (Nat.le_of_succ_le_succ hn)⟩
theorem g_iconst {k : _} (c : Int) (p : Nat) (hd : GD m pc (.iconst k) 1) (hp : pc + 1 = p) (hc : Int32.ofInt k = Int32.ofInt c) (h : GG Z d m ret xp N p f (.int (Int32.ofInt c) :: st) ws C S) : GG Z d m ret xp (N + 1) pc f st ws C S :=
  g_st fun lv hl n hn => by unfold am_stp; rw [hd.2]; subst hp; exact (by rw [← hc] at h; exact h lv hl n hn)
theorem g_bipush {k : _} (c : Int) (p : Nat) (hd : GD m pc (.bipush k) 2) (hp : pc + 2 = p) (hc : (Int8.ofInt k).toInt32 = Int32.ofInt c) (h : GG Z d m ret xp N p f (.int (Int32.ofInt c) :: st) ws C S) : GG Z d m ret xp (N + 1) pc f st ws C S :=
  g_st fun lv hl n hn => by unfold am_stp; rw [hd.2]; subst hp; exact (by rw [← hc] at h; exact h lv hl n hn)
theorem g_sipush {k : _} (c : Int) (p : Nat) (hd : GD m pc (.sipush k) 3) (hp : pc + 3 = p) (hc : (Int16.ofInt k).toInt32 = Int32.ofInt c) (h : GG Z d m ret xp N p f (.int (Int32.ofInt c) :: st) ws C S) : GG Z d m ret xp (N + 1) pc f st ws C S :=
  g_st fun lv hl n hn => by unfold am_stp; rw [hd.2]; subst hp; exact (by rw [← hc] at h; exact h lv hl n hn)
theorem g_lconst {k : _} (c : Int) (p : Nat) (hd : GD m pc (.lconst k) 1) (hp : pc + 1 = p) (hc : Int64.ofNat (k : Nat) = Int64.ofInt c) (h : GG Z d m ret xp N p f (.long (Int64.ofInt c) :: st) ws C S) : GG Z d m ret xp (N + 1) pc f st ws C S :=
  g_st fun lv hl n hn => by unfold am_stp; rw [hd.2]; subst hp; exact (by rw [← hc] at h; exact h lv hl n hn)
theorem g_ldc {i p0 : Nat} (c : Int) (p : Nat) (hd : GD m pc (.ldc i) 2) (hp : pc + 2 = p) (hx : xlook i (xa (xo m)) = some (Int32.ofInt c, p0)) (h : GG Z d m ret xp N p f (.int (Int32.ofInt c) :: st) ws C S) : GG Z d m ret xp (N + 1) pc f st ws C S :=
  g_st fun lv hl n hn => by unfold am_stp; rw [hd.2]; subst hp; exact Or.inl ⟨_, xa_w hd.1 hx, h lv hl n hn⟩
theorem g_ldc_w {i p0 : Nat} (c : Int) (p : Nat) (hd : GD m pc (.ldc_w i) 3) (hp : pc + 3 = p) (hx : xlook i (xa (xo m)) = some (Int32.ofInt c, p0)) (h : GG Z d m ret xp N p f (.int (Int32.ofInt c) :: st) ws C S) : GG Z d m ret xp (N + 1) pc f st ws C S :=
  g_st fun lv hl n hn => by unfold am_stp; rw [hd.2]; subst hp; exact ⟨_, xa_w hd.1 hx, h lv hl n hn⟩
theorem g_ldc2_w {i p0 : Nat} (c : Int) (p : Nat) (hd : GD m pc (.ldc2_w i) 3) (hp : pc + 3 = p) (hx : xlook i (xb (xo m)) = some (Int64.ofInt c, p0)) (h : GG Z d m ret xp N p f (.long (Int64.ofInt c) :: st) ws C S) : GG Z d m ret xp (N + 1) pc f st ws C S :=
  g_st fun lv hl n hn => by unfold am_stp; rw [hd.2]; subst hp; exact ⟨_, xb_w hd.1 hx, h lv hl n hn⟩
theorem g_iload {k : _} {x : Int32} (p : Nat) (hd : GD m pc (.iload k) 2) (hp : pc + 2 = p) (hf : f k = some (.int x)) (h : GG Z d m ret xp N p f (.int x :: st) ws C S) : GG Z d m ret xp (N + 1) pc f st ws C S :=
  g_st fun lv hl n hn => by unfold am_stp; rw [hd.2]; subst hp; exact ⟨x, hl _ _ hf, h lv hl n hn⟩
theorem g_istore {k : _} {x : Int32} (p : Nat) (hd : GD m pc (.istore k) 2) (hp : pc + 2 = p) (hk : k < xn m) (h : GG Z d m ret xp N p (g1 k (.int x) f) r ws C S) : GG Z d m ret xp (N + 1) pc f (.int x :: r) ws C S :=
  g_st fun lv hl n hn => by unfold am_stp; rw [hd.2]; subst hp; exact ⟨x, r, rfl, hk, h _ (gl1 hl _ _) n hn⟩
theorem g_iload_n {k : _} {x : Int32} (p : Nat) (hd : GD m pc (.iload_n k) 1) (hp : pc + 1 = p) (hf : f (k : Nat) = some (.int x)) (h : GG Z d m ret xp N p f (.int x :: st) ws C S) : GG Z d m ret xp (N + 1) pc f st ws C S :=
  g_st fun lv hl n hn => by unfold am_stp; rw [hd.2]; subst hp; exact ⟨x, hl _ _ hf, h lv hl n hn⟩
theorem g_istore_n {k : _} {x : Int32} (p : Nat) (hd : GD m pc (.istore_n k) 1) (hp : pc + 1 = p) (hk : (k : Nat) < xn m) (h : GG Z d m ret xp N p (g1 (k : Nat) (.int x) f) r ws C S) : GG Z d m ret xp (N + 1) pc f (.int x :: r) ws C S :=
  g_st fun lv hl n hn => by unfold am_stp; rw [hd.2]; subst hp; exact ⟨x, r, rfl, hk, h _ (gl1 hl _ _) n hn⟩
theorem g_lload {k : _} {x : Int64} (p : Nat) (hd : GD m pc (.lload k) 2) (hp : pc + 2 = p) (hf : f k = some (.long x)) (h : GG Z d m ret xp N p f (.long x :: st) ws C S) : GG Z d m ret xp (N + 1) pc f st ws C S :=
  g_st fun lv hl n hn => by unfold am_stp; rw [hd.2]; subst hp; exact ⟨x, hl _ _ hf, h lv hl n hn⟩
theorem g_lstore {k : _} {x : Int64} (p : Nat) (hd : GD m pc (.lstore k) 2) (hp : pc + 2 = p) (hk : k + 1 < xn m) (h : GG Z d m ret xp N p (g2 k (.long x) f) r ws C S) : GG Z d m ret xp (N + 1) pc f (.long x :: r) ws C S :=
  g_st fun lv hl n hn => by unfold am_stp; rw [hd.2]; subst hp; exact ⟨x, r, rfl, hk, h _ (gl2 hl _ _) n hn⟩
theorem g_lload_n {k : _} {x : Int64} (p : Nat) (hd : GD m pc (.lload_n k) 1) (hp : pc + 1 = p) (hf : f (k : Nat) = some (.long x)) (h : GG Z d m ret xp N p f (.long x :: st) ws C S) : GG Z d m ret xp (N + 1) pc f st ws C S :=
  g_st fun lv hl n hn => by unfold am_stp; rw [hd.2]; subst hp; exact ⟨x, hl _ _ hf, h lv hl n hn⟩
theorem g_lstore_n {k : _} {x : Int64} (p : Nat) (hd : GD m pc (.lstore_n k) 1) (hp : pc + 1 = p) (hk : (k : Nat) + 1 < xn m) (h : GG Z d m ret xp N p (g2 (k : Nat) (.long x) f) r ws C S) : GG Z d m ret xp (N + 1) pc f (.long x :: r) ws C S :=
  g_st fun lv hl n hn => by unfold am_stp; rw [hd.2]; subst hp; exact ⟨x, r, rfl, hk, h _ (gl2 hl _ _) n hn⟩
theorem g_aload {k : _} {x : Nat} (p : Nat) (hd : GD m pc (.aload k) 2) (hp : pc + 2 = p) (hf : f k = some (.ref x)) (h : GG Z d m ret xp N p f (.ref x :: st) ws C S) : GG Z d m ret xp (N + 1) pc f st ws C S :=
  g_st fun lv hl n hn => by unfold am_stp; rw [hd.2]; subst hp; exact ⟨x, hl _ _ hf, h lv hl n hn⟩
theorem g_astore {k : _} {x : Nat} (p : Nat) (hd : GD m pc (.astore k) 2) (hp : pc + 2 = p) (hk : k < xn m) (h : GG Z d m ret xp N p (g1 k (.ref x) f) r ws C S) : GG Z d m ret xp (N + 1) pc f (.ref x :: r) ws C S :=
  g_st fun lv hl n hn => by unfold am_stp; rw [hd.2]; subst hp; exact ⟨x, r, rfl, hk, h _ (gl1 hl _ _) n hn⟩
theorem g_aload_n {k : _} {x : Nat} (p : Nat) (hd : GD m pc (.aload_n k) 1) (hp : pc + 1 = p) (hf : f (k : Nat) = some (.ref x)) (h : GG Z d m ret xp N p f (.ref x :: st) ws C S) : GG Z d m ret xp (N + 1) pc f st ws C S :=
  g_st fun lv hl n hn => by unfold am_stp; rw [hd.2]; subst hp; exact ⟨x, hl _ _ hf, h lv hl n hn⟩
theorem g_astore_n {k : _} {x : Nat} (p : Nat) (hd : GD m pc (.astore_n k) 1) (hp : pc + 1 = p) (hk : (k : Nat) < xn m) (h : GG Z d m ret xp N p (g1 (k : Nat) (.ref x) f) r ws C S) : GG Z d m ret xp (N + 1) pc f (.ref x :: r) ws C S :=
  g_st fun lv hl n hn => by unfold am_stp; rw [hd.2]; subst hp; exact ⟨x, r, rfl, hk, h _ (gl1 hl _ _) n hn⟩
theorem g_iinc {k : Nat} {a : Int} {x : Int32} (p : Nat) (hd : GD m pc (.iinc k a) 3) (hp : pc + 3 = p) (hf : f k = some (.int x)) (hk : k < xn m) (h : ∀ z, z = x + Int32.ofInt a → GG Z d m ret xp N p (g1 k (.int z) f) st ws C S) : GG Z d m ret xp (N + 1) pc f st ws C S :=
  g_st fun lv hl n hn => by unfold am_stp; rw [hd.2]; subst hp; exact ⟨x, hl _ _ hf, hk, h _ rfl _ (gl1 hl _ _) n hn⟩
theorem g_iadd {x y : Int32} (p : Nat) (hd : GD m pc (.iadd) 1) (hp : pc + 1 = p) (h : ∀ z, z = x + y → GG Z d m ret xp N p f (.int z :: r) ws C S) : GG Z d m ret xp (N + 1) pc f (.int y :: .int x :: r) ws C S :=
  g_st fun lv hl n hn => by unfold am_stp; rw [hd.2]; subst hp; exact ⟨x, y, r, rfl, h _ rfl lv hl n hn⟩
theorem g_isub {x y : Int32} (p : Nat) (hd : GD m pc (.isub) 1) (hp : pc + 1 = p) (h : ∀ z, z = x - y → GG Z d m ret xp N p f (.int z :: r) ws C S) : GG Z d m ret xp (N + 1) pc f (.int y :: .int x :: r) ws C S :=
  g_st fun lv hl n hn => by unfold am_stp; rw [hd.2]; subst hp; exact ⟨x, y, r, rfl, h _ rfl lv hl n hn⟩
theorem g_imul {x y : Int32} (p : Nat) (hd : GD m pc (.imul) 1) (hp : pc + 1 = p) (h : ∀ z, z = x * y → GG Z d m ret xp N p f (.int z :: r) ws C S) : GG Z d m ret xp (N + 1) pc f (.int y :: .int x :: r) ws C S :=
  g_st fun lv hl n hn => by unfold am_stp; rw [hd.2]; subst hp; exact ⟨x, y, r, rfl, h _ rfl lv hl n hn⟩
theorem g_iand {x y : Int32} (p : Nat) (hd : GD m pc (.iand) 1) (hp : pc + 1 = p) (h : ∀ z, z = x &&& y → GG Z d m ret xp N p f (.int z :: r) ws C S) : GG Z d m ret xp (N + 1) pc f (.int y :: .int x :: r) ws C S :=
  g_st fun lv hl n hn => by unfold am_stp; rw [hd.2]; subst hp; exact ⟨x, y, r, rfl, h _ rfl lv hl n hn⟩
theorem g_ior {x y : Int32} (p : Nat) (hd : GD m pc (.ior) 1) (hp : pc + 1 = p) (h : ∀ z, z = x ||| y → GG Z d m ret xp N p f (.int z :: r) ws C S) : GG Z d m ret xp (N + 1) pc f (.int y :: .int x :: r) ws C S :=
  g_st fun lv hl n hn => by unfold am_stp; rw [hd.2]; subst hp; exact ⟨x, y, r, rfl, h _ rfl lv hl n hn⟩
theorem g_ixor {x y : Int32} (p : Nat) (hd : GD m pc (.ixor) 1) (hp : pc + 1 = p) (h : ∀ z, z = x ^^^ y → GG Z d m ret xp N p f (.int z :: r) ws C S) : GG Z d m ret xp (N + 1) pc f (.int y :: .int x :: r) ws C S :=
  g_st fun lv hl n hn => by unfold am_stp; rw [hd.2]; subst hp; exact ⟨x, y, r, rfl, h _ rfl lv hl n hn⟩
theorem g_ishl {x y : Int32} (p : Nat) (hd : GD m pc (.ishl) 1) (hp : pc + 1 = p) (h : ∀ z, z = x <<< (y &&& 31) → GG Z d m ret xp N p f (.int z :: r) ws C S) : GG Z d m ret xp (N + 1) pc f (.int y :: .int x :: r) ws C S :=
  g_st fun lv hl n hn => by unfold am_stp; rw [hd.2]; subst hp; exact ⟨x, y, r, rfl, h _ rfl lv hl n hn⟩
theorem g_ishr {x y : Int32} (p : Nat) (hd : GD m pc (.ishr) 1) (hp : pc + 1 = p) (h : ∀ z, z = x >>> (y &&& 31) → GG Z d m ret xp N p f (.int z :: r) ws C S) : GG Z d m ret xp (N + 1) pc f (.int y :: .int x :: r) ws C S :=
  g_st fun lv hl n hn => by unfold am_stp; rw [hd.2]; subst hp; exact ⟨x, y, r, rfl, h _ rfl lv hl n hn⟩
theorem g_iushr {x y : Int32} (p : Nat) (hd : GD m pc (.iushr) 1) (hp : pc + 1 = p) (h : ∀ z, z = (x.toUInt32 >>> (y.toUInt32 &&& Int32.toUInt32 31)).toInt32 → GG Z d m ret xp N p f (.int z :: r) ws C S) : GG Z d m ret xp (N + 1) pc f (.int y :: .int x :: r) ws C S :=
  g_st fun lv hl n hn => by unfold am_stp; rw [hd.2]; subst hp; exact ⟨x, y, r, rfl, h _ rfl lv hl n hn⟩
theorem g_idiv {x y : Int32} (p : Nat) (hd : GD m pc (.idiv) 1) (hp : pc + 1 = p) (h0 : ¬ y = 0) (h : ∀ z, z = x / y → GG Z d m ret xp N p f (.int z :: r) ws C S) : GG Z d m ret xp (N + 1) pc f (.int y :: .int x :: r) ws C S :=
  g_st fun lv hl n hn => by unfold am_stp; rw [hd.2]; subst hp; exact ⟨x, y, r, rfl, h0, h _ rfl lv hl n hn⟩
theorem g_irem {x y : Int32} (p : Nat) (hd : GD m pc (.irem) 1) (hp : pc + 1 = p) (h0 : ¬ y = 0) (h : ∀ z, z = x - x / y * y → GG Z d m ret xp N p f (.int z :: r) ws C S) : GG Z d m ret xp (N + 1) pc f (.int y :: .int x :: r) ws C S :=
  g_st fun lv hl n hn => by unfold am_stp; rw [hd.2]; subst hp; exact ⟨x, y, r, rfl, h0, h _ rfl lv hl n hn⟩
theorem g_ladd {x y : Int64} (p : Nat) (hd : GD m pc (.ladd) 1) (hp : pc + 1 = p) (h : ∀ z, z = x + y → GG Z d m ret xp N p f (.long z :: r) ws C S) : GG Z d m ret xp (N + 1) pc f (.long y :: .long x :: r) ws C S :=
  g_st fun lv hl n hn => by unfold am_stp; rw [hd.2]; subst hp; exact ⟨x, y, r, rfl, h _ rfl lv hl n hn⟩
theorem g_lsub {x y : Int64} (p : Nat) (hd : GD m pc (.lsub) 1) (hp : pc + 1 = p) (h : ∀ z, z = x - y → GG Z d m ret xp N p f (.long z :: r) ws C S) : GG Z d m ret xp (N + 1) pc f (.long y :: .long x :: r) ws C S :=
  g_st fun lv hl n hn => by unfold am_stp; rw [hd.2]; subst hp; exact ⟨x, y, r, rfl, h _ rfl lv hl n hn⟩
theorem g_lmul {x y : Int64} (p : Nat) (hd : GD m pc (.lmul) 1) (hp : pc + 1 = p) (h : ∀ z, z = x * y → GG Z d m ret xp N p f (.long z :: r) ws C S) : GG Z d m ret xp (N + 1) pc f (.long y :: .long x :: r) ws C S :=
  g_st fun lv hl n hn => by unfold am_stp; rw [hd.2]; subst hp; exact ⟨x, y, r, rfl, h _ rfl lv hl n hn⟩
theorem g_land {x y : Int64} (p : Nat) (hd : GD m pc (.land) 1) (hp : pc + 1 = p) (h : ∀ z, z = x &&& y → GG Z d m ret xp N p f (.long z :: r) ws C S) : GG Z d m ret xp (N + 1) pc f (.long y :: .long x :: r) ws C S :=
  g_st fun lv hl n hn => by unfold am_stp; rw [hd.2]; subst hp; exact ⟨x, y, r, rfl, h _ rfl lv hl n hn⟩
theorem g_lor {x y : Int64} (p : Nat) (hd : GD m pc (.lor) 1) (hp : pc + 1 = p) (h : ∀ z, z = x ||| y → GG Z d m ret xp N p f (.long z :: r) ws C S) : GG Z d m ret xp (N + 1) pc f (.long y :: .long x :: r) ws C S :=
  g_st fun lv hl n hn => by unfold am_stp; rw [hd.2]; subst hp; exact ⟨x, y, r, rfl, h _ rfl lv hl n hn⟩
theorem g_lxor {x y : Int64} (p : Nat) (hd : GD m pc (.lxor) 1) (hp : pc + 1 = p) (h : ∀ z, z = x ^^^ y → GG Z d m ret xp N p f (.long z :: r) ws C S) : GG Z d m ret xp (N + 1) pc f (.long y :: .long x :: r) ws C S :=
  g_st fun lv hl n hn => by unfold am_stp; rw [hd.2]; subst hp; exact ⟨x, y, r, rfl, h _ rfl lv hl n hn⟩
theorem g_ldiv {x y : Int64} (p : Nat) (hd : GD m pc (.ldiv) 1) (hp : pc + 1 = p) (h0 : ¬ y = 0) (h : ∀ z, z = x / y → GG Z d m ret xp N p f (.long z :: r) ws C S) : GG Z d m ret xp (N + 1) pc f (.long y :: .long x :: r) ws C S :=
  g_st fun lv hl n hn => by unfold am_stp; rw [hd.2]; subst hp; exact ⟨x, y, r, rfl, h0, h _ rfl lv hl n hn⟩
theorem g_lrem {x y : Int64} (p : Nat) (hd : GD m pc (.lrem) 1) (hp : pc + 1 = p) (h0 : ¬ y = 0) (h : ∀ z, z = x - x / y * y → GG Z d m ret xp N p f (.long z :: r) ws C S) : GG Z d m ret xp (N + 1) pc f (.long y :: .long x :: r) ws C S :=
  g_st fun lv hl n hn => by unfold am_stp; rw [hd.2]; subst hp; exact ⟨x, y, r, rfl, h0, h _ rfl lv hl n hn⟩
theorem g_lshl {x : Int64} {y : Int32} (p : Nat) (hd : GD m pc (.lshl) 1) (hp : pc + 1 = p) (h : ∀ z, z = x <<< (y.toInt64 &&& 63) → GG Z d m ret xp N p f (.long z :: r) ws C S) : GG Z d m ret xp (N + 1) pc f (.int y :: .long x :: r) ws C S :=
  g_st fun lv hl n hn => by unfold am_stp; rw [hd.2]; subst hp; exact ⟨x, y, r, rfl, h _ rfl lv hl n hn⟩
theorem g_lshr {x : Int64} {y : Int32} (p : Nat) (hd : GD m pc (.lshr) 1) (hp : pc + 1 = p) (h : ∀ z, z = x >>> (y.toInt64 &&& 63) → GG Z d m ret xp N p f (.long z :: r) ws C S) : GG Z d m ret xp (N + 1) pc f (.int y :: .long x :: r) ws C S :=
  g_st fun lv hl n hn => by unfold am_stp; rw [hd.2]; subst hp; exact ⟨x, y, r, rfl, h _ rfl lv hl n hn⟩
theorem g_lushr {x : Int64} {y : Int32} (p : Nat) (hd : GD m pc (.lushr) 1) (hp : pc + 1 = p) (h : ∀ z, z = (x.toUInt64 >>> (y.toInt64.toUInt64 &&& Int64.toUInt64 63)).toInt64 → GG Z d m ret xp N p f (.long z :: r) ws C S) : GG Z d m ret xp (N + 1) pc f (.int y :: .long x :: r) ws C S :=
  g_st fun lv hl n hn => by unfold am_stp; rw [hd.2]; subst hp; exact ⟨x, y, r, rfl, h _ rfl lv hl n hn⟩
theorem g_lcmp {x y : Int64} (p : Nat) (hd : GD m pc (.lcmp) 1) (hp : pc + 1 = p) (h : ∀ z, z = lg_cmp x y → GG Z d m ret xp N p f (.int z :: r) ws C S) : GG Z d m ret xp (N + 1) pc f (.long y :: .long x :: r) ws C S :=
  g_st fun lv hl n hn => by unfold am_stp; rw [hd.2]; subst hp; exact ⟨x, y, r, rfl, h _ rfl lv hl n hn⟩
theorem g_ineg {x : Int32} (p : Nat) (hd : GD m pc (.ineg) 1) (hp : pc + 1 = p) (h : ∀ z, z = -x → GG Z d m ret xp N p f (.int z :: r) ws C S) : GG Z d m ret xp (N + 1) pc f (.int x :: r) ws C S :=
  g_st fun lv hl n hn => by unfold am_stp; rw [hd.2]; subst hp; exact ⟨x, r, rfl, h _ rfl lv hl n hn⟩
theorem g_lneg {x : Int64} (p : Nat) (hd : GD m pc (.lneg) 1) (hp : pc + 1 = p) (h : ∀ z, z = -x → GG Z d m ret xp N p f (.long z :: r) ws C S) : GG Z d m ret xp (N + 1) pc f (.long x :: r) ws C S :=
  g_st fun lv hl n hn => by unfold am_stp; rw [hd.2]; subst hp; exact ⟨x, r, rfl, h _ rfl lv hl n hn⟩
theorem g_i2l {x : Int32} (p : Nat) (hd : GD m pc (.i2l) 1) (hp : pc + 1 = p) (h : ∀ z, z = x.toInt64 → GG Z d m ret xp N p f (.long z :: r) ws C S) : GG Z d m ret xp (N + 1) pc f (.int x :: r) ws C S :=
  g_st fun lv hl n hn => by unfold am_stp; rw [hd.2]; subst hp; exact ⟨x, r, rfl, h _ rfl lv hl n hn⟩
theorem g_l2i {x : Int64} (p : Nat) (hd : GD m pc (.l2i) 1) (hp : pc + 1 = p) (h : ∀ z, z = x.toInt32 → GG Z d m ret xp N p f (.int z :: r) ws C S) : GG Z d m ret xp (N + 1) pc f (.long x :: r) ws C S :=
  g_st fun lv hl n hn => by unfold am_stp; rw [hd.2]; subst hp; exact ⟨x, r, rfl, h _ rfl lv hl n hn⟩
theorem g_i2c {x : Int32} (p : Nat) (hd : GD m pc (.i2c) 1) (hp : pc + 1 = p) (h : ∀ z, z = (x.toUInt32 % 65536).toInt32 → GG Z d m ret xp N p f (.int z :: r) ws C S) : GG Z d m ret xp (N + 1) pc f (.int x :: r) ws C S :=
  g_st fun lv hl n hn => by unfold am_stp; rw [hd.2]; subst hp; exact ⟨x, r, rfl, h _ rfl lv hl n hn⟩
theorem g_dup {v : Value} (p : Nat) (hd : GD m pc (.dup) 1) (hp : pc + 1 = p) (hv : v.category = 1) (h : GG Z d m ret xp N p f (v :: v :: r) ws C S) : GG Z d m ret xp (N + 1) pc f (v :: r) ws C S :=
  g_st fun lv hl n hn => by unfold am_stp; rw [hd.2]; subst hp; exact ⟨v, r, rfl, hv, h lv hl n hn⟩
theorem g_pop {v : Value} (p : Nat) (hd : GD m pc (.pop) 1) (hp : pc + 1 = p) (hv : v.category = 1) (h : GG Z d m ret xp N p f r ws C S) : GG Z d m ret xp (N + 1) pc f (v :: r) ws C S :=
  g_st fun lv hl n hn => by unfold am_stp; rw [hd.2]; subst hp; exact ⟨v, r, rfl, hv, h lv hl n hn⟩
theorem g_pop2 {v : Value} (p : Nat) (hd : GD m pc (.pop2) 1) (hp : pc + 1 = p) (hv : v.category = 2) (h : GG Z d m ret xp N p f r ws C S) : GG Z d m ret xp (N + 1) pc f (v :: r) ws C S :=
  g_st fun lv hl n hn => by unfold am_stp; rw [hd.2]; subst hp; exact ⟨v, r, rfl, hv, h lv hl n hn⟩
theorem g_dup2 {v v2 : Value} (p : Nat) (hd : GD m pc (.dup2) 1) (hp : pc + 1 = p) (hv : v.category = 1) (hv2 : v2.category = 1) (h : GG Z d m ret xp N p f (v :: v2 :: v :: v2 :: r) ws C S) : GG Z d m ret xp (N + 1) pc f (v :: v2 :: r) ws C S :=
  g_st fun lv hl n hn => by unfold am_stp; rw [hd.2]; subst hp; exact ⟨v, v2, r, rfl, hv, hv2, h lv hl n hn⟩
theorem gj {pc t : Nat} {o : Int} (h : (pc : Int) + o = (t : Int)) : 0 ≤ (pc : Int) + o ∧ ((pc : Int) + o).toNat = t := by
  rw [h]
  exact ⟨Int.natCast_nonneg t, Int.toNat_natCast t⟩
theorem i_lt {x y : Int32} : x < y ↔ x.toInt < y.toInt := Int32.lt_iff_toInt_lt
theorem i_le {x y : Int32} : x ≤ y ↔ x.toInt ≤ y.toInt := Int32.le_iff_toInt_le
theorem i_eq {x y : Int32} : x = y ↔ x.toInt = y.toInt := Int32.toInt_inj.symm
theorem g_if_eq {x : Int32} {o : Int} (p t : Nat) (hd : GD m pc (.ifCond .eq o) 3) (hp : pc + 3 = p) (ht : (pc : Int) + o = (t : Int)) (h1 : x.toInt = 0 → GG Z d m ret xp N t f r ws C S) (h2 : x.toInt ≠ 0 → GG Z d m ret xp N p f r ws C S) : GG Z d m ret xp (N + 1) pc f (.int x :: r) ws C S :=
  g_st fun lv hl n hn => by unfold am_stp; rw [hd.2]; subst hp; exact ⟨x, r, rfl, (gj ht).1, fun c => by rw [(gj ht).2]; exact h1 (i_eq.mp c) lv hl n hn, fun c => h2 (fun e => c (i_eq.mpr e)) lv hl n hn⟩
theorem g_if_ne {x : Int32} {o : Int} (p t : Nat) (hd : GD m pc (.ifCond .ne o) 3) (hp : pc + 3 = p) (ht : (pc : Int) + o = (t : Int)) (h1 : x.toInt ≠ 0 → GG Z d m ret xp N t f r ws C S) (h2 : x.toInt = 0 → GG Z d m ret xp N p f r ws C S) : GG Z d m ret xp (N + 1) pc f (.int x :: r) ws C S :=
  g_st fun lv hl n hn => by unfold am_stp; rw [hd.2]; subst hp; exact ⟨x, r, rfl, (gj ht).1, fun c => by rw [(gj ht).2]; exact h1 (fun e => c (i_eq.mpr e)) lv hl n hn, fun c => h2 (i_eq.mp c) lv hl n hn⟩
theorem g_if_lt {x : Int32} {o : Int} (p t : Nat) (hd : GD m pc (.ifCond .lt o) 3) (hp : pc + 3 = p) (ht : (pc : Int) + o = (t : Int)) (h1 : x.toInt < 0 → GG Z d m ret xp N t f r ws C S) (h2 : 0 ≤ x.toInt → GG Z d m ret xp N p f r ws C S) : GG Z d m ret xp (N + 1) pc f (.int x :: r) ws C S :=
  g_st fun lv hl n hn => by unfold am_stp; rw [hd.2]; subst hp; exact ⟨x, r, rfl, (gj ht).1, fun c => by rw [(gj ht).2]; exact h1 (i_lt.mp c) lv hl n hn, fun c => h2 (Int.not_lt.mp fun e => c (i_lt.mpr e)) lv hl n hn⟩
theorem g_if_ge {x : Int32} {o : Int} (p t : Nat) (hd : GD m pc (.ifCond .ge o) 3) (hp : pc + 3 = p) (ht : (pc : Int) + o = (t : Int)) (h1 : 0 ≤ x.toInt → GG Z d m ret xp N t f r ws C S) (h2 : x.toInt < 0 → GG Z d m ret xp N p f r ws C S) : GG Z d m ret xp (N + 1) pc f (.int x :: r) ws C S :=
  g_st fun lv hl n hn => by unfold am_stp; rw [hd.2]; subst hp; exact ⟨x, r, rfl, (gj ht).1, fun c => by rw [(gj ht).2]; exact h1 (i_le.mp c) lv hl n hn, fun c => h2 (Int.not_le.mp fun e => c (i_le.mpr e)) lv hl n hn⟩
theorem g_if_gt {x : Int32} {o : Int} (p t : Nat) (hd : GD m pc (.ifCond .gt o) 3) (hp : pc + 3 = p) (ht : (pc : Int) + o = (t : Int)) (h1 : 0 < x.toInt → GG Z d m ret xp N t f r ws C S) (h2 : x.toInt ≤ 0 → GG Z d m ret xp N p f r ws C S) : GG Z d m ret xp (N + 1) pc f (.int x :: r) ws C S :=
  g_st fun lv hl n hn => by unfold am_stp; rw [hd.2]; subst hp; exact ⟨x, r, rfl, (gj ht).1, fun c => by rw [(gj ht).2]; exact h1 (i_lt.mp c) lv hl n hn, fun c => h2 (Int.not_lt.mp fun e => c (i_lt.mpr e)) lv hl n hn⟩
theorem g_if_le {x : Int32} {o : Int} (p t : Nat) (hd : GD m pc (.ifCond .le o) 3) (hp : pc + 3 = p) (ht : (pc : Int) + o = (t : Int)) (h1 : x.toInt ≤ 0 → GG Z d m ret xp N t f r ws C S) (h2 : 0 < x.toInt → GG Z d m ret xp N p f r ws C S) : GG Z d m ret xp (N + 1) pc f (.int x :: r) ws C S :=
  g_st fun lv hl n hn => by unfold am_stp; rw [hd.2]; subst hp; exact ⟨x, r, rfl, (gj ht).1, fun c => by rw [(gj ht).2]; exact h1 (i_le.mp c) lv hl n hn, fun c => h2 (Int.not_le.mp fun e => c (i_le.mpr e)) lv hl n hn⟩
theorem g_cmp_eq {x y : Int32} {o : Int} (p t : Nat) (hd : GD m pc (.if_icmp .eq o) 3) (hp : pc + 3 = p) (ht : (pc : Int) + o = (t : Int)) (h1 : x.toInt = y.toInt → GG Z d m ret xp N t f r ws C S) (h2 : x.toInt ≠ y.toInt → GG Z d m ret xp N p f r ws C S) : GG Z d m ret xp (N + 1) pc f (.int y :: .int x :: r) ws C S :=
  g_st fun lv hl n hn => by unfold am_stp; rw [hd.2]; subst hp; exact ⟨x, y, r, rfl, (gj ht).1, fun c => by rw [(gj ht).2]; exact h1 (i_eq.mp c) lv hl n hn, fun c => h2 (fun e => c (i_eq.mpr e)) lv hl n hn⟩
theorem g_cmp_ne {x y : Int32} {o : Int} (p t : Nat) (hd : GD m pc (.if_icmp .ne o) 3) (hp : pc + 3 = p) (ht : (pc : Int) + o = (t : Int)) (h1 : x.toInt ≠ y.toInt → GG Z d m ret xp N t f r ws C S) (h2 : x.toInt = y.toInt → GG Z d m ret xp N p f r ws C S) : GG Z d m ret xp (N + 1) pc f (.int y :: .int x :: r) ws C S :=
  g_st fun lv hl n hn => by unfold am_stp; rw [hd.2]; subst hp; exact ⟨x, y, r, rfl, (gj ht).1, fun c => by rw [(gj ht).2]; exact h1 (fun e => c (i_eq.mpr e)) lv hl n hn, fun c => h2 (i_eq.mp c) lv hl n hn⟩
theorem g_cmp_lt {x y : Int32} {o : Int} (p t : Nat) (hd : GD m pc (.if_icmp .lt o) 3) (hp : pc + 3 = p) (ht : (pc : Int) + o = (t : Int)) (h1 : x.toInt < y.toInt → GG Z d m ret xp N t f r ws C S) (h2 : y.toInt ≤ x.toInt → GG Z d m ret xp N p f r ws C S) : GG Z d m ret xp (N + 1) pc f (.int y :: .int x :: r) ws C S :=
  g_st fun lv hl n hn => by unfold am_stp; rw [hd.2]; subst hp; exact ⟨x, y, r, rfl, (gj ht).1, fun c => by rw [(gj ht).2]; exact h1 (i_lt.mp c) lv hl n hn, fun c => h2 (Int.not_lt.mp fun e => c (i_lt.mpr e)) lv hl n hn⟩
theorem g_cmp_ge {x y : Int32} {o : Int} (p t : Nat) (hd : GD m pc (.if_icmp .ge o) 3) (hp : pc + 3 = p) (ht : (pc : Int) + o = (t : Int)) (h1 : y.toInt ≤ x.toInt → GG Z d m ret xp N t f r ws C S) (h2 : x.toInt < y.toInt → GG Z d m ret xp N p f r ws C S) : GG Z d m ret xp (N + 1) pc f (.int y :: .int x :: r) ws C S :=
  g_st fun lv hl n hn => by unfold am_stp; rw [hd.2]; subst hp; exact ⟨x, y, r, rfl, (gj ht).1, fun c => by rw [(gj ht).2]; exact h1 (i_le.mp c) lv hl n hn, fun c => h2 (Int.not_le.mp fun e => c (i_le.mpr e)) lv hl n hn⟩
theorem g_cmp_gt {x y : Int32} {o : Int} (p t : Nat) (hd : GD m pc (.if_icmp .gt o) 3) (hp : pc + 3 = p) (ht : (pc : Int) + o = (t : Int)) (h1 : y.toInt < x.toInt → GG Z d m ret xp N t f r ws C S) (h2 : x.toInt ≤ y.toInt → GG Z d m ret xp N p f r ws C S) : GG Z d m ret xp (N + 1) pc f (.int y :: .int x :: r) ws C S :=
  g_st fun lv hl n hn => by unfold am_stp; rw [hd.2]; subst hp; exact ⟨x, y, r, rfl, (gj ht).1, fun c => by rw [(gj ht).2]; exact h1 (i_lt.mp c) lv hl n hn, fun c => h2 (Int.not_lt.mp fun e => c (i_lt.mpr e)) lv hl n hn⟩
theorem g_cmp_le {x y : Int32} {o : Int} (p t : Nat) (hd : GD m pc (.if_icmp .le o) 3) (hp : pc + 3 = p) (ht : (pc : Int) + o = (t : Int)) (h1 : x.toInt ≤ y.toInt → GG Z d m ret xp N t f r ws C S) (h2 : y.toInt < x.toInt → GG Z d m ret xp N p f r ws C S) : GG Z d m ret xp (N + 1) pc f (.int y :: .int x :: r) ws C S :=
  g_st fun lv hl n hn => by unfold am_stp; rw [hd.2]; subst hp; exact ⟨x, y, r, rfl, (gj ht).1, fun c => by rw [(gj ht).2]; exact h1 (i_le.mp c) lv hl n hn, fun c => h2 (Int.not_le.mp fun e => c (i_le.mpr e)) lv hl n hn⟩
theorem g_goto {o : Int} (t : Nat) (hd : GD m pc (.goto o) 3) (ht : (pc : Int) + o = (t : Int)) (h : GG Z d m ret xp N t f st ws C S) : GG Z d m ret xp (N + 1) pc f st ws C S :=
  g_st fun lv hl n hn => by unfold am_stp; rw [hd.2]; exact ⟨(gj ht).1, by rw [(gj ht).2]; exact h lv hl n hn⟩
theorem g_ireturn {x : Int32} {ty : FieldType} (hd : GD m pc .ireturn 1) (hr : xr m = some ty) (hn : narrow ty (.int x) = .int x) (h : ret (some (.int x)) ws) : GG Z d m ret xp (N + 1) pc f [.int x] ws C S :=
  g_st fun lv hl n _ => by unfold am_stp; rw [hd.2]; exact ⟨x, ty, rfl, hr, hn, h⟩
theorem g_lreturn {x : Int64} (hd : GD m pc .lreturn 1) (hr : xr m = some .long) (h : ret (some (.long x)) ws) : GG Z d m ret xp (N + 1) pc f [.long x] ws C S :=
  g_st fun lv hl n _ => by unfold am_stp; rw [hd.2]; exact ⟨x, rfl, hr, h⟩
theorem g_return (hd : GD m pc .return_ 1) (hr : xr m = none) (h : ret none ws) : GG Z d m ret xp (N + 1) pc f [] ws C S :=
  g_st fun lv hl n _ => by unfold am_stp; rw [hd.2]; exact ⟨rfl, hr, h⟩
theorem g_areturn {a : Nat} {c : String} (hd : GD m pc .areturn 1) (hr : xr m = some (.object c)) (h : ret (some (.ref a)) ws) : GG Z d m ret xp (N + 1) pc f [.ref a] ws C S :=
  g_st fun lv hl n _ => by unfold am_stp; rw [hd.2]; exact ⟨a, _, rfl, hr, Or.inl ⟨c, rfl⟩, h⟩
/-- a switch by a table: the cases one by one -/
def GT (Z : AmZ) (d m : Nat) (ret : AmR) (xp : GX) (N : Nat) (f : Nat → Option Value) (r : List Value) (ws : va_W) (C S : Nat) (x : Int32) : Int → List Nat → Prop
  | _, [] => True
  | v, t :: ts => (x.toInt = v → GG Z d m ret xp N t f r ws C S) ∧ GT Z d m ret xp N f r ws C S x (v + 1) ts
theorem gt_at {x : Int32} : ∀ {v : Int} {ts : List Nat}, GT Z d m ret xp N f r ws C S x v ts → ∀ {j t : Nat}, ts[j]? = some t → x.toInt = v + j → GG Z d m ret xp N t f r ws C S
  | v, [], _, j, t, h, _ => by cases h
  | v, t0 :: ts, g, 0, t, h, hx => by
    have h : some t0 = some t := h
    cases h
    exact g.1 (by rw [hx]; omega)
  | v, t0 :: ts, g, j + 1, t, h, hx => gt_at g.2 (j := j) h (by rw [hx]; omega)
/-- a switch by keys -/
def GU (Z : AmZ) (d m : Nat) (ret : AmR) (xp : GX) (N : Nat) (f : Nat → Option Value) (r : List Value) (ws : va_W) (C S : Nat) (x : Int32) (td : Nat) : List (Int × Nat) → Prop
  | [] => GG Z d m ret xp N td f r ws C S
  | q :: cs => (x.toInt = q.1 → GG Z d m ret xp N q.2 f r ws C S) ∧ (x.toInt ≠ q.1 → GU Z d m ret xp N f r ws C S x td cs)
theorem gu_at {x : Int32} {df : Int} {td : Nat} (htd : (pc : Int) + df = (td : Int)) : ∀ {ps : List (Int × Int)} {cs : List (Int × Nat)}, ps.map (fun q => (q.1, (pc : Int) + q.2)) = cs.map (fun q => (q.1, (q.2 : Int))) → GU Z d m ret xp N f r ws C S x td cs → ∃ t : Nat, (pc : Int) + Op.lookupswitch.offset ps df x.toInt = (t : Int) ∧ GG Z d m ret xp N t f r ws C S
  | [], [], _, g => ⟨td, htd, g⟩
  | [], _ :: _, h, _ => by cases h
  | _ :: _, [], h, _ => by cases h
  | (a, o) :: ps, (b, t) :: cs, h, g => by
    rw [List.map_cons, List.map_cons] at h
    obtain ⟨h1, h2⟩ := List.cons.inj h
    have h3 : a = b := congrArg Prod.fst h1
    have h4 : (pc : Int) + o = (t : Int) := congrArg Prod.snd h1
    by_cases e : a = x.toInt
    · refine ⟨t, ?_, g.1 (by rw [← e]; exact h3)⟩
      show (pc : Int) + (if a = x.toInt then o else _) = _
      rw [if_pos e, h4]
    · obtain ⟨t2, k1, k2⟩ := gu_at htd h2 (g.2 (fun z => e (by rw [h3]; exact z.symm)))
      refine ⟨t2, ?_, k2⟩
      show (pc : Int) + (if a = x.toInt then o else _) = _
      rw [if_neg e]
      exact k1
theorem g_lsw {x : Int32} {df : Int} {ps : Array (Int × Int)} {len : Nat} (cs : List (Int × Nat)) (td : Nat) (hd : GD m pc (.lookupswitch df ps) len) (hcs : ps.toList.map (fun q => (q.1, (pc : Int) + q.2)) = cs.map (fun q => (q.1, (q.2 : Int)))) (hs : (ps.toList.zip (ps.toList.drop 1)).all (fun (a, next) => a.1 < next.1) = true) (htd : (pc : Int) + df = (td : Int)) (h : GU Z d m ret xp N f r ws C S x td cs) : GG Z d m ret xp (N + 1) pc f (.int x :: r) ws C S := by
  obtain ⟨t, h1, h2⟩ := gu_at htd hcs h
  refine g_st fun lv hlv n hn => ?_
  unfold am_stp
  rw [hd.2]
  refine ⟨x, r, rfl, hs, (gj h1).1, ?_⟩
  rw [(gj h1).2]
  exact h2 lv hlv n hn
theorem g_tsw {x : Int32} {df lo hi : Int} {os : Array Int} {len : Nat} (ts : List Nat) (td : Nat) (hd : GD m pc (.tableswitch df lo hi os) len) (hts : os.toList.map (fun o => (pc : Int) + o) = ts.map (fun t : Nat => (t : Int))) (hsz : hi - lo + 1 = (ts.length : Int)) (htd : (pc : Int) + df = (td : Int)) (h1 : GT Z d m ret xp N f r ws C S x lo ts) (h2 : (x.toInt < lo ∨ hi < x.toInt) → GG Z d m ret xp N td f r ws C S) : GG Z d m ret xp (N + 1) pc f (.int x :: r) ws C S := by
  have ht : ∀ (j : Nat) (o : Int), os[j]? = some o → ∃ t : Nat, ts[j]? = some t ∧ (pc : Int) + o = (t : Int) := by
    intro j o ho
    have e := congrArg (fun l => l[j]?) hts
    simp only [List.getElem?_map, Array.getElem?_toList, ho, Option.map_some] at e
    cases hj : ts[j]? with
    | none => rw [hj] at e; cases e
    | some t => rw [hj] at e; exact ⟨t, rfl, Option.some.inj e⟩
  have hl : os.size = ts.length := by
    have e := congrArg List.length hts
    rw [List.length_map, List.length_map, Array.length_toList] at e
    exact e
  refine g_st fun lv hlv n hn => ?_
  unfold am_stp
  rw [hd.2]
  refine ⟨x, r, rfl, fun o c1 c2 ho => ?_, fun c1 c2 => ?_, fun c => ?_⟩
  · obtain ⟨t, h3, h4⟩ := ht _ _ ho
    refine ⟨(gj h4).1, ?_⟩
    rw [(gj h4).2]
    exact gt_at h1 h3 (by omega) lv hlv n hn
  · rw [Array.getElem?_eq_getElem (by omega)]
    rfl
  · refine ⟨(gj htd).1, ?_⟩
    rw [(gj htd).2]
    exact h2 c lv hlv n hn
/-- the body of an ordinary method, entered -/
theorem g_enter {k : Nat} {as : List Value} {mc ms : Nat} {X : AmX} (h0 : 0 < k) (hk : k < xm_n) (hk0 : xk k = 0) (hlen : (lg_sl as).length ≤ xn k) (h : GG Z d k ret (gx X) N 0 (fun j => xlook j (lv_args 0 as)) [] ws mc ms) : am_wp Z am_leaf (d + 1) (xy k) as ws mc ms ret X := by
  obtain ⟨c1, c2, c3, -, c5, -, -, -, -, -, c11⟩ := xm_w h0 hk
  refine Or.inr ⟨xc k, xn k, xr k, N, c5 hk0, c1, hlen, c2, ?_⟩
  have g := h (lv_args 0 as) (fun i v hv => xlook_mem hv) N (Nat.le_refl N)
  rw [← c3, c11] at g
  exact g
/-- what a method promises of a call: P of what it answers and leaves -/
def GC (Z : AmZ) (d k : Nat) (as : List Value) (ws : va_W) (mc ms : Nat) (P : AmR) (X : AmX) : Prop := ∀ (post : AmR) (xp : AmX), (∀ v u, P v u → post v u) → (∀ e u, X e u → xp e u) → am_wp Z am_leaf d (xy k) as ws mc ms post xp
def g_no : AmX := fun _ _ => False
theorem g_callv {i k nn p0 b q : Nat} {As st fs : List Value} {mc ms : Nat} {P : AmR} {X Y : AmX} (p : Nat) (hd : GD m pc (.invokevirtual i) 3) (hp : pc + 3 = p) (hl : xlD (xo m) i = some (k, nn, p0, 0)) (hk : (Nat.blt 0 k && Nat.blt k 1000 && Nat.beq (xk k) 0 && Nat.beq (xsta k) 0 && !(xin k)) = true) (hst : st = As.reverse ++ .ref b :: r) (hn : As.length = nn) (hq : ws[q]? = some (b, .inr (xo k, fs))) (hr : (r.map fun v => v.category).sum ≤ 8) (hC : mc ≤ C) (hS : ms ≤ S)
    (hc : GC Z d k (.ref b :: As) ws mc ms P Y) (hY : ∀ e u, Y e u → X e u) (h : ∀ v u, P v u → GG Z d m ret (gx X) N p f (v.toList ++ r) u (C - mc) (S - ms)) : GG Z d m ret (gx X) (N + 1) pc f st ws C S := by
  simp only [Bool.and_eq_true] at hk
  obtain ⟨⟨⟨⟨k1, k2⟩, k3⟩, k4⟩, k5⟩ := hk
  have k1 := Nat.lt_of_lt_of_le Nat.zero_lt_one (Nat.le_of_ble_eq_true k1)
  have k2 : k < 1000 := Nat.le_of_ble_eq_true k2
  have k3 := Nat.eq_of_beq_eq_true k3
  have k4 := Nat.eq_of_beq_eq_true k4
  obtain ⟨l1, l2, l3, -⟩ := xl_w hd.1 hl k2
  obtain ⟨-, -, c3, c4, -, -, -, c8, c9, c10, -⟩ := xm_w k1 l1
  refine g_st fun lv hlv n hn2 => ?_
  unfold am_stp
  rw [hd.2]
  subst hp
  have hxo : xo k < 13 := xins_all k1 l1 k4
  obtain ⟨T, NN, hT⟩ : ∃ T NN, vwCl[xo k]? = some ((xy k).cls, T, NN) := by
    have e : (xo k) < vwCl.length := by
      have : vwCl.length = 13 := by decide +kernel
      omega
    obtain ⟨⟨Cn, T, NN⟩, hv⟩ : ∃ q, vwCl[xo k]? = some q := ⟨_, List.getElem?_eq_getElem e⟩
    refine ⟨T, NN, ?_⟩
    rw [hv, c3, ← (xcls_all hv).1]
  refine Or.inl ⟨xy k, b, As, r, mc, ms, q, xo k, fs, T, NN, hst, ⟨c4.1, c4.2, by rw [l2, hn]⟩, l3 rfl, c8 (by rw [k4]; decide), c10 k4 (by cases hx : xin k with
    | true => rw [hx] at k5; cases k5
    | false => rfl), c9, hq, hT, hr, hC, hS, ?_⟩
  exact hc _ _ (fun v u hv => h v u hv lv hlv n hn2) hY
theorem g_calls {i k nn p0 w0 : Nat} {As st : List Value} {mc ms : Nat} {P : AmR} (p : Nat) (hd : GD m pc (.invokestatic i) 3) (hp : pc + 3 = p) (hl : xlD (xo m) i = some (k, nn, p0, w0)) (hk : (Nat.blt 0 k && Nat.blt k 1000 && Nat.beq (xk k) 0 && Nat.beq (xsta k) 1) = true) (hst : st = As.reverse ++ r) (hn : As.length = nn) (hr : (r.map fun v => v.category).sum ≤ 8) (hC : mc ≤ C) (hS : ms ≤ S)
    (hc : GC Z d k As ws mc ms P g_no) (h : ∀ v u, P v u → GG Z d m ret xp N p f (v.toList ++ r) u (C - mc) (S - ms)) : GG Z d m ret xp (N + 1) pc f st ws C S := by
  simp only [Bool.and_eq_true] at hk
  obtain ⟨⟨⟨k1, k2⟩, k3⟩, k4⟩ := hk
  have k1 := Nat.lt_of_lt_of_le Nat.zero_lt_one (Nat.le_of_ble_eq_true k1)
  have k2 : k < 1000 := Nat.le_of_ble_eq_true k2
  have k4 := Nat.eq_of_beq_eq_true k4
  obtain ⟨l1, l2, l3, l4⟩ := xl_w hd.1 hl k2
  obtain ⟨-, -, c3, c4, -, -, c7, -, c9, -, -⟩ := xm_w k1 l1
  refine g_st fun lv hlv n hn2 => ?_
  unfold am_stp
  rw [hd.2]
  subst hp
  refine Or.inr ⟨xy k, As, r, mc, ms, hst, ⟨c4.1, c4.2, by rw [l2, hn]⟩, c7 k4, c9, hr, hC, hS, ?_⟩
  by_cases e : w0 = 0
  · exact Or.inl ⟨l3 e, hc _ _ (fun v u hv => h v u hv lv hlv n hn2) (fun e u hx => hx.elim)⟩
  · exact Or.inr (Or.inr ⟨"GraphHouse", l4 e, hc _ _ (fun v u hv => h v u hv lv hlv n hn2) (fun e u hx => hx.elim)⟩)
theorem g_thr {i k : Nat} {y : MethodName} {E : String} {g : Int32} {X : AmX} {p0 : Nat} (p : Nat) (hd : GD m pc (.invokestatic i) 3) (hp : pc + 3 = p) (hl : xlD (xo m) i = some (k, 1, p0, 0)) (hk : (k = 1002 ∧ y = yX11_allow ∧ E = am_IA) ∨ (k = 1003 ∧ y = yX11_ready ∧ E = am_IS)) (h5 : 6 ≤ d) (hr : (r.map fun v => v.category).sum ≤ 8) (hC : 1 ≤ C) (hS : 6 ≤ S) (h1 : g.toInt ≠ 0 → GG Z d m ret (gx X) N p f r ws (C - 1) (S - 6)) (h2 : g.toInt = 0 → X E ws) : GG Z d m ret (gx X) (N + 1) pc f (.int g :: r) ws C S := by
  have hlk : Cond.methodLink (xcls (xo m)) i y ∈ am_T := xl_s hd.1 hl (by
    rcases hk with ⟨a, b, -⟩ | ⟨a, b, -⟩
    · exact Or.inr (Or.inr (Or.inl ⟨a, b⟩))
    · exact Or.inr (Or.inr (Or.inr ⟨a, b⟩)))
  refine g_st fun lv hlv n hn2 => ?_
  unfold am_stp
  rw [hd.2]
  subst hp
  obtain ⟨d1, rfl⟩ : ∃ d1, d = d1 + 1 := ⟨d - 1, by omega⟩
  have hthr : am_thr E [.int g] ws 1 6 (fun v u => am_run Z (gx X).1 (xcls (xo m)) (xc m) (xn m) (xr m) (xin m) (am_wp Z am_leaf (d1 + 1)) (gx X).2.1 (gx X).2.2 ret n (pc + 3) lv (v.toList ++ r) u (C - 1) (S - 6)) X :=
    ⟨g, rfl, fun z => h1 (fun e => z (i_eq.mpr e)) lv hlv n hn2, fun z => ⟨Nat.le_refl 1, Nat.le_refl 6, h2 (by rw [z]; rfl)⟩⟩
  refine Or.inr ⟨y, [.int g], r, 1, 6, rfl, ?_, ?_, ?_, hr, hC, hS, Or.inl ⟨hlk, Or.inl ⟨by omega, ?_⟩⟩⟩
  · rcases hk with ⟨-, b, -⟩ | ⟨-, b, -⟩ <;> rw [b]
    · exact xlf3
    · exact xlf4
  · rcases hk with ⟨-, b, -⟩ | ⟨-, b, -⟩ <;> rw [b]
    · exact xlf1
    · exact xlf2
  · rcases hk with ⟨-, b, -⟩ | ⟨-, b, -⟩ <;> rw [b] <;> exact am_ini11
  · rcases hk with ⟨-, b, c⟩ | ⟨-, b, c⟩
    · exact Or.inl ⟨b, c ▸ hthr⟩
    · exact Or.inr ⟨b, c ▸ hthr⟩
theorem g_enter2 {k : Nat} {as : List Value} {mc ms : Nat} {X : AmX} (h1 : 1 ≤ d) (hk : (Nat.blt 0 k && Nat.blt k xm_n && Nat.beq (xk k) 0) = true) (hlen : (lg_sl as).length ≤ xn k) (h : GG Z (d - 1) k ret (gx X) N 0 (fun j => xlook j (lv_args 0 as)) [] ws mc ms) : am_wp Z am_leaf d (xy k) as ws mc ms ret X := by
  simp only [Bool.and_eq_true] at hk
  have e : d = (d - 1) + 1 := by omega
  rw [e]
  exact g_enter (Nat.le_of_ble_eq_true hk.1.1) (Nat.le_of_ble_eq_true hk.1.2) (Nat.eq_of_beq_eq_true hk.2) hlen h
theorem gf_nil : ∀ (i : Nat) (v : Value), xlook i [] = some v → f i = some v := fun _ _ h => by cases h
theorem gf_cons {k : Nat} {w : Value} {l : List (Nat × Value)} (h0 : f k = some w) (h : ∀ i v, xlook i l = some v → f i = some v) : ∀ i v, xlook i ((k, w) :: l) = some v → f i = some v := by
  intro i v hv
  have hv : cond (Nat.beq k i) (some w) (xlook i l) = some v := hv
  cases e : Nat.beq k i with
  | true =>
    rw [e] at hv
    have hv : some w = some v := hv
    rw [← Nat.eq_of_beq_eq_true e, h0, hv]
  | false =>
    rw [e] at hv
    exact h i v hv
end GA
end
section
/-! THE WORLD after the constructors: 196 cells that stay; what they hold, as functions. 0 int, 1 long, 2 char, 3 boolean arrays; 4 + ci: an object of class ci. -/
def wk (q : Nat) : Nat := cond (Nat.blt q 97) (cond (Nat.blt q 55) (cond (Nat.blt q 32) (cond (Nat.blt q 16) (cond (Nat.blt q 2) (cond (Nat.blt q 1) (15) (9)) (cond (Nat.blt q 3) (7) (0))) (cond (Nat.blt q 30) (cond (Nat.blt q 17) (7) (0)) (cond (Nat.blt q 31) (1000) (0)))) (cond (Nat.blt q 49) (cond (Nat.blt q 46) (cond (Nat.blt q 33) (7) (0)) (cond (Nat.blt q 47) (12) (2))) (cond (Nat.blt q 51) (cond (Nat.blt q 50) (14) (1)) (cond (Nat.blt q 53) (0) (cond (Nat.blt q 54) (1) (0)))))) (cond (Nat.blt q 77) (cond (Nat.blt q 61) (cond (Nat.blt q 57) (cond (Nat.blt q 56) (1) (10)) (cond (Nat.blt q 60) (0) (4))) (cond (Nat.blt q 66) (cond (Nat.blt q 65) (0) (6)) (cond (Nat.blt q 75) (0) (cond (Nat.blt q 76) (1) (13))))) (cond (Nat.blt q 86) (cond (Nat.blt q 81) (cond (Nat.blt q 79) (0) (1)) (cond (Nat.blt q 85) (0) (1))) (cond (Nat.blt q 89) (cond (Nat.blt q 87) (8) (1)) (cond (Nat.blt q 94) (0) (cond (Nat.blt q 95) (11) (1))))))) (cond (Nat.blt q 153) (cond (Nat.blt q 130) (cond (Nat.blt q 105) (cond (Nat.blt q 102) (cond (Nat.blt q 98) (0) (1)) (cond (Nat.blt q 103) (5) (0))) (cond (Nat.blt q 110) (cond (Nat.blt q 109) (1) (16)) (cond (Nat.blt q 112) (0) (cond (Nat.blt q 113) (3) (0))))) (cond (Nat.blt q 147) (cond (Nat.blt q 135) (cond (Nat.blt q 131) (1) (0)) (cond (Nat.blt q 136) (1) (0))) (cond (Nat.blt q 149) (cond (Nat.blt q 148) (1) (0)) (cond (Nat.blt q 151) (1) (cond (Nat.blt q 152) (0) (1)))))) (cond (Nat.blt q 173) (cond (Nat.blt q 164) (cond (Nat.blt q 157) (cond (Nat.blt q 155) (0) (1)) (cond (Nat.blt q 161) (0) (1))) (cond (Nat.blt q 167) (cond (Nat.blt q 166) (0) (1)) (cond (Nat.blt q 168) (0) (cond (Nat.blt q 169) (1) (0))))) (cond (Nat.blt q 178) (cond (Nat.blt q 175) (cond (Nat.blt q 174) (1) (0)) (cond (Nat.blt q 176) (1) (3))) (cond (Nat.blt q 181) (cond (Nat.blt q 180) (1) (3)) (cond (Nat.blt q 183) (1) (cond (Nat.blt q 191) (0) (1)))))))
def wn (q : Nat) : Nat := cond (Nat.blt q 87) (cond (Nat.blt q 42) (cond (Nat.blt q 18) (cond (Nat.blt q 12) (cond (Nat.blt q 3) (cond (Nat.blt q 1) (12) (cond (Nat.blt q 2) (4) (18))) (cond (Nat.blt q 4) (32) (cond (Nat.blt q 9) (160) (32)))) (cond (Nat.blt q 15) (cond (Nat.blt q 13) (33) (cond (Nat.blt q 14) (160) (33))) (cond (Nat.blt q 16) (160) (cond (Nat.blt q 17) (18) (32))))) (cond (Nat.blt q 30) (cond (Nat.blt q 27) (cond (Nat.blt q 23) (160) (cond (Nat.blt q 26) (32) (33))) (cond (Nat.blt q 28) (160) (cond (Nat.blt q 29) (33) (160)))) (cond (Nat.blt q 33) (cond (Nat.blt q 31) (448) (cond (Nat.blt q 32) (5) (18))) (cond (Nat.blt q 34) (32) (cond (Nat.blt q 39) (160) (32)))))) (cond (Nat.blt q 60) (cond (Nat.blt q 48) (cond (Nat.blt q 45) (cond (Nat.blt q 43) (33) (cond (Nat.blt q 44) (160) (33))) (cond (Nat.blt q 46) (160) (cond (Nat.blt q 47) (10) (1000)))) (cond (Nat.blt q 55) (cond (Nat.blt q 49) (4608) (cond (Nat.blt q 50) (13) (32))) (cond (Nat.blt q 56) (2001) (cond (Nat.blt q 57) (6) (32))))) (cond (Nat.blt q 74) (cond (Nat.blt q 66) (cond (Nat.blt q 61) (9) (cond (Nat.blt q 65) (32) (19))) (cond (Nat.blt q 67) (1024) (cond (Nat.blt q 69) (32) (160)))) (cond (Nat.blt q 80) (cond (Nat.blt q 76) (32) (cond (Nat.blt q 77) (12) (160))) (cond (Nat.blt q 85) (32) (cond (Nat.blt q 86) (1024) (11))))))) (cond (Nat.blt q 138) (cond (Nat.blt q 111) (cond (Nat.blt q 102) (cond (Nat.blt q 96) (cond (Nat.blt q 94) (32) (cond (Nat.blt q 95) (9) (61))) (cond (Nat.blt q 97) (26) (cond (Nat.blt q 99) (11) (32)))) (cond (Nat.blt q 107) (cond (Nat.blt q 103) (13) (cond (Nat.blt q 106) (120) (9))) (cond (Nat.blt q 109) (32) (cond (Nat.blt q 110) (122) (3))))) (cond (Nat.blt q 128) (cond (Nat.blt q 125) (cond (Nat.blt q 112) (96) (cond (Nat.blt q 118) (480) (4000))) (cond (Nat.blt q 126) (1000) (cond (Nat.blt q 127) (8000) (500)))) (cond (Nat.blt q 133) (cond (Nat.blt q 129) (2500) (cond (Nat.blt q 132) (32) (4000))) (cond (Nat.blt q 134) (32) (cond (Nat.blt q 135) (10005) (2001)))))) (cond (Nat.blt q 171) (cond (Nat.blt q 150) (cond (Nat.blt q 144) (cond (Nat.blt q 139) (32) (cond (Nat.blt q 141) (33) (32))) (cond (Nat.blt q 147) (33) (cond (Nat.blt q 148) (160) (34)))) (cond (Nat.blt q 156) (cond (Nat.blt q 152) (32) (cond (Nat.blt q 153) (1024) (160))) (cond (Nat.blt q 161) (32) (cond (Nat.blt q 162) (1024) (32))))) (cond (Nat.blt q 187) (cond (Nat.blt q 183) (cond (Nat.blt q 172) (1024) (cond (Nat.blt q 176) (60) (12))) (cond (Nat.blt q 184) (2000) (cond (Nat.blt q 186) (400) (3)))) (cond (Nat.blt q 191) (cond (Nat.blt q 189) (400) (cond (Nat.blt q 190) (3) (200))) (cond (Nat.blt q 194) (cond (Nat.blt q 193) (32) (200)) (cond (Nat.blt q 195) (9) (1)))))))
def wr_0 (j : Nat) : Nat := cond (Nat.blt j 6) (cond (Nat.blt j 3) (cond (Nat.blt j 1) (1) (cond (Nat.blt j 2) (32) (0))) (cond (Nat.blt j 4) (46) (cond (Nat.blt j 5) (49) (56)))) (cond (Nat.blt j 9) (cond (Nat.blt j 7) (60) (cond (Nat.blt j 8) (65) (76))) (cond (Nat.blt j 10) (86) (cond (Nat.blt j 11) (94) (102))))
def wr_1 (j : Nat) : Nat := cond (Nat.blt j 2) (cond (Nat.blt j 1) (2) (16)) (cond (Nat.blt j 3) (30) (31))
def wr_2 (j : Nat) : Nat := cond (Nat.blt j 11) (cond (Nat.blt j 7) (cond (Nat.blt j 5) (0) (cond (Nat.blt j 6) (3) (4))) (cond (Nat.blt j 9) (cond (Nat.blt j 8) (5) (6)) (cond (Nat.blt j 10) (7) (8)))) (cond (Nat.blt j 14) (cond (Nat.blt j 12) (9) (cond (Nat.blt j 13) (10) (11))) (cond (Nat.blt j 16) (cond (Nat.blt j 15) (12) (13)) (cond (Nat.blt j 17) (14) (15))))
def wr_16 (j : Nat) : Nat := cond (Nat.blt j 11) (cond (Nat.blt j 7) (cond (Nat.blt j 5) (0) (cond (Nat.blt j 6) (17) (18))) (cond (Nat.blt j 9) (cond (Nat.blt j 8) (19) (20)) (cond (Nat.blt j 10) (21) (22)))) (cond (Nat.blt j 14) (cond (Nat.blt j 12) (23) (cond (Nat.blt j 13) (24) (25))) (cond (Nat.blt j 16) (cond (Nat.blt j 15) (26) (27)) (cond (Nat.blt j 17) (28) (29))))
def wr_32 (j : Nat) : Nat := cond (Nat.blt j 11) (cond (Nat.blt j 7) (cond (Nat.blt j 5) (0) (cond (Nat.blt j 6) (33) (34))) (cond (Nat.blt j 9) (cond (Nat.blt j 8) (35) (36)) (cond (Nat.blt j 10) (37) (38)))) (cond (Nat.blt j 14) (cond (Nat.blt j 12) (39) (cond (Nat.blt j 13) (40) (41))) (cond (Nat.blt j 16) (cond (Nat.blt j 15) (42) (43)) (cond (Nat.blt j 17) (44) (45))))
def wr_46 (j : Nat) : Nat := cond (Nat.blt j 8) (cond (Nat.blt j 1) (47) (0)) (cond (Nat.blt j 9) (48) (0))
def wr_49 (j : Nat) : Nat := cond (Nat.blt j 6) (cond (Nat.blt j 4) (cond (Nat.blt j 3) (0) (50)) (cond (Nat.blt j 5) (51) (52))) (cond (Nat.blt j 8) (cond (Nat.blt j 7) (53) (54)) (cond (Nat.blt j 12) (0) (55)))
def wr_56 (j : Nat) : Nat := cond (Nat.blt j 3) (cond (Nat.blt j 2) (0) (57)) (cond (Nat.blt j 4) (0) (cond (Nat.blt j 5) (58) (59)))
def wr_60 (j : Nat) : Nat := cond (Nat.blt j 6) (cond (Nat.blt j 4) (0) (cond (Nat.blt j 5) (61) (62))) (cond (Nat.blt j 7) (63) (cond (Nat.blt j 8) (0) (64)))
def wr_65 (j : Nat) : Nat := cond (Nat.blt j 10) (cond (Nat.blt j 7) (cond (Nat.blt j 5) (0) (cond (Nat.blt j 6) (66) (67))) (cond (Nat.blt j 8) (68) (cond (Nat.blt j 9) (0) (69)))) (cond (Nat.blt j 13) (cond (Nat.blt j 11) (70) (cond (Nat.blt j 12) (71) (72))) (cond (Nat.blt j 15) (cond (Nat.blt j 14) (73) (74)) (cond (Nat.blt j 16) (75) (0))))
def wr_76 (j : Nat) : Nat := cond (Nat.blt j 5) (cond (Nat.blt j 2) (cond (Nat.blt j 1) (0) (77)) (cond (Nat.blt j 3) (78) (cond (Nat.blt j 4) (79) (80)))) (cond (Nat.blt j 8) (cond (Nat.blt j 6) (81) (cond (Nat.blt j 7) (82) (83))) (cond (Nat.blt j 9) (84) (cond (Nat.blt j 11) (0) (85))))
def wr_86 (j : Nat) : Nat := cond (Nat.blt j 6) (cond (Nat.blt j 3) (cond (Nat.blt j 2) (0) (87)) (cond (Nat.blt j 4) (88) (0))) (cond (Nat.blt j 8) (cond (Nat.blt j 7) (89) (90)) (cond (Nat.blt j 9) (91) (cond (Nat.blt j 10) (92) (93))))
def wr_94 (j : Nat) : Nat := cond (Nat.blt j 5) (cond (Nat.blt j 3) (cond (Nat.blt j 2) (0) (95)) (cond (Nat.blt j 4) (96) (97))) (cond (Nat.blt j 7) (cond (Nat.blt j 6) (98) (99)) (cond (Nat.blt j 8) (100) (101)))
def wr_102 (j : Nat) : Nat := cond (Nat.blt j 5) (cond (Nat.blt j 3) (cond (Nat.blt j 1) (103) (0)) (cond (Nat.blt j 4) (104) (0))) (cond (Nat.blt j 7) (cond (Nat.blt j 6) (105) (106)) (cond (Nat.blt j 8) (107) (cond (Nat.blt j 9) (108) (0))))
def wr_109 (j : Nat) : Nat := cond (Nat.blt j 60) (cond (Nat.blt j 35) (cond (Nat.blt j 12) (cond (Nat.blt j 6) (cond (Nat.blt j 3) (cond (Nat.blt j 1) (0) (cond (Nat.blt j 2) (110) (111))) (cond (Nat.blt j 4) (112) (cond (Nat.blt j 5) (113) (114)))) (cond (Nat.blt j 9) (cond (Nat.blt j 7) (115) (cond (Nat.blt j 8) (116) (117))) (cond (Nat.blt j 10) (0) (cond (Nat.blt j 11) (118) (119))))) (cond (Nat.blt j 21) (cond (Nat.blt j 15) (cond (Nat.blt j 13) (120) (cond (Nat.blt j 14) (121) (122))) (cond (Nat.blt j 16) (123) (cond (Nat.blt j 17) (124) (0)))) (cond (Nat.blt j 26) (cond (Nat.blt j 22) (125) (cond (Nat.blt j 25) (0) (126))) (cond (Nat.blt j 33) (0) (cond (Nat.blt j 34) (127) (128)))))) (cond (Nat.blt j 47) (cond (Nat.blt j 41) (cond (Nat.blt j 38) (cond (Nat.blt j 36) (129) (cond (Nat.blt j 37) (130) (131))) (cond (Nat.blt j 39) (132) (cond (Nat.blt j 40) (133) (0)))) (cond (Nat.blt j 44) (cond (Nat.blt j 42) (134) (cond (Nat.blt j 43) (135) (136))) (cond (Nat.blt j 45) (137) (cond (Nat.blt j 46) (138) (139))))) (cond (Nat.blt j 53) (cond (Nat.blt j 50) (cond (Nat.blt j 48) (140) (cond (Nat.blt j 49) (141) (142))) (cond (Nat.blt j 51) (143) (cond (Nat.blt j 52) (144) (145)))) (cond (Nat.blt j 56) (cond (Nat.blt j 54) (0) (cond (Nat.blt j 55) (146) (147))) (cond (Nat.blt j 58) (cond (Nat.blt j 57) (148) (149)) (cond (Nat.blt j 59) (150) (151))))))) (cond (Nat.blt j 88) (cond (Nat.blt j 72) (cond (Nat.blt j 66) (cond (Nat.blt j 63) (cond (Nat.blt j 61) (152) (cond (Nat.blt j 62) (153) (154))) (cond (Nat.blt j 64) (155) (cond (Nat.blt j 65) (156) (157)))) (cond (Nat.blt j 69) (cond (Nat.blt j 67) (158) (cond (Nat.blt j 68) (159) (160))) (cond (Nat.blt j 70) (161) (cond (Nat.blt j 71) (162) (163))))) (cond (Nat.blt j 78) (cond (Nat.blt j 75) (cond (Nat.blt j 73) (164) (cond (Nat.blt j 74) (165) (166))) (cond (Nat.blt j 76) (167) (cond (Nat.blt j 77) (168) (169)))) (cond (Nat.blt j 82) (cond (Nat.blt j 79) (170) (cond (Nat.blt j 80) (171) (0))) (cond (Nat.blt j 84) (cond (Nat.blt j 83) (172) (173)) (cond (Nat.blt j 87) (0) (174)))))) (cond (Nat.blt j 105) (cond (Nat.blt j 94) (cond (Nat.blt j 91) (cond (Nat.blt j 89) (175) (cond (Nat.blt j 90) (176) (177))) (cond (Nat.blt j 92) (178) (cond (Nat.blt j 93) (179) (180)))) (cond (Nat.blt j 102) (cond (Nat.blt j 95) (181) (cond (Nat.blt j 96) (182) (0))) (cond (Nat.blt j 103) (183) (cond (Nat.blt j 104) (184) (185))))) (cond (Nat.blt j 111) (cond (Nat.blt j 108) (cond (Nat.blt j 106) (186) (cond (Nat.blt j 107) (187) (188))) (cond (Nat.blt j 109) (189) (cond (Nat.blt j 110) (0) (190)))) (cond (Nat.blt j 116) (cond (Nat.blt j 114) (0) (cond (Nat.blt j 115) (191) (192))) (cond (Nat.blt j 120) (cond (Nat.blt j 119) (0) (193)) (cond (Nat.blt j 121) (194) (0)))))))
def wr (q j : Nat) : Nat := cond (Nat.blt q 60) (cond (Nat.blt q 33) (cond (Nat.blt q 3) (cond (Nat.blt q 1) (wr_0 j) (cond (Nat.blt q 2) (wr_1 j) (wr_2 j))) (cond (Nat.blt q 17) (cond (Nat.blt q 16) (0) (wr_16 j)) (cond (Nat.blt q 32) (0) (wr_32 j)))) (cond (Nat.blt q 49) (cond (Nat.blt q 46) (0) (cond (Nat.blt q 47) (wr_46 j) (0))) (cond (Nat.blt q 56) (cond (Nat.blt q 50) (wr_49 j) (0)) (cond (Nat.blt q 57) (wr_56 j) (0))))) (cond (Nat.blt q 87) (cond (Nat.blt q 66) (cond (Nat.blt q 61) (wr_60 j) (cond (Nat.blt q 65) (0) (wr_65 j))) (cond (Nat.blt q 77) (cond (Nat.blt q 76) (0) (wr_76 j)) (cond (Nat.blt q 86) (0) (wr_86 j)))) (cond (Nat.blt q 102) (cond (Nat.blt q 94) (0) (cond (Nat.blt q 95) (wr_94 j) (0))) (cond (Nat.blt q 109) (cond (Nat.blt q 103) (wr_102 j) (0)) (cond (Nat.blt q 110) (wr_109 j) (0)))))
noncomputable def wty (ci j : Nat) : Nat := (((xt ci)[j]?).getD (0, 0)).1
/-- arrays of ints, of longs; int fields, long fields (the fifth is of no use). Cell 30 is the ledger's log: its length is the 'field' (30, 0). -/
abbrev GS : Type := (Nat → Nat → Int32) × (Nat → Nat → Int64) × (Nat → Nat → Int32) × (Nat → Nat → Int64) × (Nat → Nat → Nat)
noncomputable def wv (A : Nat → Nat) (s : GS) (q ci j : Nat) : Value := match wty ci j with
  | 1 => .long (s.2.2.2.1 q j)
  | 3 => .ref (A (wr q j))
  | _ => .int (s.2.2.1 q j)
noncomputable def wc (Z : AmZ) (A : Nat → Nat) (s : GS) (q : Nat) : va_E := match wk q with
  | 0 => .inl (Z.1, wn q, .inl (s.1 q))
  | 1 => .inl (Z.2.1, wn q, .inr (.inl (s.2.1 q)))
  | 2 => .inl (Z.2.2.1, wn q, .inl (s.1 q))
  | 3 => .inl (Z.2.2.2.1, wn q, .inl (s.1 q))
  | k + 4 => cond (Nat.beq k 996) (.inl (Z.1, (s.2.2.1 q 0).toNatClampNeg, .inl (s.1 q))) (.inr (k, (List.range (wn q)).map (wv A s q k)))
noncomputable def WW (Z : AmZ) (A : Nat → Nat) (s : GS) : va_W := (List.range 196).map (fun q => (A q, wc Z A s q))
def sI (s : GS) (q j : Nat) (x : Int32) : GS := (fun p => if p = q then upd (s.1 q) j x else s.1 p, s.2)
def sL (s : GS) (q j : Nat) (x : Int64) : GS := (s.1, fun p => if p = q then vp_updL (s.2.1 q) j x else s.2.1 p, s.2.2)
def sF (s : GS) (q j : Nat) (x : Int32) : GS := (s.1, s.2.1, fun p i => if p = q ∧ i = j then x else s.2.2.1 p i, s.2.2.2)
def sG (s : GS) (q j : Nat) (x : Int64) : GS := (s.1, s.2.1, s.2.2.1, fun p i => if p = q ∧ i = j then x else s.2.2.2.1 p i, s.2.2.2.2)
section GW
variable {Z : AmZ} {A : Nat → Nat} {s s' : GS} {ex : va_W} {q j : Nat}
theorem ww_len : (WW Z A s).length = 196 := by unfold WW; rw [List.length_map, List.length_range]
theorem ww_get (hq : q < 196) : (WW Z A s ++ ex)[q]? = some (A q, wc Z A s q) := by
  rw [List.getElem?_append_left (by rw [ww_len]; exact hq)]
  unfold WW
  rw [List.getElem?_map, List.getElem?_range hq]
  rfl
theorem ww_set (hq : q < 196) {e : va_E} (h1 : wc Z A s' q = e) (h2 : ∀ p, p ≠ q → wc Z A s' p = wc Z A s p) : (WW Z A s ++ ex).set q (A q, e) = WW Z A s' ++ ex := by
  rw [List.set_append_left _ _ (by rw [ww_len]; exact hq)]
  congr 1
  apply List.ext_getElem?
  intro i
  rw [List.getElem?_set]
  by_cases hi : i < 196
  · have e1 : ∀ t : GS, (WW Z A t)[i]? = some (A i, wc Z A t i) := fun t => by unfold WW; rw [List.getElem?_map, List.getElem?_range hi]; rfl
    by_cases h : q = i
    · subst h
      rw [if_pos rfl, if_pos (by rw [ww_len]; exact hq), e1, h1]
    · rw [if_neg h, e1, e1, h2 i (fun z => h z.symm)]
  · have e1 : ∀ t : GS, (WW Z A t)[i]? = none := fun t => List.getElem?_eq_none (by rw [ww_len]; omega)
    rw [if_neg (by omega), e1, e1]
theorem wc_eq {p : Nat} (a : s'.1 p = s.1 p) (b : s'.2.1 p = s.2.1 p) (c : s'.2.2.1 p = s.2.2.1 p) (e : s'.2.2.2.1 p = s.2.2.2.1 p) (g : s'.2.2.2.2 p = s.2.2.2.2 p) : wc Z A s' p = wc Z A s p := by
  have hw : ∀ k, wv A s' p k = wv A s p k := fun k => by
    funext i
    simp only [wv, c, e, g]
  simp only [wc, a, b, c, hw]
theorem wc_o {ci : Nat} (hk : wk q = ci + 4) (hc : Nat.beq ci 996 = false) : wc Z A s q = .inr (ci, (List.range (wn q)).map (wv A s q ci)) := by
  unfold wc
  rw [hk]
  show cond (Nat.beq ci 996) _ _ = _
  rw [hc]
  rfl
theorem wc_lg : wc Z A s 30 = .inl (Z.1, (s.2.2.1 30 0).toNatClampNeg, .inl (s.1 30)) := rfl
theorem ws_I0 (hq : q < 196) (hk : wk q = 0) (x : Int32) : (WW Z A s ++ ex).set q (A q, .inl (Z.1, wn q, .inl (upd (s.1 q) j x))) = WW Z A (sI s q j x) ++ ex :=
  ww_set hq (by unfold wc; rw [hk]; simp [sI]) (fun p hp => wc_eq (by simp [sI, hp]) rfl rfl rfl rfl)
theorem ws_I2 (hq : q < 196) (hk : wk q = 2) (x : Int32) : (WW Z A s ++ ex).set q (A q, .inl (Z.2.2.1, wn q, .inl (upd (s.1 q) j x))) = WW Z A (sI s q j x) ++ ex :=
  ww_set hq (by unfold wc; rw [hk]; simp [sI]) (fun p hp => wc_eq (by simp [sI, hp]) rfl rfl rfl rfl)
theorem ws_I3 (hq : q < 196) (hk : wk q = 3) (x : Int32) : (WW Z A s ++ ex).set q (A q, .inl (Z.2.2.2.1, wn q, .inl (upd (s.1 q) j x))) = WW Z A (sI s q j x) ++ ex :=
  ww_set hq (by unfold wc; rw [hk]; simp [sI]) (fun p hp => wc_eq (by simp [sI, hp]) rfl rfl rfl rfl)
theorem ws_L (hq : q < 196) (hk : wk q = 1) (x : Int64) : (WW Z A s ++ ex).set q (A q, .inl (Z.2.1, wn q, .inr (.inl (vp_updL (s.2.1 q) j x)))) = WW Z A (sL s q j x) ++ ex :=
  ww_set hq (by unfold wc; rw [hk]; simp [sL]) (fun p hp => wc_eq rfl (by simp [sL, hp]) rfl rfl rfl)
theorem map_set {α : Type} (n k : Nat) (g g' : Nat → α) (h : ∀ i, i ≠ k → g' i = g i) : ((List.range n).map g).set k (g' k) = (List.range n).map g' := by
  apply List.ext_getElem?
  intro i
  rw [List.getElem?_set, List.getElem?_map, List.getElem?_map, List.length_map, List.length_range]
  by_cases hi : i < n
  · rw [List.getElem?_range hi]
    by_cases e : k = i
    · subst e; rw [if_pos rfl, if_pos hi]; rfl
    · rw [if_neg e]; show some (g i) = some (g' i); rw [h i (fun z => e z.symm)]
  · rw [List.getElem?_eq_none (by rw [List.length_range]; omega)]
    by_cases e : k = i
    · rw [if_pos e, if_neg (by omega)]; rfl
    · rw [if_neg e]; rfl
theorem ws_F {ci : Nat} (hq : q < 196) (hk : wk q = ci + 4) (hc : Nat.beq ci 996 = false) (ht : wty ci j ≠ 1 ∧ wty ci j ≠ 3) (x : Int32) : (WW Z A s ++ ex).set q (A q, .inr (ci, ((List.range (wn q)).map (wv A s q ci)).set j (.int x))) = WW Z A (sF s q j x) ++ ex := by
  refine ww_set hq ?_ (fun p hp => wc_eq rfl rfl (by funext i; simp [sF, hp]) rfl rfl)
  have e1 : wc Z A (sF s q j x) q = .inr (ci, (List.range (wn q)).map (wv A (sF s q j x) q ci)) := wc_o hk hc
  rw [e1, ← map_set (wn q) j (wv A s q ci) (wv A (sF s q j x) q ci) (fun i hi => by unfold wv; simp [sF, hi])]
  congr 2
  have e2 : wv A (sF s q j x) q ci j = .int x := by
    unfold wv
    split
    · exact absurd ‹_› ht.1
    · exact absurd ‹_› ht.2
    · simp [sF]
  rw [e2]
theorem ws_G {ci : Nat} (hq : q < 196) (hk : wk q = ci + 4) (hc : Nat.beq ci 996 = false) (ht : wty ci j = 1) (x : Int64) : (WW Z A s ++ ex).set q (A q, .inr (ci, ((List.range (wn q)).map (wv A s q ci)).set j (.long x))) = WW Z A (sG s q j x) ++ ex := by
  refine ww_set hq ?_ (fun p hp => wc_eq rfl rfl rfl (by funext i; simp [sG, hp]) rfl)
  have e1 : wc Z A (sG s q j x) q = .inr (ci, (List.range (wn q)).map (wv A (sG s q j x) q ci)) := wc_o hk hc
  rw [e1, ← map_set (wn q) j (wv A s q ci) (wv A (sG s q j x) q ci) (fun i hi => by unfold wv; simp [sG, hi])]
  congr 2
  have e2 : wv A (sG s q j x) q ci j = .long x := by
    unfold wv
    rw [ht]
    simp [sG]
  rw [e2]
theorem ww_fld {ci : Nat} (hj : j < wn q) : ((List.range (wn q)).map (wv A s q ci))[j]? = some (wv A s q ci j) := by rw [List.getElem?_map, List.getElem?_range hj]; rfl
theorem wc_0 (hk : wk q = 0) : wc Z A s q = .inl (Z.1, wn q, .inl (s.1 q)) := by unfold wc; rw [hk]
theorem wc_1 (hk : wk q = 1) : wc Z A s q = .inl (Z.2.1, wn q, .inr (.inl (s.2.1 q))) := by unfold wc; rw [hk]
theorem wc_2 (hk : wk q = 2) : wc Z A s q = .inl (Z.2.2.1, wn q, .inl (s.1 q)) := by unfold wc; rw [hk]
theorem wc_3 (hk : wk q = 3) : wc Z A s q = .inl (Z.2.2.2.1, wn q, .inl (s.1 q)) := by unfold wc; rw [hk]
variable {d m N pc : Nat} {ret : AmR} {xp : GX} {f : Nat → Option Value} {r : List Value} {C S : Nat}
theorem blt_996 {ci : Nat} (h : Nat.blt ci 13 = true) : Nat.beq ci 996 = false := by
  have h1 : ci < 13 := Nat.le_of_ble_eq_true h
  cases e : Nat.beq ci 996 with
  | false => rfl
  | true => have := Nat.eq_of_beq_eq_true e; omega
theorem ww_o {ci : Nat} (h : (Nat.blt q 196 && Nat.beq (wk q) (ci + 4) && Nat.blt ci 13) = true) : (WW Z A s ++ ex)[q]? = some (A q, .inr (ci, (List.range (wn q)).map (wv A s q ci))) := by
  simp only [Bool.and_eq_true] at h
  rw [ww_get (Nat.le_of_ble_eq_true h.1.1), wc_o (Nat.eq_of_beq_eq_true h.1.2) (blt_996 h.2)]
/-- one test for a field: cell q of the class, place k within, its type -/
noncomputable def wok (q ci k t : Nat) : Bool := Nat.blt q 196 && Nat.beq (wk q) (ci + 4) && Nat.blt k (wn q) && Nat.beq (wty ci k) t && Nat.blt ci 13
theorem wok_w {ci k t : Nat} (h : wok q ci k t = true) : q < 196 ∧ wk q = ci + 4 ∧ k < wn q ∧ wty ci k = t := by
  unfold wok at h
  simp only [Bool.and_eq_true] at h
  exact ⟨Nat.le_of_ble_eq_true h.1.1.1.1, Nat.eq_of_beq_eq_true h.1.1.1.2, Nat.le_of_ble_eq_true h.1.1.2, Nat.eq_of_beq_eq_true h.1.2⟩
theorem wok_c {ci k t : Nat} (h : wok q ci k t = true) : Nat.beq ci 996 = false := by
  unfold wok at h
  simp only [Bool.and_eq_true] at h
  exact blt_996 h.2
theorem g_getfield {i k ci p0 t : Nat} {v : Value} (p : Nat) (hd : GD m pc (.getfield i) 3) (hp : pc + 3 = p) (hf : xfD (xo m) i = some (ci, k, p0)) (hw : wok q ci k t = true) (hv : wv A s q ci k = v) (h : GG Z d m ret xp N p f (v :: r) (WW Z A s ++ ex) C S) : GG Z d m ret xp (N + 1) pc f (.ref (A q) :: r) (WW Z A s ++ ex) C S := by
  obtain ⟨w1, w2, w3, -⟩ := wok_w hw
  obtain ⟨Cn, T, NF, c1, c2, c3⟩ := xf_w hd.1 hf
  refine g_st fun lv hl n hn => ?_
  unfold am_stp
  rw [hd.2]
  subst hp
  exact Or.inl ⟨A q, r, q, ci, _, Cn, T, NF, k, v, rfl, by rw [ww_get w1, wc_o w2 (wok_c hw)], c1, c2, c3, by rw [ww_fld w3, hv], h lv hl n hn⟩
theorem g_getI {i k ci p0 : Nat} (p : Nat) (hd : GD m pc (.getfield i) 3) (hp : pc + 3 = p) (hf : xfD (xo m) i = some (ci, k, p0)) (hw : wok q ci k 0 = true) (h : ∀ z, z = s.2.2.1 q k → GG Z d m ret xp N p f (.int z :: r) (WW Z A s ++ ex) C S) : GG Z d m ret xp (N + 1) pc f (.ref (A q) :: r) (WW Z A s ++ ex) C S :=
  g_getfield p hd hp hf hw (by unfold wv; rw [(wok_w hw).2.2.2]; rfl) (h _ rfl)
theorem g_getZ {i k ci p0 : Nat} (p : Nat) (hd : GD m pc (.getfield i) 3) (hp : pc + 3 = p) (hf : xfD (xo m) i = some (ci, k, p0)) (hw : wok q ci k 2 = true) (h : ∀ z, z = s.2.2.1 q k → GG Z d m ret xp N p f (.int z :: r) (WW Z A s ++ ex) C S) : GG Z d m ret xp (N + 1) pc f (.ref (A q) :: r) (WW Z A s ++ ex) C S :=
  g_getfield p hd hp hf hw (by unfold wv; rw [(wok_w hw).2.2.2]; rfl) (h _ rfl)
theorem g_getL {i k ci p0 : Nat} (p : Nat) (hd : GD m pc (.getfield i) 3) (hp : pc + 3 = p) (hf : xfD (xo m) i = some (ci, k, p0)) (hw : wok q ci k 1 = true) (h : ∀ z, z = s.2.2.2.1 q k → GG Z d m ret xp N p f (.long z :: r) (WW Z A s ++ ex) C S) : GG Z d m ret xp (N + 1) pc f (.ref (A q) :: r) (WW Z A s ++ ex) C S :=
  g_getfield p hd hp hf hw (by unfold wv; rw [(wok_w hw).2.2.2]; rfl) (h _ rfl)
theorem g_getA {i k ci p0 q2 : Nat} (p : Nat) (hd : GD m pc (.getfield i) 3) (hp : pc + 3 = p) (hf : xfD (xo m) i = some (ci, k, p0)) (hw : wok q ci k 3 = true) (hr : wr q k = q2) (h : GG Z d m ret xp N p f (.ref (A q2) :: r) (WW Z A s ++ ex) C S) : GG Z d m ret xp (N + 1) pc f (.ref (A q) :: r) (WW Z A s ++ ex) C S :=
  g_getfield p hd hp hf hw (by unfold wv; rw [(wok_w hw).2.2.2, hr]; rfl) h
theorem g_putfield {i k ci p0 t fin : Nat} {v : Value} (p : Nat) (hd : GD m pc (.putfield i) 3) (hp : pc + 3 = p) (hf : xfD (xo m) i = some (ci, k, p0)) (hw : wok q ci k t = true) (ht : (xt ci)[k]? = some (t, fin)) (hfin : Nat.beq fin 1 = false) (hx : ∃ (σ : Nat → Int32) (x : XV), xvr σ 0 [] v x ∧ xfit t x = true) (hs : (WW Z A s ++ ex).set q (A q, .inr (ci, ((List.range (wn q)).map (wv A s q ci)).set k v)) = WW Z A s' ++ ex) (h : GG Z d m ret xp N p f r (WW Z A s' ++ ex) C S) : GG Z d m ret xp (N + 1) pc f (v :: .ref (A q) :: r) (WW Z A s ++ ex) C S := by
  obtain ⟨w1, w2, w3, -⟩ := wok_w hw
  obtain ⟨Cn, T, NF, c1, c2, c3⟩ := xf_w hd.1 hf
  obtain ⟨σ, x, hx1, hx2⟩ := hx
  obtain ⟨n1, n2, n3⟩ := xt_w c1 ht hx1 hx2
  refine g_st fun lv hl n hn => ?_
  unfold am_stp
  rw [hd.2]
  subst hp
  refine ⟨A q, r, q, ci, _, Cn, T, NF, k, v, rfl, by rw [ww_get w1, wc_o w2 (wok_c hw)], c1, c2, c3, by rw [List.length_map, List.length_range]; exact w3, n1, n2, fun z => ?_, by rw [hs]; exact h lv hl n hn⟩
  rw [n3] at z
  rw [of_decide_eq_true z] at hfin
  cases hfin
theorem g_putI {i k ci p0 : Nat} {x : Int32} (p : Nat) (hd : GD m pc (.putfield i) 3) (hp : pc + 3 = p) (hf : xfD (xo m) i = some (ci, k, p0)) (hw : wok q ci k 0 = true) (ht : (xt ci)[k]? = some (0, 0)) (h : GG Z d m ret xp N p f r (WW Z A (sF s q k x) ++ ex) C S) : GG Z d m ret xp (N + 1) pc f (.int x :: .ref (A q) :: r) (WW Z A s ++ ex) C S :=
  g_putfield p hd hp hf hw ht rfl ⟨fun _ => 0, .inl (.inl x), ⟨x, rfl, rfl⟩, rfl⟩ (ws_F (wok_w hw).1 (wok_w hw).2.1 (wok_c hw) (by rw [(wok_w hw).2.2.2]; decide) x) h
theorem g_putZ {i k ci p0 : Nat} {x : Int32} (p : Nat) (hd : GD m pc (.putfield i) 3) (hp : pc + 3 = p) (hf : xfD (xo m) i = some (ci, k, p0)) (hw : wok q ci k 2 = true) (ht : (xt ci)[k]? = some (2, 0)) (h01 : x = 0 ∨ x = 1) (h : GG Z d m ret xp N p f r (WW Z A (sF s q k x) ++ ex) C S) : GG Z d m ret xp (N + 1) pc f (.int x :: .ref (A q) :: r) (WW Z A s ++ ex) C S :=
  g_putfield p hd hp hf hw ht rfl ⟨fun _ => 0, .inl (.inl x), ⟨x, rfl, rfl⟩, decide_eq_true h01⟩ (ws_F (wok_w hw).1 (wok_w hw).2.1 (wok_c hw) (by rw [(wok_w hw).2.2.2]; decide) x) h
theorem g_putL {i k ci p0 : Nat} {x : Int64} (p : Nat) (hd : GD m pc (.putfield i) 3) (hp : pc + 3 = p) (hf : xfD (xo m) i = some (ci, k, p0)) (hw : wok q ci k 1 = true) (ht : (xt ci)[k]? = some (1, 0)) (h : GG Z d m ret xp N p f r (WW Z A (sG s q k x) ++ ex) C S) : GG Z d m ret xp (N + 1) pc f (.long x :: .ref (A q) :: r) (WW Z A s ++ ex) C S :=
  g_putfield p hd hp hf hw ht rfl ⟨fun _ => 0, .inr (.inl none), ⟨x, rfl, trivial⟩, rfl⟩ (ws_G (wok_w hw).1 (wok_w hw).2.1 (wok_c hw) (wok_w hw).2.2.2 x) h
/-- one test for an array -/
def wak (q t n : Nat) : Bool := Nat.blt q 196 && Nat.beq (wk q) t && Nat.beq (wn q) n
theorem wak_w {t n : Nat} (h : wak q t n = true) : q < 196 ∧ wk q = t ∧ wn q = n := by
  unfold wak at h
  simp only [Bool.and_eq_true] at h
  exact ⟨Nat.le_of_ble_eq_true h.1.1, Nat.eq_of_beq_eq_true h.1.2, Nat.eq_of_beq_eq_true h.2⟩
def In (x : Int32) (lo hi : Int) : Prop := lo ≤ x.toInt ∧ x.toInt ≤ hi
theorem in_ix {x : Int32} {lo hi : Int} {n : Nat} (h : In x lo hi) (h0 : decide (0 ≤ lo ∧ hi < (n : Int)) = true) : vp_in x n := by
  have h0 := of_decide_eq_true h0
  obtain ⟨h1, h2⟩ := h
  intro z
  rcases z with z | z
  · have := Int32.lt_iff_toInt_lt.mp z
    have e : (0 : Int32).toInt = 0 := rfl
    omega
  · have e : (x.toNatClampNeg : Int) = x.toInt := by
      show ((x.toInt.toNat : Nat) : Int) = x.toInt
      omega
    omega
theorem in_w {x : Int32} {a b : Int} (c e : Int) (h : In x a b) (h0 : decide (c ≤ a ∧ b ≤ e) = true) : In x c e := by
  have h0 := of_decide_eq_true h0
  exact ⟨Int.le_trans h0.1 h.1, Int.le_trans h.2 h0.2⟩
theorem g_iaload {x : Int32} {n : Nat} (p : Nat) (hd : GD m pc .iaload 1) (hp : pc + 1 = p) (hw : wak q 0 n = true) (hx : vp_in x n) (h : ∀ z, z = s.1 q x.toNatClampNeg → GG Z d m ret xp N p f (.int z :: r) (WW Z A s ++ ex) C S) : GG Z d m ret xp (N + 1) pc f (.int x :: .ref (A q) :: r) (WW Z A s ++ ex) C S := by
  obtain ⟨w1, w2, w3⟩ := wak_w hw
  refine g_st fun lv hl k hn => ?_
  unfold am_stp
  rw [hd.2]
  subst hp w3
  exact Or.inr ⟨A q, x, r, q, wn q, s.1 q, rfl, by rw [ww_get w1, wc_0 w2], hx, h _ rfl lv hl k hn⟩
theorem g_laload {x : Int32} {n : Nat} (p : Nat) (hd : GD m pc .laload 1) (hp : pc + 1 = p) (hw : wak q 1 n = true) (hx : vp_in x n) (h : ∀ z, z = s.2.1 q x.toNatClampNeg → GG Z d m ret xp N p f (.long z :: r) (WW Z A s ++ ex) C S) : GG Z d m ret xp (N + 1) pc f (.int x :: .ref (A q) :: r) (WW Z A s ++ ex) C S := by
  obtain ⟨w1, w2, w3⟩ := wak_w hw
  refine g_st fun lv hl k hn => ?_
  unfold am_stp
  rw [hd.2]
  subst hp w3
  exact ⟨A q, x, r, q, wn q, s.2.1 q, rfl, by rw [ww_get w1, wc_1 w2], hx, h _ rfl lv hl k hn⟩
theorem g_caload {x : Int32} {n : Nat} (p : Nat) (hd : GD m pc .caload 1) (hp : pc + 1 = p) (hw : wak q 2 n = true) (hx : vp_in x n) (h : ∀ z, z = s.1 q x.toNatClampNeg → GG Z d m ret xp N p f (.int z :: r) (WW Z A s ++ ex) C S) : GG Z d m ret xp (N + 1) pc f (.int x :: .ref (A q) :: r) (WW Z A s ++ ex) C S := by
  obtain ⟨w1, w2, w3⟩ := wak_w hw
  refine g_st fun lv hl k hn => ?_
  unfold am_stp
  rw [hd.2]
  subst hp w3
  exact ⟨A q, x, r, q, wn q, s.1 q, rfl, by rw [ww_get w1, wc_2 w2], hx, h _ rfl lv hl k hn⟩
theorem g_baload {x : Int32} {n : Nat} (p : Nat) (hd : GD m pc .baload 1) (hp : pc + 1 = p) (hw : wak q 3 n = true) (hx : vp_in x n) (h : ∀ z, z = s.1 q x.toNatClampNeg → GG Z d m ret xp N p f (.int z :: r) (WW Z A s ++ ex) C S) : GG Z d m ret xp (N + 1) pc f (.int x :: .ref (A q) :: r) (WW Z A s ++ ex) C S := by
  obtain ⟨w1, w2, w3⟩ := wak_w hw
  refine g_st fun lv hl k hn => ?_
  unfold am_stp
  rw [hd.2]
  subst hp w3
  exact Or.inl ⟨A q, x, r, q, wn q, s.1 q, rfl, by rw [ww_get w1, wc_3 w2], hx, h _ rfl lv hl k hn⟩
theorem g_iastore {x v : Int32} {n : Nat} (p : Nat) (hd : GD m pc .iastore 1) (hp : pc + 1 = p) (hw : wak q 0 n = true) (hx : vp_in x n) (h : GG Z d m ret xp N p f r (WW Z A (sI s q x.toNatClampNeg v) ++ ex) C S) : GG Z d m ret xp (N + 1) pc f (.int v :: .int x :: .ref (A q) :: r) (WW Z A s ++ ex) C S := by
  obtain ⟨w1, w2, w3⟩ := wak_w hw
  refine g_st fun lv hl k hn => ?_
  unfold am_stp
  rw [hd.2]
  subst hp w3
  exact ⟨A q, x, v, r, q, wn q, s.1 q, rfl, by rw [ww_get w1, wc_0 w2], hx, by rw [ws_I0 w1 w2]; exact h lv hl k hn⟩
theorem g_lastore {x : Int32} {v : Int64} {n : Nat} (p : Nat) (hd : GD m pc .lastore 1) (hp : pc + 1 = p) (hw : wak q 1 n = true) (hx : vp_in x n) (h : GG Z d m ret xp N p f r (WW Z A (sL s q x.toNatClampNeg v) ++ ex) C S) : GG Z d m ret xp (N + 1) pc f (.long v :: .int x :: .ref (A q) :: r) (WW Z A s ++ ex) C S := by
  obtain ⟨w1, w2, w3⟩ := wak_w hw
  refine g_st fun lv hl k hn => ?_
  unfold am_stp
  rw [hd.2]
  subst hp w3
  exact ⟨A q, x, v, r, q, wn q, s.2.1 q, rfl, by rw [ww_get w1, wc_1 w2], hx, by rw [ws_L w1 w2]; exact h lv hl k hn⟩
theorem g_bastore {x v : Int32} {n : Nat} (p : Nat) (hd : GD m pc .bastore 1) (hp : pc + 1 = p) (hw : wak q 3 n = true) (hx : vp_in x n) (h : GG Z d m ret xp N p f r (WW Z A (sI s q x.toNatClampNeg (vp_nar .boolean v)) ++ ex) C S) : GG Z d m ret xp (N + 1) pc f (.int v :: .int x :: .ref (A q) :: r) (WW Z A s ++ ex) C S := by
  obtain ⟨w1, w2, w3⟩ := wak_w hw
  refine g_st fun lv hl k hn => ?_
  unfold am_stp
  rw [hd.2]
  subst hp w3
  exact ⟨A q, x, v, r, q, wn q, s.1 q, rfl, by rw [ww_get w1, wc_3 w2], hx, by rw [ws_I3 w1 w2]; exact h lv hl k hn⟩
theorem g_castore {x v : Int32} {n : Nat} (p : Nat) (hd : GD m pc .castore 1) (hp : pc + 1 = p) (hw : wak q 2 n = true) (hx : vp_in x n) (h : GG Z d m ret xp N p f r (WW Z A (sI s q x.toNatClampNeg (vp_nar .char v)) ++ ex) C S) : GG Z d m ret xp (N + 1) pc f (.int v :: .int x :: .ref (A q) :: r) (WW Z A s ++ ex) C S := by
  obtain ⟨w1, w2, w3⟩ := wak_w hw
  refine g_st fun lv hl k hn => ?_
  unfold am_stp
  rw [hd.2]
  subst hp w3
  exact ⟨A q, x, v, r, q, wn q, s.1 q, rfl, by rw [ww_get w1, wc_2 w2], hx, by rw [ws_I2 w1 w2]; exact h lv hl k hn⟩
theorem g_alen {n t : Nat} (c : Int) (p : Nat) (hd : GD m pc .arraylength 1) (hp : pc + 1 = p) (hw : wak q t n = true) (ht : t < 4) (hc : Int32.ofNat n = Int32.ofInt c) (h : GG Z d m ret xp N p f (.int (Int32.ofInt c) :: r) (WW Z A s ++ ex) C S) : GG Z d m ret xp (N + 1) pc f (.ref (A q) :: r) (WW Z A s ++ ex) C S := by
  obtain ⟨w1, w2, w3⟩ := wak_w hw
  refine g_st fun lv hl k hn => ?_
  unfold am_stp
  rw [hd.2]
  subst hp w3
  rw [← hc] at h
  have e := ww_get (Z := Z) (A := A) (s := s) (ex := ex) w1
  match t, ht, w2 with
  | 0, _, w2 => rw [wc_0 w2] at e; exact Or.inr (Or.inl ⟨A q, r, q, _, _, 0, _, rfl, e, rfl, h lv hl k hn⟩)
  | 1, _, w2 => rw [wc_1 w2] at e; exact Or.inr (Or.inl ⟨A q, r, q, _, _, 1, _, rfl, e, rfl, h lv hl k hn⟩)
  | 2, _, w2 => rw [wc_2 w2] at e; exact Or.inr (Or.inl ⟨A q, r, q, _, _, 2, _, rfl, e, rfl, h lv hl k hn⟩)
  | 3, _, w2 => rw [wc_3 w2] at e; exact Or.inr (Or.inl ⟨A q, r, q, _, _, 3, _, rfl, e, rfl, h lv hl k hn⟩)
/-- the ledger's log: a row whose length may grow -/
theorem g_lgload {x : Int32} (p : Nat) (hd : GD m pc .iaload 1) (hp : pc + 1 = p) (hx : vp_in x (s.2.2.1 30 0).toNatClampNeg) (h : ∀ z, z = s.1 30 x.toNatClampNeg → GG Z d m ret xp N p f (.int z :: r) (WW Z A s ++ ex) C S) : GG Z d m ret xp (N + 1) pc f (.int x :: .ref (A 30) :: r) (WW Z A s ++ ex) C S := by
  refine g_st fun lv hl k hn => ?_
  unfold am_stp
  rw [hd.2]
  subst hp
  exact Or.inr ⟨A 30, x, r, 30, _, s.1 30, rfl, by rw [ww_get (by decide), wc_lg], hx, h _ rfl lv hl k hn⟩
theorem ws_lg {x : Int32} : (WW Z A s ++ ex).set 30 (A 30, .inl (Z.1, (s.2.2.1 30 0).toNatClampNeg, .inl (upd (s.1 30) j x))) = WW Z A (sI s 30 j x) ++ ex :=
  ww_set (by decide) (by rw [wc_lg]; simp [sI]) (fun p hp => wc_eq (by simp [sI, hp]) rfl rfl rfl rfl)
theorem g_lgstore {x v : Int32} (p : Nat) (hd : GD m pc .iastore 1) (hp : pc + 1 = p) (hx : vp_in x (s.2.2.1 30 0).toNatClampNeg) (h : GG Z d m ret xp N p f r (WW Z A (sI s 30 x.toNatClampNeg v) ++ ex) C S) : GG Z d m ret xp (N + 1) pc f (.int v :: .int x :: .ref (A 30) :: r) (WW Z A s ++ ex) C S := by
  refine g_st fun lv hl k hn => ?_
  unfold am_stp
  rw [hd.2]
  subst hp
  exact ⟨A 30, x, v, r, 30, _, s.1 30, rfl, by rw [ww_get (by decide), wc_lg], hx, by rw [ws_lg]; exact h lv hl k hn⟩
theorem g_lglen (p : Nat) (hd : GD m pc .arraylength 1) (hp : pc + 1 = p) (hr : 0 ≤ (s.2.2.1 30 0).toInt) (h : ∀ z, z = s.2.2.1 30 0 → GG Z d m ret xp N p f (.int z :: r) (WW Z A s ++ ex) C S) : GG Z d m ret xp (N + 1) pc f (.ref (A 30) :: r) (WW Z A s ++ ex) C S := by
  refine g_st fun lv hl k hn => ?_
  unfold am_stp
  rw [hd.2]
  subst hp
  have e := ww_get (Z := Z) (A := A) (s := s) (ex := ex) (q := 30) (by decide)
  rw [wc_lg] at e
  have e2 : Int32.ofNat (s.2.2.1 30 0).toNatClampNeg = s.2.2.1 30 0 := by
    refine Int32.toInt_inj.mp ?_
    have h1 := (s.2.2.1 30 0).toInt_lt
    have h2 : (s.2.2.1 30 0).toNatClampNeg = (s.2.2.1 30 0).toInt.toNat := rfl
    rw [Int32.toInt_ofNat_of_lt (by omega)]
    omega
  refine Or.inr (Or.inl ⟨A 30, r, 30, _, _, 0, _, rfl, e, rfl, ?_⟩)
  rw [e2]
  exact h _ rfl lv hl k hn
/-- another address for a cell -/
def ax (A : Nat → Nat) (k a : Nat) : Nat → Nat := fun i => cond (Nat.beq i k) a (A i)
theorem ax_ne {i k a : Nat} (h : i ≠ k) : ax A k a i = A i := by
  unfold ax
  cases e : Nat.beq i k with
  | false => rfl
  | true => exact absurd (Nat.eq_of_beq_eq_true e) h
theorem ax_eq {k a : Nat} : ax A k a k = a := by
  unfold ax
  rw [show Nat.beq k k = true from Nat.beq_refl k]
  rfl
theorem ax_ax {k a b : Nat} : ax (ax A k a) k b = ax A k b := by
  funext i
  by_cases h : i = k
  · subst h; rw [ax_eq, ax_eq]
  · rw [ax_ne h, ax_ne h, ax_ne h]
/-- a whole row put in another's place -/
def sA (s : GS) (q : Nat) (g : Nat → Int32) : GS := (fun p => if p = q then g else s.1 p, s.2)
def sB (s : GS) (q : Nat) (g : Nat → Int64) : GS := (s.1, fun p => if p = q then g else s.2.1 p, s.2.2)
theorem ws_A (hq : q < 196) (hk : wk q = 0) (g : Nat → Int32) : (WW Z A s ++ ex).set q (A q, .inl (Z.1, wn q, .inl g)) = WW Z A (sA s q g) ++ ex :=
  ww_set hq (by unfold wc; rw [hk]; simp [sA]) (fun p hp => wc_eq (by simp [sA, hp]) rfl rfl rfl rfl)
theorem ws_B (hq : q < 196) (hk : wk q = 1) (g : Nat → Int64) : (WW Z A s ++ ex).set q (A q, .inl (Z.2.1, wn q, .inr (.inl g))) = WW Z A (sB s q g) ++ ex :=
  ww_set hq (by unfold wc; rw [hk]; simp [sB]) (fun p hp => wc_eq rfl (by simp [sB, hp]) rfl rfl rfl)
/-- System.arraycopy between rows of the world -/
theorem g_copyI {i p0 q2 n0 n1 : Nat} {n dp sp : Int32} (p : Nat) (hd : GD m pc (.invokestatic i) 3) (hp : pc + 3 = p) (hl : xlD (xo m) i = some (1001, 5, p0, 0)) (hw : wak q2 0 n0 = true) (hw2 : wak q 0 n1 = true) (hr : (r.map fun v => v.category).sum ≤ 8) (hsp : 0 ≤ sp.toInt) (hdp : 0 ≤ dp.toInt) (hn0 : 0 ≤ n.toInt) (h0 : sp.toInt + n.toInt ≤ (n0 : Int)) (h1 : dp.toInt + n.toInt ≤ (n1 : Int))
    (h : GG Z d m ret xp N p f r (WW Z A (sA s q (va_cpy (s.1 q2) (s.1 q) sp.toNatClampNeg dp.toNatClampNeg n.toNatClampNeg)) ++ ex) C S) : GG Z d m ret xp (N + 1) pc f (.int n :: .int dp :: .ref (A q) :: .int sp :: .ref (A q2) :: r) (WW Z A s ++ ex) C S := by
  obtain ⟨w1, w2, w3⟩ := wak_w hw
  obtain ⟨y1, y2, y3⟩ := wak_w hw2
  have pos : ∀ x : Int32, 0 ≤ x.toInt → ¬ x < 0 := fun x hx z => by
    have := Int32.lt_iff_toInt_lt.mp z
    have e : (0 : Int32).toInt = 0 := rfl
    omega
  have cl : ∀ x : Int32, 0 ≤ x.toInt → (x.toNatClampNeg : Int) = x.toInt := fun x hx => by
    show ((x.toInt.toNat : Nat) : Int) = x.toInt
    omega
  have c1 := cl _ hsp
  have c2 := cl _ hdp
  have c3 := cl _ hn0
  refine g_st fun lv hlv k hn => ?_
  unfold am_stp
  rw [hd.2]
  subst hp w3 y3
  refine Or.inl ⟨n, dp, A q, sp, A q2, r, q2, q, wn q2, wn q, rfl, xl_s hd.1 hl (Or.inr (Or.inl ⟨rfl, rfl⟩)), hr, pos _ hsp, pos _ hdp, pos _ hn0, by omega, by omega, Or.inl ⟨s.1 q2, s.1 q, by rw [ww_get w1, wc_0 w2], by rw [ww_get y1, wc_0 y2], ?_⟩⟩
  rw [ws_A y1 y2]
  exact h lv hlv k hn
theorem g_copyL {i p0 q2 n0 n1 : Nat} {n dp sp : Int32} (p : Nat) (hd : GD m pc (.invokestatic i) 3) (hp : pc + 3 = p) (hl : xlD (xo m) i = some (1001, 5, p0, 0)) (hw : wak q2 1 n0 = true) (hw2 : wak q 1 n1 = true) (hr : (r.map fun v => v.category).sum ≤ 8) (hsp : 0 ≤ sp.toInt) (hdp : 0 ≤ dp.toInt) (hn0 : 0 ≤ n.toInt) (h0 : sp.toInt + n.toInt ≤ (n0 : Int)) (h1 : dp.toInt + n.toInt ≤ (n1 : Int))
    (h : GG Z d m ret xp N p f r (WW Z A (sB s q (va_cpy (s.2.1 q2) (s.2.1 q) sp.toNatClampNeg dp.toNatClampNeg n.toNatClampNeg)) ++ ex) C S) : GG Z d m ret xp (N + 1) pc f (.int n :: .int dp :: .ref (A q) :: .int sp :: .ref (A q2) :: r) (WW Z A s ++ ex) C S := by
  obtain ⟨w1, w2, w3⟩ := wak_w hw
  obtain ⟨y1, y2, y3⟩ := wak_w hw2
  have pos : ∀ x : Int32, 0 ≤ x.toInt → ¬ x < 0 := fun x hx z => by
    have := Int32.lt_iff_toInt_lt.mp z
    have e : (0 : Int32).toInt = 0 := rfl
    omega
  have cl : ∀ x : Int32, 0 ≤ x.toInt → (x.toNatClampNeg : Int) = x.toInt := fun x hx => by
    show ((x.toInt.toNat : Nat) : Int) = x.toInt
    omega
  have c1 := cl _ hsp
  have c2 := cl _ hdp
  have c3 := cl _ hn0
  refine g_st fun lv hlv k hn => ?_
  unfold am_stp
  rw [hd.2]
  subst hp w3 y3
  refine Or.inl ⟨n, dp, A q, sp, A q2, r, q2, q, wn q2, wn q, rfl, xl_s hd.1 hl (Or.inr (Or.inl ⟨rfl, rfl⟩)), hr, pos _ hsp, pos _ hdp, pos _ hn0, by omega, by omega, Or.inr ⟨s.2.1 q2, s.2.1 q, by rw [ww_get w1, wc_1 w2], by rw [ww_get y1, wc_1 y2], ?_⟩⟩
  rw [ws_B y1 y2]
  exact h lv hlv k hn
end GW
end
section
/-! READS OF WHAT IS KNOWN -/
theorem in_u {x : Int32} {lo hi : Int} (h : In x lo hi) : lo ≤ x.toInt ∧ x.toInt ≤ hi := h
section RD
variable {Z : AmZ} {A : Nat → Nat} {s : GS} {ex : va_W} {q : Nat} {d m N pc : Nat} {ret : AmR} {xp : GX} {f : Nat → Option Value} {r : List Value} {C S : Nat}
end RD
/-! depths and counts of steps -/
theorem dq0 {a c d : Nat} (hd : c ≤ d) (h : Nat.ble a c = true) : a ≤ d := Nat.le_trans (Nat.le_of_ble_eq_true h) hd
theorem dq1 {a c d : Nat} (hd : c ≤ d) (h : Nat.ble (a + 1) c = true) : a ≤ d - 1 := by
  have := Nat.le_of_ble_eq_true h
  omega
theorem dq2 {a c d : Nat} (hd : c ≤ d) (h : Nat.ble (a + 2) c = true) : a ≤ d - 1 - 1 := by
  have := Nat.le_of_ble_eq_true h
  omega
theorem dq3 {a c d : Nat} (hd : c ≤ d) (h : Nat.ble (a + 3) c = true) : a ≤ d - 1 - 1 - 1 := by
  have := Nat.le_of_ble_eq_true h
  omega
theorem gws {a k c : Nat} : a + k * c + c ≤ a + (k + 1) * c := by
  rw [Nat.succ_mul]
  omega
theorem gw2 {a b c : Nat} : a ≤ a + b + c := by omega
theorem gw3 {a b c e : Nat} : a ≤ a + b + c + e := by omega
theorem gwe {a b n c r : Nat} (h : Nat.ble (b + n * c) r = true) : a + b + n * c ≤ a + r := by
  have := Nat.le_of_ble_eq_true h
  omega
theorem gwf {a b n c r k q : Nat} (h : Nat.ble (b + n * c) r = true) : a + b + n * c ≤ a + r + k + q := by
  have := Nat.le_of_ble_eq_true h
  omega
end
section
/-! WHAT THE INTS OF THE WORLD MAY BE: ranges by cell (arrays), by cell and field (objects); and rows on ranges -/
def rI (q : Nat) : Int × Int := cond (Nat.blt q 82) (cond (Nat.blt q 35) (cond (Nat.blt q 17) (cond (Nat.blt q 8) (cond (Nat.blt q 5) (cond (Nat.blt q 3) ((-2147483648, 2147483647)) (cond (Nat.blt q 4) ((0, 25)) ((-1, 31)))) (cond (Nat.blt q 6) ((0, 31)) (cond (Nat.blt q 7) ((-1000000, 1000000)) ((0, 1000000))))) (cond (Nat.blt q 13) (cond (Nat.blt q 9) ((0, 25)) (cond (Nat.blt q 12) ((-2147483648, 2147483647)) ((0, 160)))) (cond (Nat.blt q 15) (cond (Nat.blt q 14) ((0, 159)) ((0, 160))) (cond (Nat.blt q 16) ((0, 159)) ((-2147483648, 2147483647)))))) (cond (Nat.blt q 26) (cond (Nat.blt q 20) (cond (Nat.blt q 18) ((0, 25)) (cond (Nat.blt q 19) ((-1, 31)) ((0, 31)))) (cond (Nat.blt q 22) (cond (Nat.blt q 21) ((-1000000, 1000000)) ((0, 1000000))) (cond (Nat.blt q 23) ((0, 25)) ((-2147483648, 2147483647))))) (cond (Nat.blt q 29) (cond (Nat.blt q 27) ((0, 160)) (cond (Nat.blt q 28) ((0, 159)) ((0, 160)))) (cond (Nat.blt q 33) (cond (Nat.blt q 30) ((0, 159)) ((-2147483648, 2147483647))) (cond (Nat.blt q 34) ((0, 25)) ((-1, 31))))))) (cond (Nat.blt q 54) (cond (Nat.blt q 44) (cond (Nat.blt q 38) (cond (Nat.blt q 36) ((0, 31)) (cond (Nat.blt q 37) ((-1000000, 1000000)) ((0, 1000000)))) (cond (Nat.blt q 42) (cond (Nat.blt q 39) ((0, 25)) ((-2147483648, 2147483647))) (cond (Nat.blt q 43) ((0, 160)) ((0, 159))))) (cond (Nat.blt q 47) (cond (Nat.blt q 45) ((0, 160)) (cond (Nat.blt q 46) ((0, 159)) ((-2147483648, 2147483647)))) (cond (Nat.blt q 51) (cond (Nat.blt q 49) ((0, 65535)) ((-2147483648, 2147483647))) (cond (Nat.blt q 52) ((-1, 1000001)) ((-2147483648, 2147483647)))))) (cond (Nat.blt q 69) (cond (Nat.blt q 58) (cond (Nat.blt q 55) ((0, 31)) (cond (Nat.blt q 57) ((-2147483648, 2147483647)) ((0, 31)))) (cond (Nat.blt q 65) (cond (Nat.blt q 63) ((-2147483648, 2147483647)) ((0, 31))) (cond (Nat.blt q 68) ((-2147483648, 2147483647)) ((-1, 319))))) (cond (Nat.blt q 73) (cond (Nat.blt q 71) ((0, 31)) (cond (Nat.blt q 72) ((-1000000, 1000000)) ((0, 1000000)))) (cond (Nat.blt q 79) (cond (Nat.blt q 77) ((-2147483648, 2147483647)) ((0, 31))) (cond (Nat.blt q 81) ((-2147483648, 2147483647)) ((0, 31)))))))) (cond (Nat.blt q 141) (cond (Nat.blt q 118) (cond (Nat.blt q 98) (cond (Nat.blt q 89) (cond (Nat.blt q 83) ((-2147483648, 2147483647)) (cond (Nat.blt q 84) ((-1, 31)) ((-2147483648, 2147483647)))) (cond (Nat.blt q 90) ((0, 31)) (cond (Nat.blt q 97) ((-2147483648, 2147483647)) ((0, 60))))) (cond (Nat.blt q 113) (cond (Nat.blt q 111) ((-2147483648, 2147483647)) (cond (Nat.blt q 112) ((0, 25)) ((0, 1)))) (cond (Nat.blt q 116) (cond (Nat.blt q 115) ((0, 31)) ((-1000000, 1000000))) (cond (Nat.blt q 117) ((0, 1000000)) ((0, 25)))))) (cond (Nat.blt q 126) (cond (Nat.blt q 121) (cond (Nat.blt q 119) ((0, 4)) (cond (Nat.blt q 120) ((0, 159)) ((0, 31)))) (cond (Nat.blt q 124) (cond (Nat.blt q 123) ((-1000000, 1000000)) ((0, 1000000))) (cond (Nat.blt q 125) ((0, 25)) ((0, 126))))) (cond (Nat.blt q 134) (cond (Nat.blt q 132) ((-2147483648, 2147483647)) (cond (Nat.blt q 133) ((0, 1951)) ((-2147483648, 2147483647)))) (cond (Nat.blt q 136) (cond (Nat.blt q 135) ((0, 159)) ((-2147483648, 2147483647))) (cond (Nat.blt q 138) ((0, 2000)) ((-2147483648, 2147483647))))))) (cond (Nat.blt q 164) (cond (Nat.blt q 152) (cond (Nat.blt q 145) (cond (Nat.blt q 143) ((-2147483648, 31)) (cond (Nat.blt q 144) ((-2147483648, 2147483647)) ((0, 31)))) (cond (Nat.blt q 149) (cond (Nat.blt q 148) ((-2147483648, 2147483647)) ((-1, 1000))) (cond (Nat.blt q 151) ((-2147483648, 2147483647)) ((-1, 31))))) (cond (Nat.blt q 157) (cond (Nat.blt q 153) ((-2147483648, 2147483647)) (cond (Nat.blt q 155) ((0, 31)) ((-2147483648, 2147483647)))) (cond (Nat.blt q 160) (cond (Nat.blt q 158) ((-1, 159)) ((-2147483648, 2147483647))) (cond (Nat.blt q 161) ((0, 31)) ((-2147483648, 2147483647)))))) (cond (Nat.blt q 178) (cond (Nat.blt q 173) (cond (Nat.blt q 165) ((0, 160)) (cond (Nat.blt q 172) ((-2147483648, 2147483647)) ((0, 26)))) (cond (Nat.blt q 175) (cond (Nat.blt q 174) ((-2147483648, 2147483647)) ((0, 26))) (cond (Nat.blt q 176) ((-2147483648, 2147483647)) ((0, 1))))) (cond (Nat.blt q 186) (cond (Nat.blt q 180) ((-2147483648, 2147483647)) (cond (Nat.blt q 181) ((0, 1)) ((-2147483648, 2147483647)))) (cond (Nat.blt q 189) (cond (Nat.blt q 187) ((0, 120)) ((-2147483648, 2147483647))) (cond (Nat.blt q 190) ((0, 120)) ((-2147483648, 2147483647))))))))
def rF_0 (j : Nat) : Int × Int := cond (Nat.blt j 2) ((-2147483648, 2147483647)) (cond (Nat.blt j 3) ((-1, 4000)) ((-2147483648, 2147483647)))
def rF_1 (j : Nat) : Int × Int := (-2147483648, 2147483647)
def rF_2 (j : Nat) : Int × Int := cond (Nat.blt j 3) (cond (Nat.blt j 1) ((0, 4000)) (cond (Nat.blt j 2) ((0, 32)) ((-2147483648, 2147483647)))) (cond (Nat.blt j 4) ((0, 160)) (cond (Nat.blt j 5) ((-1, 4000)) ((-2147483648, 2147483647))))
def rF_16 (j : Nat) : Int × Int := cond (Nat.blt j 3) (cond (Nat.blt j 1) ((0, 4000)) (cond (Nat.blt j 2) ((0, 32)) ((-2147483648, 2147483647)))) (cond (Nat.blt j 4) ((0, 160)) (cond (Nat.blt j 5) ((-1, 4000)) ((-2147483648, 2147483647))))
def rF_32 (j : Nat) : Int × Int := cond (Nat.blt j 3) (cond (Nat.blt j 1) ((0, 4000)) (cond (Nat.blt j 2) ((0, 32)) ((-2147483648, 2147483647)))) (cond (Nat.blt j 4) ((0, 160)) (cond (Nat.blt j 5) ((-1, 4000)) ((-2147483648, 2147483647))))
def rF_46 (j : Nat) : Int × Int := cond (Nat.blt j 5) (cond (Nat.blt j 3) (cond (Nat.blt j 1) ((-2147483648, 2147483647)) ((0, 1000))) (cond (Nat.blt j 4) ((0, 5)) ((0, 1000)))) (cond (Nat.blt j 7) (cond (Nat.blt j 6) ((-2147483648, 2147483647)) ((-1, 5))) (cond (Nat.blt j 8) ((-1, 1000)) (cond (Nat.blt j 9) ((-2147483648, 2147483647)) ((0, 4608)))))
def rF_49 (j : Nat) : Int × Int := cond (Nat.blt j 8) (cond (Nat.blt j 1) ((-1, 4000)) (cond (Nat.blt j 2) ((0, 31)) ((-2147483648, 2147483647)))) (cond (Nat.blt j 11) (cond (Nat.blt j 9) ((-1, 4000)) ((0, 31))) (cond (Nat.blt j 12) ((0, 2001)) ((-2147483648, 2147483647))))
def rF_56 (j : Nat) : Int × Int := cond (Nat.blt j 2) (cond (Nat.blt j 1) ((-1, 4000)) ((0, 32))) (cond (Nat.blt j 3) ((-2147483648, 2147483647)) (cond (Nat.blt j 4) ((-1, 4000)) ((-2147483648, 2147483647))))
def rF_60 (j : Nat) : Int × Int := cond (Nat.blt j 3) (cond (Nat.blt j 1) ((-1, 4000)) (cond (Nat.blt j 2) ((-2147483648, 2147483647)) ((-1, 4000)))) (cond (Nat.blt j 7) (cond (Nat.blt j 4) ((0, 32)) ((-2147483648, 2147483647))) (cond (Nat.blt j 8) ((0, 32)) ((-2147483648, 2147483647))))
def rF_65 (j : Nat) : Int × Int := cond (Nat.blt j 9) (cond (Nat.blt j 3) (cond (Nat.blt j 1) ((-1, 4000)) ((0, 31))) (cond (Nat.blt j 8) ((-2147483648, 2147483647)) ((0, 160)))) (cond (Nat.blt j 17) (cond (Nat.blt j 16) ((-2147483648, 2147483647)) ((-1, 4000))) (cond (Nat.blt j 18) ((0, 32)) ((-2147483648, 2147483647))))
def rF_76 (j : Nat) : Int × Int := cond (Nat.blt j 9) (cond (Nat.blt j 1) ((0, 160)) ((-2147483648, 2147483647))) (cond (Nat.blt j 10) ((-1, 4000)) ((-2147483648, 2147483647)))
def rF_86 (j : Nat) : Int × Int := cond (Nat.blt j 4) (cond (Nat.blt j 1) ((-1, 4000)) (cond (Nat.blt j 2) ((0, 40)) ((-2147483648, 2147483647)))) (cond (Nat.blt j 5) ((-1, 4000)) (cond (Nat.blt j 6) ((0, 160)) ((-2147483648, 2147483647))))
def rF_94 (j : Nat) : Int × Int := (-2147483648, 2147483647)
def rF_102 (j : Nat) : Int × Int := cond (Nat.blt j 4) (cond (Nat.blt j 1) ((-2147483648, 2147483647)) (cond (Nat.blt j 3) ((0, 120)) ((-2147483648, 2147483647)))) (cond (Nat.blt j 9) (cond (Nat.blt j 5) ((0, 120)) ((-2147483648, 2147483647))) (cond (Nat.blt j 10) ((0, 32)) ((-2147483648, 2147483647))))
def rF_109 (j : Nat) : Int × Int := cond (Nat.blt j 32) (cond (Nat.blt j 21) (cond (Nat.blt j 17) (cond (Nat.blt j 9) (cond (Nat.blt j 1) ((0, 2)) ((-2147483648, 2147483647))) (cond (Nat.blt j 10) ((0, 4000)) ((-2147483648, 2147483647)))) (cond (Nat.blt j 19) (cond (Nat.blt j 18) ((-1, 4000)) ((0, 1))) (cond (Nat.blt j 20) ((0, 160)) ((0, 32))))) (cond (Nat.blt j 26) (cond (Nat.blt j 23) (cond (Nat.blt j 22) ((-2147483648, 2147483647)) ((0, 1000))) (cond (Nat.blt j 24) ((0, 9)) ((-2147483648, 2147483647)))) (cond (Nat.blt j 28) (cond (Nat.blt j 27) ((0, 8000)) ((0, 1000))) (cond (Nat.blt j 29) ((-2147483648, 2147483647)) (cond (Nat.blt j 30) ((0, 1000)) ((-2147483648, 2147483647))))))) (cond (Nat.blt j 96) (cond (Nat.blt j 80) (cond (Nat.blt j 40) (cond (Nat.blt j 33) ((0, 500)) ((-2147483648, 2147483647))) (cond (Nat.blt j 41) ((0, 2001)) ((-2147483648, 2147483647)))) (cond (Nat.blt j 82) (cond (Nat.blt j 81) ((0, 160)) ((0, 60))) (cond (Nat.blt j 84) ((-2147483648, 2147483647)) (cond (Nat.blt j 85) ((0, 1)) ((-2147483648, 2147483647)))))) (cond (Nat.blt j 110) (cond (Nat.blt j 100) (cond (Nat.blt j 97) ((0, 10)) ((0, 1))) (cond (Nat.blt j 109) ((-2147483648, 2147483647)) ((0, 400)))) (cond (Nat.blt j 112) (cond (Nat.blt j 111) ((-2147483648, 2147483647)) ((0, 200))) (cond (Nat.blt j 113) ((-2147483648, 2147483647)) (cond (Nat.blt j 114) ((0, 32)) ((-2147483648, 2147483647)))))))
def rF_30 (j : Nat) : Int × Int := cond (Nat.beq j 0) (448, 28000) (-2147483648, 2147483647)
def rF (q j : Nat) : Int × Int := cond (Nat.blt q 57) (cond (Nat.blt q 31) (cond (Nat.blt q 3) (cond (Nat.blt q 1) (rF_0 j) (cond (Nat.blt q 2) (rF_1 j) (rF_2 j))) (cond (Nat.blt q 17) (cond (Nat.blt q 16) ((-2147483648, 2147483647)) (rF_16 j)) (cond (Nat.blt q 30) ((-2147483648, 2147483647)) (rF_30 j)))) (cond (Nat.blt q 47) (cond (Nat.blt q 33) (cond (Nat.blt q 32) ((-2147483648, 2147483647)) (rF_32 j)) (cond (Nat.blt q 46) ((-2147483648, 2147483647)) (rF_46 j))) (cond (Nat.blt q 50) (cond (Nat.blt q 49) ((-2147483648, 2147483647)) (rF_49 j)) (cond (Nat.blt q 56) ((-2147483648, 2147483647)) (rF_56 j))))) (cond (Nat.blt q 86) (cond (Nat.blt q 65) (cond (Nat.blt q 60) ((-2147483648, 2147483647)) (cond (Nat.blt q 61) (rF_60 j) ((-2147483648, 2147483647)))) (cond (Nat.blt q 76) (cond (Nat.blt q 66) (rF_65 j) ((-2147483648, 2147483647))) (cond (Nat.blt q 77) (rF_76 j) ((-2147483648, 2147483647))))) (cond (Nat.blt q 102) (cond (Nat.blt q 94) (cond (Nat.blt q 87) (rF_86 j) ((-2147483648, 2147483647))) (cond (Nat.blt q 95) (rF_94 j) ((-2147483648, 2147483647)))) (cond (Nat.blt q 109) (cond (Nat.blt q 103) (rF_102 j) ((-2147483648, 2147483647))) (cond (Nat.blt q 110) (rF_109 j) ((-2147483648, 2147483647))))))
def rL (q : Nat) : Int × Int := cond (Nat.blt q 97) (cond (Nat.blt q 95) ((-9223372036854775808, 9223372036854775807)) (cond (Nat.blt q 96) ((0, 2305843009213693951)) ((0, 1152921504606846975)))) (cond (Nat.blt q 99) (cond (Nat.blt q 98) ((-9223372036854775808, 9223372036854775807)) ((0, 1152921504606846975))) (cond (Nat.blt q 102) ((0, 2305843009213693951)) ((-9223372036854775808, 9223372036854775807))))
def rG_94 (j : Nat) : Int × Int := cond (Nat.blt j 2) ((0, 2305843009213693951)) ((-9223372036854775808, 9223372036854775807))
def rG (q j : Nat) : Int × Int := cond (Nat.blt q 94) ((-9223372036854775808, 9223372036854775807)) (cond (Nat.blt q 95) (rG_94 j) ((-9223372036854775808, 9223372036854775807)))
/-- rows and fields of which more than ranges is known (KK): ordinary methods write none of them -/
def pI (q : Nat) : Bool := Nat.beq q 4 || Nat.beq q 5 || Nat.beq q 9 || Nat.beq q 10 || Nat.beq q 11 || Nat.beq q 12 || Nat.beq q 13 || Nat.beq q 14 || Nat.beq q 15 || Nat.beq q 34 || Nat.beq q 35 || Nat.beq q 39 || Nat.beq q 40 || Nat.beq q 41 || Nat.beq q 42 || Nat.beq q 43 || Nat.beq q 44 || Nat.beq q 45 || Nat.beq q 103 || Nat.beq q 110 || Nat.beq q 112 || Nat.beq q 113 || Nat.beq q 114 || Nat.beq q 118 || Nat.beq q 119 || Nat.beq q 120 || Nat.beq q 121 || Nat.beq q 134 || Nat.beq q 184 || Nat.beq q 185 || Nat.beq q 186
def pF (q j : Nat) : Bool := (Nat.beq q 2 && Nat.beq j 0) || (Nat.beq q 2 && Nat.beq j 3) || (Nat.beq q 2 && Nat.beq j 4) || (Nat.beq q 32 && Nat.beq j 0) || (Nat.beq q 32 && Nat.beq j 3) || (Nat.beq q 32 && Nat.beq j 4) || (Nat.beq q 102 && Nat.beq j 1) || (Nat.beq q 102 && Nat.beq j 2) || (Nat.beq q 109 && Nat.beq j 9) || (Nat.beq q 109 && Nat.beq j 18) || (Nat.beq q 109 && Nat.beq j 19) || (Nat.beq q 109 && Nat.beq j 20)
def mI (s : GS) : Nat → Nat → Int32 := fun q => if pI q = true then s.1 q else fun _ => 0
def mF (s : GS) : Nat → Nat → Int32 := fun q j => if pF q j = true then s.2.2.1 q j else 0
/-! Graph.tie: counts, their sums, and the rows by them -/
def cn (F : Nat → Int) (u : Int) : Nat → Int
  | 0 => 0
  | n + 1 => cn F u n + (if F n = u then 1 else 0)
def pr (F : Nat → Int) (n : Nat) : Nat → Int
  | 0 => 0
  | u + 1 => pr F n u + cn F (u : Int) n
theorem cn_0 (F : Nat → Int) (u : Int) (n : Nat) : 0 ≤ cn F u n := by
  induction n with
  | zero => exact Int.le_refl 0
  | succ n ih =>
    show 0 ≤ cn F u n + (if F n = u then 1 else 0)
    split <;> omega
theorem cn_le (F : Nat → Int) (u : Int) (n : Nat) : cn F u n ≤ (n : Int) := by
  induction n with
  | zero => exact Int.le_refl 0
  | succ n ih =>
    show cn F u n + (if F n = u then 1 else 0) ≤ ((n + 1 : Nat) : Int)
    split <;> omega
theorem cn_mono (F : Nat → Int) (u : Int) {m n : Nat} (h : m ≤ n) : cn F u m ≤ cn F u n := by
  induction n with
  | zero =>
    have e : m = 0 := by omega
    rw [e]
    exact Int.le_refl _
  | succ n ih =>
    rcases Nat.lt_or_ge n m with c | c
    · have e : m = n + 1 := by omega
      rw [e]
      exact Int.le_refl _
    · have := ih c
      show cn F u m ≤ cn F u n + (if F n = u then 1 else 0)
      split <;> omega
theorem cn_out (F : Nat → Int) (u : Int) (hF : ∀ j, F j < u) (n : Nat) : cn F u n = 0 := by
  induction n with
  | zero => rfl
  | succ n ih =>
    have := hF n
    show cn F u n + (if F n = u then 1 else 0) = 0
    rw [ih, if_neg (by omega)]
    rfl
theorem pr_s (F : Nat → Int) (n u : Nat) : pr F (n + 1) u = pr F n u + (if 0 ≤ F n ∧ F n < (u : Int) then 1 else 0) := by
  induction u with
  | zero =>
    show (0 : Int) = 0 + _
    rw [if_neg (by omega)]
    rfl
  | succ u ih =>
    show pr F (n + 1) u + (cn F (u : Int) n + (if F n = (u : Int) then 1 else 0)) = (pr F n u + cn F (u : Int) n) + _
    rw [ih]
    by_cases a : F n = (u : Int)
    · rw [if_pos a, if_neg (by omega), if_pos (by omega)]
      omega
    · rw [if_neg a]
      by_cases b : 0 ≤ F n ∧ F n < (u : Int)
      · rw [if_pos b, if_pos (by omega)]
        omega
      · rw [if_neg b, if_neg (by omega)]
        omega
theorem pr_le (F : Nat → Int) (n u : Nat) : pr F n u ≤ (n : Int) := by
  induction n with
  | zero =>
    induction u with
    | zero => exact Int.le_refl 0
    | succ u ih => show pr F 0 u + 0 ≤ _; omega
  | succ n ih =>
    rw [pr_s]
    split <;> omega
theorem pr_0 (F : Nat → Int) (n u : Nat) : 0 ≤ pr F n u := by
  induction u with
  | zero => exact Int.le_refl 0
  | succ u ih =>
    have := cn_0 F (u : Int) n
    show 0 ≤ pr F n u + cn F (u : Int) n
    omega
theorem cn_hit {F : Nat → Int} {u : Int} {n : Nat} (h : F n = u) : cn F u (n + 1) = cn F u n + 1 := by
  show cn F u n + (if F n = u then 1 else 0) = _
  rw [if_pos h]
theorem cn_miss {F : Nat → Int} {u : Int} {n : Nat} (h : F n ≠ u) : cn F u (n + 1) = cn F u n := by
  show cn F u n + (if F n = u then 1 else 0) = _
  rw [if_neg h]
  omega
theorem pr_up (F : Nat → Int) (n : Nat) : ∀ {v w : Nat}, v ≤ w → pr F n v ≤ pr F n w := by
  intro v w h
  induction w with
  | zero =>
    obtain rfl : v = 0 := by omega
    exact Int.le_refl _
  | succ w ih =>
    by_cases e : v = w + 1
    · rw [e]; exact Int.le_refl _
    · have h1 := ih (by omega)
      have h2 := cn_0 F (w : Int) n
      have h3 : pr F n (w + 1) = pr F n w + cn F (w : Int) n := rfl
      omega
theorem pr_at (F : Nat → Int) (n : Nat) (i : Int) (h0 : 0 ≤ i) : ∀ w : Nat, i < pr F n w → ∃ u : Nat, u < w ∧ pr F n u ≤ i ∧ i < pr F n (u + 1) := by
  intro w h
  induction w with
  | zero =>
    have h1 : pr F n 0 = 0 := rfl
    omega
  | succ w ih =>
    by_cases e : i < pr F n w
    · obtain ⟨u, a, b, c⟩ := ih e
      exact ⟨u, by omega, b, c⟩
    · exact ⟨w, by omega, by omega, h⟩
def gF (f4 : Nat → Int32) (j : Nat) : Int := if j < 160 then (f4 j).toInt else -1
def gG (f4 f5 : Nat → Int32) (j : Nat) : Int := if j < 160 ∧ (f4 j).toInt ≠ -1 then (f5 j).toInt else -1
/-- the r-th of them -/
theorem cn_ex {F : Nat → Int} {u r : Int} (h0 : 0 ≤ r) : ∀ {n : Nat}, r < cn F u n → ∃ p, p < n ∧ F p = u ∧ cn F u p = r := by
  intro n
  induction n with
  | zero => intro h; exact absurd h (by show ¬ r < 0; omega)
  | succ n ih =>
    intro h
    by_cases c : r < cn F u n
    · obtain ⟨p, a, b, d⟩ := ih c
      exact ⟨p, by omega, b, d⟩
    · by_cases e : F n = u
      · rw [cn_hit e] at h
        exact ⟨n, by omega, e, by omega⟩
      · rw [cn_miss e] at h
        exact absurd h c
/-- an arc from u to v, of the first T places -/
def AJ (fr tt : Nat → Int32) (T u v : Nat) : Prop := ∃ p : Nat, p < T ∧ gF fr p = (u : Int) ∧ gG fr tt p = (v : Int)
/-- the masks: near, out, in -/
def MSK (fr tt ne ou nn : Nat → Int32) (T : Nat) : Prop := ∀ u v : Nat, u < 32 → v < 32 → ((ou u).toBitVec.getLsbD v = true ↔ AJ fr tt T u v) ∧ ((nn v).toBitVec.getLsbD u = true ↔ AJ fr tt T u v) ∧ ((ne u).toBitVec.getLsbD v = true ↔ u ≠ v ∧ (AJ fr tt T u v ∨ AJ fr tt T v u))
/-- the rows of arcs, from place y on -/
def RWS (F : Nat → Int) (T : Nat) (os : Nat → Int32) (y : Nat) : Prop := ∀ p u : Nat, y ≤ p → p < T → u < 32 → F p = (u : Int) → (os (pr F T u + cn F (u : Int) p).toNat).toInt = (p : Int)
/-- a graph's rows are made: counts, rows of arcs, masks -/
def TG (fr tt ne ou nn oa os ia is : Nat → Int32) (T : Nat) : Prop := (∀ v, v ≤ 32 → (oa v).toInt = pr (gF fr) T v ∧ (ia v).toInt = pr (gG fr tt) T v) ∧ RWS (gF fr) T os 0 ∧ RWS (gG fr tt) T is 0 ∧ MSK fr tt ne ou nn T
/-- a class's graph in cell b: its version is not below the tied one; at the tied one the rows are made -/
def KG (b : Nat) (I F : Nat → Nat → Int32) : Prop := (F b 4).toInt ≤ (F b 0).toInt ∧ ((F b 4).toInt = (F b 0).toInt → TG (I (b + 2)) (I (b + 3)) (I (b + 7)) (I (b + 8)) (I (b + 9)) (I (b + 10)) (I (b + 11)) (I (b + 12)) (I (b + 13)) (F b 3).toInt.toNat)
/-- a step of a program in postfix: how many values lie on the pile behind it -/
def hs (w v : Int32) (h : Nat) : Option Nat := if w.toInt = 0 then some (h + 1) else if w.toInt = 1 then (if 0 ≤ v.toInt ∧ v.toInt ≤ 8 then some (h + 1) else none) else if w.toInt = 2 then (if 1 ≤ h then some h else none) else if 2 < w.toInt then (if 2 ≤ h then some (h - 1) else none) else none
/-- the same for the class's rows -/
def hc (c : Int32) (h : Nat) : Option Nat := if c.toInt < 1000000 then some (h + 1) else if c.toInt < 1000100 then (if c.toInt ≤ 1000008 then some (h + 1) else none) else if c.toInt = 1000226 then (if 1 ≤ h then some h else none) else if 2 ≤ h then some (h - 1) else none
def ht (st : Nat → Nat → Option Nat) (a : Nat) : Nat → Option Nat
  | 0 => some 0
  | n + 1 => (ht st a n).bind (st (a + n))
def KP (w v e : Nat → Int32) : Prop := (ht (fun i => hs (w i) (v i)) 0 (e 1).toNatClampNeg).isSome = true ∧ (ht (fun i => hs (w i) (v i)) (e 1).toNatClampNeg ((e 2).toNatClampNeg - (e 1).toNatClampNeg)).isSome = true
def KC (c : Nat → Int32) (a b : Int32) : Prop := (ht (fun i => hc (c i)) 0 a.toNatClampNeg).isSome = true ∧ (ht (fun i => hc (c i)) a.toNatClampNeg (b.toNatClampNeg - a.toNatClampNeg)).isSome = true
/-- the short ways of the reference: how many arcs each has; programs -/
def KS (I F : Nat → Nat → Int32) : Prop := (∀ j : Nat, j < 2001 → (I 134 (5 * j)).toInt ≤ 4) ∧ KP (I 184) (I 185) (I 186) ∧ KC (I 103) (F 102 1) (F 102 2)
/-- how many of the first rows of the log are nodes -/
def cz (w : Nat → Int32) : Nat → Nat
  | 0 => 0
  | n + 1 => cz w n + (if (w n).toInt = 0 then 1 else 0)
/-- a row of the reference's log fits its kind -/
def RW (w a b c : Nat → Int32) (k : Nat) : Prop :=
  ((w k).toInt = 0 → (a k).toInt ≤ 25) ∧ ((w k).toInt = 1 → (b k).toInt < (cz w k : Int) ∧ 0 ≤ (c k).toInt ∧ (c k).toInt < (cz w k : Int)) ∧ ((w k).toInt = 3 → (b k).toInt = 1 → 0 ≤ (c k).toInt) ∧ ((w k).toInt = 3 → (b k).toInt ≠ 0 → (b k).toInt ≠ 1 → 0 ≤ (c k).toInt ∧ (c k).toInt ≤ 25) ∧ ((w k).toInt = 4 → (a k).toInt < (cz w k : Int) ∧ (b k).toInt ≤ 25)
/-- the ends of a graph's arcs are nodes -/
def KE (th fr to nn : Nat → Int32) (g : Nat) : Prop := ∀ a : Nat, a < 160 → (th (160 * g + a)).toInt ≠ 0 → (fr (160 * g + a)).toInt < (nn g).toInt ∧ (to (160 * g + a)).toInt < (nn g).toInt
/-- the reference: its log, how many nodes, its arcs, what is looked at -/
def KR (I F : Nat → Nat → Int32) : Prop := (∀ k : Nat, (k : Int) < (F 109 9).toInt → RW (I 118) (I 119) (I 120) (I 121) k) ∧ (I 110 0).toInt = (cz (I 118) (F 109 9).toInt.toNat : Int) ∧ (In (I 110 0) 0 32 ∧ In (I 110 1) 0 32) ∧ KE (I 112) (I 113) (I 114) (I 110) 0 ∧ KE (I 112) (I 113) (I 114) (I 110) 1 ∧ (F 109 19).toInt = 160 * (F 109 18).toInt ∧ F 109 20 = I 110 (F 109 18).toNatClampNeg
/-- what is known of the contents -/
def KK (I F : Nat → Nat → Int32) : Prop := KG 2 I F ∧ KG 32 I F ∧ KS I F ∧ KR I F
def InL (x : Int64) (lo hi : Int) : Prop := lo ≤ x.toInt ∧ x.toInt ≤ hi
def Rng (s : GS) : Prop := (∀ q j, j < wn q → In (s.1 q j) (rI q).1 (rI q).2) ∧ (∀ q j, In (s.2.2.1 q j) (rF q j).1 (rF q j).2) ∧ (∀ q j, j < wn q → InL (s.2.1 q j) (rL q).1 (rL q).2) ∧ ∀ q j, InL (s.2.2.2.1 q j) (rG q j).1 (rG q j).2
def Inv (s : GS) : Prop := Rng s ∧ KK (mI s) (mF s)
/-- what a method may write: int rows, long rows, int fields, long fields -/
abbrev FM : Type := List Nat × List Nat × List (Nat × Nat) × List (Nat × Nat)
def qI (l : List Nat) (q : Nat) : Bool := !(l.any (fun e => Nat.beq e q))
def qF (l : List (Nat × Nat)) (q k : Nat) : Bool := !(l.any (fun e => Nat.beq e.1 q && Nat.beq e.2 k))
/-- t is s but for what L names -/
def Fr (L : FM) (s t : GS) : Prop := (∀ q, qI L.1 q = true → t.1 q = s.1 q) ∧ (∀ q, qI L.2.1 q = true → t.2.1 q = s.2.1 q) ∧ (∀ q k, qF L.2.2.1 q k = true → t.2.2.1 q k = s.2.2.1 q k) ∧ ∀ q k, qF L.2.2.2 q k = true → t.2.2.2.1 q k = s.2.2.2.1 q k
def fsb (M L : FM) : Bool := M.1.all (fun q => !(qI L.1 q)) && M.2.1.all (fun q => !(qI L.2.1 q)) && M.2.2.1.all (fun e => !(qF L.2.2.1 e.1 e.2)) && M.2.2.2.all (fun e => !(qF L.2.2.2 e.1 e.2))
section FRM
variable {L M : FM} {s t u : GS} {q j : Nat}
theorem fr_rf : Fr L s s := ⟨fun _ _ => rfl, fun _ _ => rfl, fun _ _ _ => rfl, fun _ _ _ => rfl⟩
theorem qI_ne {l : List Nat} {p : Nat} (h : qI l q = false) (hp : qI l p = true) : p ≠ q := fun e => by rw [e, h] at hp; cases hp
theorem qF_ne {l : List (Nat × Nat)} {p i : Nat} (h : qF l q j = false) (hp : qF l p i = true) : ¬ (p = q ∧ i = j) := fun e => by rw [e.1, e.2, h] at hp; cases hp
theorem fr_sI {x : Int32} (hq : qI L.1 q = false) (h : Fr L s t) : Fr L s (sI t q j x) :=
  ⟨fun p hp => by show (if p = q then upd (t.1 q) j x else t.1 p) = s.1 p; rw [if_neg (qI_ne hq hp)]; exact h.1 p hp, h.2⟩
theorem fr_sA {g : Nat → Int32} (hq : qI L.1 q = false) (h : Fr L s t) : Fr L s (sA t q g) :=
  ⟨fun p hp => by show (if p = q then g else t.1 p) = s.1 p; rw [if_neg (qI_ne hq hp)]; exact h.1 p hp, h.2⟩
theorem fr_sL {x : Int64} (hq : qI L.2.1 q = false) (h : Fr L s t) : Fr L s (sL t q j x) :=
  ⟨h.1, fun p hp => by show (if p = q then vp_updL (t.2.1 q) j x else t.2.1 p) = s.2.1 p; rw [if_neg (qI_ne hq hp)]; exact h.2.1 p hp, h.2.2⟩
theorem fr_sB {g : Nat → Int64} (hq : qI L.2.1 q = false) (h : Fr L s t) : Fr L s (sB t q g) :=
  ⟨h.1, fun p hp => by show (if p = q then g else t.2.1 p) = s.2.1 p; rw [if_neg (qI_ne hq hp)]; exact h.2.1 p hp, h.2.2⟩
theorem fr_sF {x : Int32} (hq : qF L.2.2.1 q j = false) (h : Fr L s t) : Fr L s (sF t q j x) :=
  ⟨h.1, h.2.1, fun p i hp => by show (if p = q ∧ i = j then x else t.2.2.1 p i) = s.2.2.1 p i; rw [if_neg (qF_ne hq hp)]; exact h.2.2.1 p i hp, h.2.2.2⟩
theorem fr_sG {x : Int64} (hq : qF L.2.2.2 q j = false) (h : Fr L s t) : Fr L s (sG t q j x) :=
  ⟨h.1, h.2.1, h.2.2.1, fun p i hp => by show (if p = q ∧ i = j then x else t.2.2.2.1 p i) = s.2.2.2.1 p i; rw [if_neg (qF_ne hq hp)]; exact h.2.2.2 p i hp⟩
theorem qI_sub {l k : List Nat} (h : k.all (fun q => !(qI l q)) = true) (hq : qI l q = true) : qI k q = true := by
  cases e : qI k q with
  | true => rfl
  | false =>
    unfold qI at e
    simp only [Bool.not_eq_false', List.any_eq_true] at e
    obtain ⟨a, ha, hb⟩ := e
    have := List.all_eq_true.mp h a ha
    rw [Nat.eq_of_beq_eq_true hb, hq] at this
    cases this
theorem qF_sub {l k : List (Nat × Nat)} (h : k.all (fun e => !(qF l e.1 e.2)) = true) (hq : qF l q j = true) : qF k q j = true := by
  cases e : qF k q j with
  | true => rfl
  | false =>
    unfold qF at e
    simp only [Bool.not_eq_false', List.any_eq_true, Bool.and_eq_true] at e
    obtain ⟨a, ha, hb, hc⟩ := e
    have := List.all_eq_true.mp h a ha
    rw [Nat.eq_of_beq_eq_true hb, Nat.eq_of_beq_eq_true hc, hq] at this
    cases this
theorem fr_tr (hM : fsb M L = true) (h : Fr L s t) (h2 : Fr M t u) : Fr L s u := by
  unfold fsb at hM
  simp only [Bool.and_eq_true] at hM
  exact ⟨fun q hq => (h2.1 q (qI_sub hM.1.1.1 hq)).trans (h.1 q hq), fun q hq => (h2.2.1 q (qI_sub hM.1.1.2 hq)).trans (h.2.1 q hq), fun q k hq => (h2.2.2.1 q k (qF_sub hM.1.2 hq)).trans (h.2.2.1 q k hq), fun q k hq => (h2.2.2.2 q k (qF_sub hM.2 hq)).trans (h.2.2.2 q k hq)⟩
theorem fr_F {x : Int32} {k : Nat} (e : x = s.2.2.1 q k) (h : Fr L s t) (hq : qF L.2.2.1 q k = true) : x = t.2.2.1 q k := e.trans (h.2.2.1 q k hq).symm
end FRM
noncomputable def gE1 (Z : AmZ) (A : Nat → Nat) (ex : va_W) (L : FM) (s : GS) : AmX := fun e u => e = am_IA ∧ ∃ t, Inv t ∧ Fr L s t ∧ u = WW Z A t ++ ex
theorem i_rng (x : Int32) : In x (-2147483648) 2147483647 := by
  have h1 := Int32.le_toInt x
  have h2 := Int32.toInt_lt x
  exact ⟨by omega, by omega⟩
theorem l_rng (x : Int64) : InL x (-9223372036854775808) 9223372036854775807 := by
  have h1 := Int64.le_toInt x
  have h2 := Int64.toInt_lt x
  exact ⟨by omega, by omega⟩
section GI
variable {s : GS} {q j : Nat} {x y z : Int32} {a b c e : Int}
theorem rng_I (h : Rng s) {n : Nat} {t : Nat} (lo hi : Int) (hw : wak q t n = true) (hx : vp_in x n) (hr : rI q = (lo, hi)) (hz : z = s.1 q x.toNatClampNeg) : In z lo hi := by
  have e := h.1 q x.toNatClampNeg (by rw [(wak_w hw).2.2]; exact Nat.not_le.mp fun k => hx (Or.inr k))
  rw [hr] at e
  rw [hz]
  exact e
theorem rng_F (h : Rng s) (lo hi : Int) (hr : rF q j = (lo, hi)) (hz : z = s.2.2.1 q j) : In z lo hi := by
  have e := h.2.1 q j
  rw [hr] at e
  rw [hz]
  exact e
theorem inv_I (h : Inv s) {n : Nat} {t : Nat} (lo hi : Int) (hw : wak q t n = true) (hx : vp_in x n) (hr : rI q = (lo, hi)) (hz : z = s.1 q x.toNatClampNeg) : In z lo hi := rng_I h.1 lo hi hw hx hr hz
theorem inv_F (h : Inv s) (lo hi : Int) (hr : rF q j = (lo, hi)) (hz : z = s.2.2.1 q j) : In z lo hi := rng_F h.1 lo hi hr hz
theorem mI_I (hp : pI q = false) {g : Nat → Int32} : (fun p => if pI p = true then (if p = q then g else s.1 p) else fun _ => (0 : Int32)) = mI s := by
  funext p
  unfold mI
  by_cases e : p = q
  · subst e
    rw [hp]
    rfl
  · rw [if_neg e]
theorem rng_sI (h : Rng s) {lo hi : Int} (hr : rI q = (lo, hi)) (hx : In x lo hi) : Rng (sI s q j x) := by
  refine ⟨fun p i hi => ?_, h.2⟩
  show In ((if p = q then upd (s.1 q) j x else s.1 p) i) _ _
  by_cases e : p = q
  · subst e
    rw [if_pos rfl]
    unfold upd
    by_cases k : i = j
    · rw [if_pos k, hr]; exact hx
    · rw [if_neg k]; exact h.1 p i hi
  · rw [if_neg e]; exact h.1 p i hi
theorem inv_sI (h : Inv s) {lo hi : Int} (hr : rI q = (lo, hi)) (hx : In x lo hi) (hp : pI q = false := by rfl) : Inv (sI s q j x) := by
  refine ⟨rng_sI h.1 hr hx, ?_⟩
  have e : mI (sI s q j x) = mI s := mI_I hp
  rw [e]
  exact h.2
theorem rng_sF (h : Rng s) {lo hi : Int} (hr : rF q j = (lo, hi)) (hx : In x lo hi) : Rng (sF s q j x) := by
  refine ⟨h.1, fun p i => ?_, h.2.2⟩
  show In (if p = q ∧ i = j then x else s.2.2.1 p i) _ _
  by_cases e : p = q ∧ i = j
  · rw [if_pos e, e.1, e.2, hr]; exact hx
  · rw [if_neg e]; exact h.2.1 p i
theorem inv_sF (h : Inv s) {lo hi : Int} (hr : rF q j = (lo, hi)) (hx : In x lo hi) (hp : pF q j = false := by rfl) : Inv (sF s q j x) := by
  refine ⟨rng_sF h.1 hr hx, ?_⟩
  have e : mF (sF s q j x) = mF s := by
    funext p i
    show (if pF p i = true then (if p = q ∧ i = j then x else s.2.2.1 p i) else 0) = if pF p i = true then s.2.2.1 p i else 0
    by_cases e : p = q ∧ i = j
    · rw [e.1, e.2, hp]
      rfl
    · rw [if_neg e]
  rw [e]
  exact h.2
theorem rng_sA (h : Rng s) {g : Nat → Int32} (hg : ∀ i, i < wn q → In (g i) (rI q).1 (rI q).2) : Rng (sA s q g) := by
  refine ⟨fun p i hi => ?_, h.2⟩
  show In ((if p = q then g else s.1 p) i) _ _
  by_cases e : p = q
  · subst e; rw [if_pos rfl]; exact hg i hi
  · rw [if_neg e]; exact h.1 p i hi
theorem inv_sA (h : Inv s) {g : Nat → Int32} (hg : ∀ i, i < wn q → In (g i) (rI q).1 (rI q).2) (hp : pI q = false := by rfl) : Inv (sA s q g) := by
  refine ⟨rng_sA h.1 hg, ?_⟩
  have e : mI (sA s q g) = mI s := mI_I hp
  rw [e]
  exact h.2
theorem rng_cpy (h : Rng s) {q2 n0 n1 sp dp n : Nat} {lo hi : Int} (hw : wak q2 0 n0 = true) (hw2 : wak q 0 n1 = true) (h0 : sp + n ≤ n0) (hr2 : rI q2 = (a, b)) (hr : rI q = (lo, hi)) (hk : decide (lo ≤ a ∧ b ≤ hi) = true) : Rng (sA s q (va_cpy (s.1 q2) (s.1 q) sp dp n)) := by
  refine rng_sA h (fun i hi2 => ?_)
  have hk := of_decide_eq_true hk
  unfold va_cpy
  split
  · have e := h.1 q2 (sp + (i - dp)) (by rw [(wak_w hw).2.2]; omega)
    rw [hr2] at e
    rw [hr]
    exact ⟨Int.le_trans hk.1 e.1, Int.le_trans e.2 hk.2⟩
  · exact h.1 q i hi2
theorem inv_cpy (h : Inv s) {q2 n0 n1 sp dp n : Nat} {lo hi : Int} (hw : wak q2 0 n0 = true) (hw2 : wak q 0 n1 = true) (h0 : sp + n ≤ n0) (hr2 : rI q2 = (a, b)) (hr : rI q = (lo, hi)) (hk : decide (lo ≤ a ∧ b ≤ hi) = true) (hp : pI q = false := by rfl) : Inv (sA s q (va_cpy (s.1 q2) (s.1 q) sp dp n)) := by
  refine ⟨rng_cpy h.1 hw hw2 h0 hr2 hr hk, ?_⟩
  have e : mI (sA s q (va_cpy (s.1 q2) (s.1 q) sp dp n)) = mI s := mI_I hp
  rw [e]
  exact h.2
theorem rng_sB (h : Rng s) {g : Nat → Int64} (hg : ∀ i, i < wn q → InL (g i) (rL q).1 (rL q).2) : Rng (sB s q g) := by
  refine ⟨h.1, h.2.1, fun p i hi => ?_, h.2.2.2⟩
  show InL ((if p = q then g else s.2.1 p) i) _ _
  by_cases e : p = q
  · subst e; rw [if_pos rfl]; exact hg i hi
  · rw [if_neg e]; exact h.2.2.1 p i hi
theorem inv_sB (h : Inv s) {g : Nat → Int64} (hg : ∀ i, i < wn q → InL (g i) (rL q).1 (rL q).2) : Inv (sB s q g) := ⟨rng_sB h.1 hg, h.2⟩
theorem rng_sL (h : Rng s) {x : Int64} {lo hi : Int} (hr : rL q = (lo, hi)) (hx : InL x lo hi) : Rng (sL s q j x) := by
  refine ⟨h.1, h.2.1, fun p i hi => ?_, h.2.2.2⟩
  show InL ((if p = q then vp_updL (s.2.1 q) j x else s.2.1 p) i) _ _
  by_cases e : p = q
  · subst e
    rw [if_pos rfl]
    unfold vp_updL
    by_cases k : i = j
    · rw [if_pos k, hr]; exact hx
    · rw [if_neg k]; exact h.2.2.1 p i hi
  · rw [if_neg e]; exact h.2.2.1 p i hi
theorem rng_sG (h : Rng s) {x : Int64} {lo hi : Int} (hr : rG q j = (lo, hi)) (hx : InL x lo hi) : Rng (sG s q j x) := by
  refine ⟨h.1, h.2.1, h.2.2.1, fun p i => ?_⟩
  show InL (if p = q ∧ i = j then x else s.2.2.2.1 p i) _ _
  by_cases e : p = q ∧ i = j
  · rw [if_pos e, e.1, e.2, hr]; exact hx
  · rw [if_neg e]; exact h.2.2.2 p i
theorem inv_sL (h : Inv s) {x : Int64} {lo hi : Int} (hr : rL q = (lo, hi)) (hx : InL x lo hi) : Inv (sL s q j x) := ⟨rng_sL h.1 hr hx, h.2⟩
theorem inv_sG (h : Inv s) {x : Int64} {lo hi : Int} (hr : rG q j = (lo, hi)) (hx : InL x lo hi) : Inv (sG s q j x) := ⟨rng_sG h.1 hr hx, h.2⟩
theorem rng_L {z : Int64} (h : Rng s) {n : Nat} (lo hi : Int) (hw : wak q 1 n = true) (hx : vp_in x n) (hr : rL q = (lo, hi)) (hz : z = s.2.1 q x.toNatClampNeg) : InL z lo hi := by
  have e := h.2.2.1 q x.toNatClampNeg (by rw [(wak_w hw).2.2]; exact Nat.not_le.mp fun k => hx (Or.inr k))
  rw [hr] at e
  rw [hz]
  exact e
theorem rng_G {z : Int64} (h : Rng s) (lo hi : Int) (hr : rG q j = (lo, hi)) (hz : z = s.2.2.2.1 q j) : InL z lo hi := by
  have e := h.2.2.2 q j
  rw [hr] at e
  rw [hz]
  exact e
theorem inv_L {z : Int64} (h : Inv s) {n : Nat} (lo hi : Int) (hw : wak q 1 n = true) (hx : vp_in x n) (hr : rL q = (lo, hi)) (hz : z = s.2.1 q x.toNatClampNeg) : InL z lo hi := rng_L h.1 lo hi hw hx hr hz
theorem inv_G {z : Int64} (h : Inv s) (lo hi : Int) (hr : rG q j = (lo, hi)) (hz : z = s.2.2.2.1 q j) : InL z lo hi := rng_G h.1 lo hi hr hz
theorem rng_cpL (h : Rng s) {q2 n0 sp dp n : Nat} {lo hi : Int} (hw : wak q2 1 n0 = true) (h0 : sp + n ≤ n0) (hr2 : rL q2 = (a, b)) (hr : rL q = (lo, hi)) (hk : decide (lo ≤ a ∧ b ≤ hi) = true) : Rng (sB s q (va_cpy (s.2.1 q2) (s.2.1 q) sp dp n)) := by
  refine rng_sB h (fun i hi2 => ?_)
  have hk := of_decide_eq_true hk
  unfold va_cpy
  split
  · have e := h.2.2.1 q2 (sp + (i - dp)) (by rw [(wak_w hw).2.2]; omega)
    rw [hr2] at e
    rw [hr]
    exact ⟨Int.le_trans hk.1 e.1, Int.le_trans e.2 hk.2⟩
  · exact h.2.2.1 q i hi2
theorem inv_cpL (h : Inv s) {q2 n0 sp dp n : Nat} {lo hi : Int} (hw : wak q2 1 n0 = true) (h0 : sp + n ≤ n0) (hr2 : rL q2 = (a, b)) (hr : rL q = (lo, hi)) (hk : decide (lo ≤ a ∧ b ≤ hi) = true) : Inv (sB s q (va_cpy (s.2.1 q2) (s.2.1 q) sp dp n)) := ⟨rng_cpL h.1 hw h0 hr2 hr hk, h.2⟩
/-- what is known of the contents of one row stays where that row isn't written -/
theorem mI_at (hp : pI q = true) : mI s q = s.1 q := if_pos hp
theorem mF_at (hp : pF q j = true) : mF s q j = s.2.2.1 q j := if_pos hp
theorem fr_mI {L : FM} {t : GS} (h : Fr L s t) (hq : qI L.1 q = true) : mI t q = mI s q := by
  unfold mI
  rw [h.1 q hq]
theorem fr_mF {L : FM} {t : GS} (h : Fr L s t) (hq : qF L.2.2.1 q j = true) : mF t q j = mF s q j := by
  unfold mF
  rw [h.2.2.1 q j hq]
def qG1 (L : FM) (b : Nat) : Bool := qI L.1 (b + 2) && qI L.1 (b + 3)
def qG2 (L : FM) (b : Nat) : Bool := qI L.1 (b + 12) && (qI L.1 (b + 7) && (qI L.1 (b + 8) && qI L.1 (b + 9)))
def qG3 (L : FM) (b : Nat) : Bool := qI L.1 (b + 13) && (qI L.1 (b + 10) && qI L.1 (b + 11))
def qG4 (L : FM) (b : Nat) : Bool := qF L.2.2.1 b 0 && qF L.2.2.1 b 3
def qG5 (L : FM) (b : Nat) : Bool := qF L.2.2.1 b 4
theorem bl_and {a b : Bool} (h : (a && b) = true) : a = true ∧ b = true := by
  cases a
  · cases h
  · exact ⟨rfl, h⟩
theorem kk_g {L : FM} {t : GS} {b : Nat} (h : KG b (mI s) (mF s)) (hF : Fr L s t) (c1 : qG1 L b = true) (c2 : qG2 L b = true) (c3 : qG3 L b = true) (d1 : qG4 L b = true) (d2 : qG5 L b = true) : KG b (mI t) (mF t) := by
  obtain ⟨a2, a3⟩ := bl_and c1
  obtain ⟨a12, c2⟩ := bl_and c2
  obtain ⟨a7, c2⟩ := bl_and c2
  obtain ⟨a8, a9⟩ := bl_and c2
  obtain ⟨a13, c3⟩ := bl_and c3
  obtain ⟨a10, a11⟩ := bl_and c3
  obtain ⟨f0, f3⟩ := bl_and d1
  have f4 : qF L.2.2.1 b 4 = true := d2
  unfold KG at h ⊢
  rw [fr_mI hF a2, fr_mI hF a3, fr_mI hF a7, fr_mI hF a8, fr_mI hF a9, fr_mI hF a10, fr_mI hF a11, fr_mI hF a12, fr_mI hF a13, fr_mF hF f0, fr_mF hF f3, fr_mF hF f4]
  exact h
/-- none of the cells of KS is written -/
def kpok (L : FM) : Bool := qI L.1 184 && qI L.1 185 && qI L.1 186 && qI L.1 103 && qF L.2.2.1 102 1 && qF L.2.2.1 102 2
def ksok (L : FM) : Bool := qI L.1 134 && kpok L
theorem kk_p {L : FM} {t : GS} (h : KP (mI s 184) (mI s 185) (mI s 186) ∧ KC (mI s 103) (mF s 102 1) (mF s 102 2)) (hF : Fr L s t) (hk : kpok L = true) : KP (mI t 184) (mI t 185) (mI t 186) ∧ KC (mI t 103) (mF t 102 1) (mF t 102 2) := by
  unfold kpok at hk
  simp only [Bool.and_eq_true] at hk
  obtain ⟨⟨⟨⟨⟨a1, a2⟩, a3⟩, a4⟩, b1⟩, b2⟩ := hk
  rw [fr_mI hF a1, fr_mI hF a2, fr_mI hF a3, fr_mI hF a4, fr_mF hF b1, fr_mF hF b2]
  exact h
theorem kk_s {L : FM} {t : GS} (h : KS (mI s) (mF s)) (hF : Fr L s t) (hk : ksok L = true) : KS (mI t) (mF t) := by
  unfold ksok at hk
  simp only [Bool.and_eq_true] at hk
  obtain ⟨a1, a2⟩ := hk
  unfold KS at h ⊢
  refine ⟨?_, kk_p h.2 hF a2⟩
  rw [fr_mI hF a1]
  exact h.1
theorem kk_un {t : GS} {b : Nat} (g4 : pF b 0 = true) (g5 : pF b 4 = true) (h4 : (t.2.2.1 b 4).toInt = -1) (h0 : 0 ≤ (t.2.2.1 b 0).toInt) : KG b (mI t) (mF t) := by
  unfold KG
  rw [mF_at g4, mF_at g5]
  exact ⟨by omega, fun h => by omega⟩
/-- none of the cells of KR is written -/
def krok (L : FM) : Bool := qI L.1 110 && qI L.1 112 && qI L.1 113 && qI L.1 114 && qI L.1 118 && qI L.1 119 && qI L.1 120 && qI L.1 121 && qF L.2.2.1 109 9 && qF L.2.2.1 109 18 && qF L.2.2.1 109 19 && qF L.2.2.1 109 20
theorem kk_r {L : FM} {t : GS} (h : KR (mI s) (mF s)) (hF : Fr L s t) (hk : krok L = true) : KR (mI t) (mF t) := by
  unfold krok at hk
  simp only [Bool.and_eq_true] at hk
  obtain ⟨⟨⟨⟨⟨⟨⟨⟨⟨⟨⟨a1, a2⟩, a3⟩, a4⟩, a5⟩, a6⟩, a7⟩, a8⟩, b1⟩, b2⟩, b3⟩, b4⟩ := hk
  unfold KR at h ⊢
  rw [fr_mI hF a1, fr_mI hF a2, fr_mI hF a3, fr_mI hF a4, fr_mI hF a5, fr_mI hF a6, fr_mI hF a7, fr_mI hF a8, fr_mF hF b1, fr_mF hF b2, fr_mF hF b3, fr_mF hF b4]
  exact h
/-- a row of the short ways is written -/
theorem inv_sS (h : Inv s) (hx : In x 0 159) (h5 : j % 5 = 0 → x.toInt ≤ 4) : Inv (sI s 134 j x) := by
  have hF : Fr ([134], [], [], []) s (sI s 134 j x) := fr_sI rfl fr_rf
  refine ⟨rng_sI h.1 rfl hx, kk_g h.2.1 hF rfl rfl rfl rfl rfl, kk_g h.2.2.1 hF rfl rfl rfl rfl rfl, ⟨fun i hi => ?_, kk_p h.2.2.2.1.2 hF rfl⟩, kk_r h.2.2.2.2 hF rfl⟩
  have h1 := h.2.2.2.1.1 i hi
  rw [mI_at rfl] at h1 ⊢
  show ((if 134 = 134 then upd (s.1 134) j x else s.1 134) (5 * i)).toInt ≤ 4
  rw [if_pos rfl]
  unfold upd
  by_cases e : 5 * i = j
  · rw [if_pos e]; exact h5 (by omega)
  · rw [if_neg e]; exact h1
theorem ks_u (h : Inv s) (hz : z = s.1 134 x.toNatClampNeg) (hx : x.toInt = 5 * y.toInt) (hy : In y 0 2000) (h0 : In z 0 159) : In z 0 4 := by
  obtain ⟨y1, y2⟩ := hy
  have e : x.toNatClampNeg = 5 * y.toInt.toNat := by
    show x.toInt.toNat = _
    omega
  have h1 := h.2.2.2.1.1 y.toInt.toNat (by omega)
  rw [mI_at rfl, ← e, ← hz] at h1
  exact ⟨h0.1, h1⟩
/-- an arc of a node's row of arcs that come to it -/
theorem tg_b {b : Nat} (hk : KG b (mI s) (mF s)) (g1 : pI (b + 2) = true) (g2 : pI (b + 12) = true) (g3 : pI (b + 13) = true) (g4 : pF b 0 = true) (g5 : pF b 4 = true) (hv : (s.2.2.1 b 4).toInt = (s.2.2.1 b 0).toInt) {v i p u w : Int32} (hw : w = s.1 (b + 12) v.toNatClampNeg) (hv1 : In v a 32) (hi : In i 0 c) (hlt : i.toInt < w.toInt) (hp : p = s.1 (b + 13) i.toNatClampNeg) (hu : u = s.1 (b + 2) p.toNatClampNeg) (h31 : In u (-1) 31) : In u 0 31 := by
  obtain ⟨-, h⟩ := hk
  rw [mF_at g4, mF_at g5, mI_at g1, mI_at g2, mI_at g3] at h
  obtain ⟨h1, -, h2, -⟩ := h hv
  have l1 := (h1 v.toNatClampNeg (by
    show v.toInt.toNat ≤ 32
    have := hv1.2
    omega)).2
  rw [← hw] at l1
  obtain ⟨u', q1, q2, q3⟩ := pr_at (gG (s.1 (b + 2)) (mI s (b + 3))) (mF s b 3).toInt.toNat i.toInt hi.1 v.toNatClampNeg (by omega)
  have hv32 : v.toNatClampNeg ≤ 32 := by
    show v.toInt.toNat ≤ 32
    have := hv1.2
    omega
  obtain ⟨p', r1, r2, r3⟩ := cn_ex (r := i.toInt - pr (gG (s.1 (b + 2)) (mI s (b + 3))) (mF s b 3).toInt.toNat u') (by omega) (n := (mF s b 3).toInt.toNat) (F := gG (s.1 (b + 2)) (mI s (b + 3))) (u := (u' : Int)) (by
    have e : pr (gG (s.1 (b + 2)) (mI s (b + 3))) (mF s b 3).toInt.toNat (u' + 1) = pr (gG (s.1 (b + 2)) (mI s (b + 3))) (mF s b 3).toInt.toNat u' + cn (gG (s.1 (b + 2)) (mI s (b + 3))) (u' : Int) (mF s b 3).toInt.toNat := rfl
    omega)
  have l2 := h2 p' u' (Nat.zero_le _) r1 (by omega) r2
  rw [r3, show (pr (gG (s.1 (b + 2)) (mI s (b + 3))) (mF s b 3).toInt.toNat u' + (i.toInt - pr (gG (s.1 (b + 2)) (mI s (b + 3))) (mF s b 3).toInt.toNat u')).toNat = i.toNatClampNeg by (show _ = i.toInt.toNat); omega, ← hp] at l2
  have ep : p.toNatClampNeg = p' := by
    show p.toInt.toNat = p'
    omega
  have hne : (s.1 (b + 2) p').toInt ≠ -1 := by
    intro c
    unfold gG at r2
    rw [if_neg (fun z => z.2 c)] at r2
    omega
  rw [hu, ep] at h31 ⊢
  exact ⟨by have := h31.1; omega, h31.2⟩
theorem sI_ne {p i : Nat} (h : Nat.beq p q = false) (e : z = s.1 p i) : z = (sI s q j x).1 p i := by
  show z = (if p = q then upd (s.1 q) j x else s.1 p) i
  rw [if_neg (Nat.ne_of_beq_eq_false h), e]
theorem sI_get : x = (sI s q j x).1 q j := by simp [sI, upd]
theorem sF_get : x = (sF s q j x).2.2.1 q j := by simp [sF]
theorem sF_ne {p i : Nat} (h : (Nat.beq p q && Nat.beq i j) = false) (e : z = s.2.2.1 p i) : z = (sF s q j x).2.2.1 p i := by
  show z = if p = q ∧ i = j then x else s.2.2.1 p i
  rw [if_neg, e]
  intro k
  rw [k.1, k.2, Nat.beq_refl, Nat.beq_refl] at h
  cases h
theorem sI_F {p k : Nat} (e : z = s.2.2.1 p k) : z = (sI s q j x).2.2.1 p k := e
theorem sL_F {p k : Nat} {x : Int64} (e : z = s.2.2.1 p k) : z = (sL s q j x).2.2.1 p k := e
theorem sG_F {p k : Nat} {x : Int64} (e : z = s.2.2.1 p k) : z = (sG s q j x).2.2.1 p k := e
theorem sF_I {p k : Nat} (e : z = s.1 p k) : z = (sF s q j x).1 p k := e
theorem sL_I {p k : Nat} {x : Int64} (e : z = s.1 p k) : z = (sL s q j x).1 p k := e
theorem in_c (c : Int) (h : decide (-2147483648 ≤ c ∧ c ≤ 2147483647) = true) : In (Int32.ofInt c) c c := by
  have h := of_decide_eq_true h
  have e : (Int32.ofInt c).toInt = c := Int32.toInt_ofInt_of_le (by omega) (by omega)
  exact ⟨by omega, by omega⟩
theorem t_add (hz : z = x + y) (hx : In x a b) (hy : In y c e) (h0 : decide (-2147483648 ≤ a + c ∧ b + e ≤ 2147483647) = true) : z.toInt = x.toInt + y.toInt := by
  have h0 := of_decide_eq_true h0
  obtain ⟨x1, x2⟩ := hx
  obtain ⟨y1, y2⟩ := hy
  rw [hz, Int32.toInt_add]
  exact Int.bmod_eq_of_le (by omega) (by omega)
theorem t_sub (hz : z = x - y) (hx : In x a b) (hy : In y c e) (h0 : decide (-2147483648 ≤ a - e ∧ b - c ≤ 2147483647) = true) : z.toInt = x.toInt - y.toInt := by
  have h0 := of_decide_eq_true h0
  obtain ⟨x1, x2⟩ := hx
  obtain ⟨y1, y2⟩ := hy
  rw [hz, Int32.toInt_sub]
  exact Int.bmod_eq_of_le (by omega) (by omega)
theorem in_add (lo hi : Int) (hz : z = x + y) (hx : In x a b) (hy : In y c e) (h0 : decide (-2147483648 ≤ a + c ∧ b + e ≤ 2147483647) = true) (h1 : decide (lo ≤ a + c ∧ b + e ≤ hi) = true) : In z lo hi := by
  have h := t_add hz hx hy h0
  have h1 := of_decide_eq_true h1
  obtain ⟨x1, x2⟩ := hx
  obtain ⟨y1, y2⟩ := hy
  exact ⟨by omega, by omega⟩
theorem in_sub (lo hi : Int) (hz : z = x - y) (hx : In x a b) (hy : In y c e) (h0 : decide (-2147483648 ≤ a - e ∧ b - c ≤ 2147483647) = true) (h1 : decide (lo ≤ a - e ∧ b - c ≤ hi) = true) : In z lo hi := by
  have h := t_sub hz hx hy h0
  have h1 := of_decide_eq_true h1
  obtain ⟨x1, x2⟩ := hx
  obtain ⟨y1, y2⟩ := hy
  exact ⟨by omega, by omega⟩
theorem in_and2 (hz : z = x &&& y) (hy : In y c e) (h0 : decide (0 ≤ c) = true) : In z 0 e := by
  have h0 := of_decide_eq_true h0
  obtain ⟨y1, y2⟩ := hy
  have hb : z.toBitVec = x.toBitVec &&& y.toBitVec := by rw [hz]; rfl
  have hl : z.toBitVec.toNat ≤ y.toBitVec.toNat := by rw [hb, BitVec.toNat_and]; exact Nat.and_le_right
  have ey : 2 * y.toBitVec.toNat < 2 ^ 32 := by
    have hy0 : 0 ≤ y.toBitVec.toInt := Int.le_trans h0 y1
    rw [BitVec.toInt_eq_toNat_cond] at hy0
    split at hy0
    · assumption
    · have := y.toBitVec.isLt
      omega
  have e1 : y.toInt = (y.toBitVec.toNat : Int) := BitVec.toInt_eq_toNat_of_lt ey
  have e2 : z.toInt = (z.toBitVec.toNat : Int) := BitVec.toInt_eq_toNat_of_lt (by omega)
  exact ⟨by omega, by omega⟩
theorem t_div {k : Int} (hz : z = x / Int32.ofInt k) (hx : In x a b) (h0 : decide (0 < k ∧ k ≤ 2147483647 ∧ 0 ≤ a) = true) : z.toInt = x.toInt / k := by
  have h0 := of_decide_eq_true h0
  obtain ⟨x1, x2⟩ := hx
  have e : (Int32.ofInt k).toInt = k := Int32.toInt_ofInt_of_le (by omega) (by omega)
  have hx0 : 0 ≤ x.toInt := by omega
  have hxm := Int32.toInt_lt x
  have q0 : 0 ≤ x.toInt / k := Int.ediv_nonneg hx0 (by omega)
  have q1 : x.toInt / k ≤ x.toInt := Int.ediv_le_self k hx0
  rw [hz, Int32.toInt_div, e, Int.tdiv_eq_ediv_of_nonneg hx0]
  exact Int.bmod_eq_of_le (by omega) (by omega)
theorem in_div (lo hi : Int) {k : Int} (hz : z = x / Int32.ofInt k) (hx : In x a b) (h0 : decide (0 < k ∧ k ≤ 2147483647 ∧ 0 ≤ a) = true) (h1 : decide (lo ≤ a / k ∧ b / k ≤ hi) = true) : In z lo hi := by
  have h := t_div hz hx h0
  have h0 := of_decide_eq_true h0
  have h1 := of_decide_eq_true h1
  obtain ⟨x1, x2⟩ := hx
  have m1 : a / k ≤ x.toInt / k := Int.ediv_le_ediv h0.1 x1
  have m2 : x.toInt / k ≤ b / k := Int.ediv_le_ediv h0.1 x2
  exact ⟨by omega, by omega⟩
theorem in_rem (hi : Int) {k : Int} (hz : z = x - x / Int32.ofInt k * Int32.ofInt k) (hx : In x a b) (h0 : decide (0 < k ∧ k ≤ 2147483647 ∧ 0 ≤ a) = true) (h1 : decide (k - 1 ≤ hi) = true) : In z 0 hi := by
  have h := t_div (z := x / Int32.ofInt k) rfl hx h0
  have h0 := of_decide_eq_true h0
  have h1 := of_decide_eq_true h1
  obtain ⟨x1, x2⟩ := hx
  have e : (Int32.ofInt k).toInt = k := Int32.toInt_ofInt_of_le (by omega) (by omega)
  have hxm := Int32.toInt_lt x
  have r0 := Int.emod_nonneg x.toInt (show k ≠ 0 by omega)
  have r1 := Int.emod_lt_of_pos x.toInt h0.1
  have rd := Int.mul_ediv_add_emod x.toInt k
  have e1 : (x / Int32.ofInt k * Int32.ofInt k).toInt = k * (x.toInt / k) := by
    rw [Int32.toInt_mul, h, e, Int.mul_comm]
    exact Int.bmod_eq_of_le (by omega) (by omega)
  have e2 : z.toInt = x.toInt - k * (x.toInt / k) := by
    rw [hz, Int32.toInt_sub, e1]
    exact Int.bmod_eq_of_le (by omega) (by omega)
  exact ⟨by omega, by omega⟩
theorem dv_nz (hy : In y c e) (h0 : decide (1 ≤ c) = true) : ¬ y = 0 := by
  have h0 := of_decide_eq_true h0
  intro q
  rw [q] at hy
  have h1 := hy.1
  have e0 : (0 : Int32).toInt = 0 := rfl
  omega
theorem t_divv (hz : z = x / y) (hx : In x a b) (hy : In y c e) (h0 : decide (1 ≤ c ∧ 0 ≤ a) = true) : z.toInt = x.toInt / y.toInt := by
  have h0 := of_decide_eq_true h0
  obtain ⟨x1, x2⟩ := hx
  obtain ⟨y1, y2⟩ := hy
  have hx0 : 0 ≤ x.toInt := by omega
  have hxm := Int32.toInt_lt x
  have q0 : 0 ≤ x.toInt / y.toInt := Int.ediv_nonneg hx0 (by omega)
  have q1 : x.toInt / y.toInt ≤ x.toInt := Int.ediv_le_self _ hx0
  rw [hz, Int32.toInt_div, Int.tdiv_eq_ediv_of_nonneg hx0]
  exact Int.bmod_eq_of_le (by omega) (by omega)
theorem in_divv (hz : z = x / y) (hx : In x a b) (hy : In y c e) (h0 : decide (1 ≤ c ∧ 0 ≤ a) = true) : In z 0 b := by
  have h := t_divv hz hx hy h0
  have h0 := of_decide_eq_true h0
  obtain ⟨x1, x2⟩ := hx
  obtain ⟨y1, y2⟩ := hy
  have q0 : 0 ≤ x.toInt / y.toInt := Int.ediv_nonneg (by omega) (by omega)
  have q1 : x.toInt / y.toInt ≤ x.toInt := Int.ediv_le_self _ (by omega)
  exact ⟨by omega, by omega⟩
theorem in_remv (hi : Int) (hz : z = x - x / y * y) (hx : In x a b) (hy : In y c e) (h0 : decide (1 ≤ c ∧ 0 ≤ a ∧ e - 1 ≤ hi) = true) : In z 0 hi := by
  have h0 := of_decide_eq_true h0
  have h := t_divv (z := x / y) rfl hx hy (decide_eq_true ⟨h0.1, h0.2.1⟩)
  obtain ⟨x1, x2⟩ := hx
  obtain ⟨y1, y2⟩ := hy
  have hxm := Int32.toInt_lt x
  have r0 := Int.emod_nonneg x.toInt (show y.toInt ≠ 0 by omega)
  have r1 := Int.emod_lt_of_pos x.toInt (show 0 < y.toInt by omega)
  have rd := Int.mul_ediv_add_emod x.toInt y.toInt
  have q0 : 0 ≤ y.toInt * (x.toInt / y.toInt) := Int.mul_nonneg (by omega) (Int.ediv_nonneg (by omega) (by omega))
  have e1 : (x / y * y).toInt = y.toInt * (x.toInt / y.toInt) := by
    rw [Int32.toInt_mul, h, Int.mul_comm]
    exact Int.bmod_eq_of_le (by omega) (by omega)
  have e2 : z.toInt = x.toInt - y.toInt * (x.toInt / y.toInt) := by
    rw [hz, Int32.toInt_sub, e1]
    exact Int.bmod_eq_of_le (by omega) (by omega)
  exact ⟨by omega, by omega⟩
/-- times a constant that isn't below 0, on the left or on the right -/
theorem t_mulc (k : Int) (hz : z = Int32.ofInt k * x ∨ z = x * Int32.ofInt k) (hx : In x a b) (h0 : decide (0 ≤ k ∧ k ≤ 2147483647 ∧ -2147483648 ≤ k * a ∧ k * b ≤ 2147483647) = true) : z.toInt = k * x.toInt ∧ k * a ≤ z.toInt ∧ z.toInt ≤ k * b := by
  have h0 := of_decide_eq_true h0
  obtain ⟨x1, x2⟩ := hx
  have e : (Int32.ofInt k).toInt = k := Int32.toInt_ofInt_of_le (by omega) (by omega)
  have m1 : k * a ≤ k * x.toInt := Int.mul_le_mul_of_nonneg_left x1 h0.1
  have m2 : k * x.toInt ≤ k * b := Int.mul_le_mul_of_nonneg_left x2 h0.1
  have g : z.toInt = k * x.toInt := by
    rcases hz with hz | hz
    · rw [hz, Int32.toInt_mul, e]
      exact Int.bmod_eq_of_le (by omega) (by omega)
    · rw [hz, Int32.toInt_mul, e, Int.mul_comm]
      exact Int.bmod_eq_of_le (by omega) (by omega)
  exact ⟨g, by omega, by omega⟩
theorem in_mulc (k lo hi : Int) (hz : z = Int32.ofInt k * x ∨ z = x * Int32.ofInt k) (hx : In x a b) (h0 : decide (0 ≤ k ∧ k ≤ 2147483647 ∧ -2147483648 ≤ k * a ∧ k * b ≤ 2147483647) = true) (h1 : decide (lo ≤ k * a ∧ k * b ≤ hi) = true) : In z lo hi := by
  have h := t_mulc k hz hx h0
  have h1 := of_decide_eq_true h1
  exact ⟨by omega, by omega⟩

theorem r_lt1 (lo hi : Int) (h : x.toInt < y.toInt) (hx : In x a b) (hy : In y c e) (h0 : decide (lo ≤ a ∧ (b ≤ hi ∨ e - 1 ≤ hi)) = true) : In x lo hi := by
  have h0 := of_decide_eq_true h0
  obtain ⟨x1, x2⟩ := hx
  obtain ⟨y1, y2⟩ := hy
  first | exact ⟨by omega, by omega⟩ | omega
theorem r_lt2 (lo hi : Int) (h : x.toInt < y.toInt) (hx : In x a b) (hy : In y c e) (h0 : decide ((lo ≤ c ∨ lo ≤ a + 1) ∧ e ≤ hi) = true) : In y lo hi := by
  have h0 := of_decide_eq_true h0
  obtain ⟨x1, x2⟩ := hx
  obtain ⟨y1, y2⟩ := hy
  first | exact ⟨by omega, by omega⟩ | omega
theorem r_le1 (lo hi : Int) (h : x.toInt ≤ y.toInt) (hx : In x a b) (hy : In y c e) (h0 : decide (lo ≤ a ∧ (b ≤ hi ∨ e ≤ hi)) = true) : In x lo hi := by
  have h0 := of_decide_eq_true h0
  obtain ⟨x1, x2⟩ := hx
  obtain ⟨y1, y2⟩ := hy
  first | exact ⟨by omega, by omega⟩ | omega
theorem r_le2 (lo hi : Int) (h : x.toInt ≤ y.toInt) (hx : In x a b) (hy : In y c e) (h0 : decide ((lo ≤ c ∨ lo ≤ a) ∧ e ≤ hi) = true) : In y lo hi := by
  have h0 := of_decide_eq_true h0
  obtain ⟨x1, x2⟩ := hx
  obtain ⟨y1, y2⟩ := hy
  first | exact ⟨by omega, by omega⟩ | omega
theorem r_eq1 (lo hi : Int) (h : x.toInt = y.toInt) (hx : In x a b) (hy : In y c e) (h0 : decide ((lo ≤ a ∨ lo ≤ c) ∧ (b ≤ hi ∨ e ≤ hi)) = true) : In x lo hi := by
  have h0 := of_decide_eq_true h0
  obtain ⟨x1, x2⟩ := hx
  obtain ⟨y1, y2⟩ := hy
  first | exact ⟨by omega, by omega⟩ | omega
theorem r_eq2 (lo hi : Int) (h : x.toInt = y.toInt) (hx : In x a b) (hy : In y c e) (h0 : decide ((lo ≤ a ∨ lo ≤ c) ∧ (b ≤ hi ∨ e ≤ hi)) = true) : In y lo hi := by
  have h0 := of_decide_eq_true h0
  obtain ⟨x1, x2⟩ := hx
  obtain ⟨y1, y2⟩ := hy
  first | exact ⟨by omega, by omega⟩ | omega
theorem r_ne1 (lo hi : Int) (h : x.toInt ≠ y.toInt) (hx : In x a b) (hy : In y c e) (h0 : decide (c = e ∧ (lo ≤ a ∨ (a = c ∧ lo ≤ a + 1)) ∧ (b ≤ hi ∨ (b = c ∧ b - 1 ≤ hi))) = true) : In x lo hi := by
  have h0 := of_decide_eq_true h0
  obtain ⟨x1, x2⟩ := hx
  obtain ⟨y1, y2⟩ := hy
  first | exact ⟨by omega, by omega⟩ | omega
theorem n_lt {p : Prop} (h : x.toInt < y.toInt) (hx : In x a b) (hy : In y c e) (h0 : decide (e ≤ a) = true) : p := by
  have h0 := of_decide_eq_true h0
  obtain ⟨x1, x2⟩ := hx
  obtain ⟨y1, y2⟩ := hy
  first | exact ⟨by omega, by omega⟩ | omega
theorem n_le {p : Prop} (h : x.toInt ≤ y.toInt) (hx : In x a b) (hy : In y c e) (h0 : decide (e < a) = true) : p := by
  have h0 := of_decide_eq_true h0
  obtain ⟨x1, x2⟩ := hx
  obtain ⟨y1, y2⟩ := hy
  first | exact ⟨by omega, by omega⟩ | omega
theorem n_eq {p : Prop} (h : x.toInt = y.toInt) (hx : In x a b) (hy : In y c e) (h0 : decide (b < c ∨ e < a) = true) : p := by
  have h0 := of_decide_eq_true h0
  obtain ⟨x1, x2⟩ := hx
  obtain ⟨y1, y2⟩ := hy
  first | exact ⟨by omega, by omega⟩ | omega
theorem n_ne {p : Prop} (h : x.toInt ≠ y.toInt) (hx : In x a b) (hy : In y c e) (h0 : decide (a = b ∧ c = e ∧ a = c) = true) : p := by
  have h0 := of_decide_eq_true h0
  obtain ⟨x1, x2⟩ := hx
  obtain ⟨y1, y2⟩ := hy
  first | exact ⟨by omega, by omega⟩ | omega
theorem lr_lt1 {x y : Int64} (lo hi : Int) (h : x.toInt < y.toInt) (hx : InL x a b) (hy : InL y c e) (h0 : decide (lo ≤ a ∧ (b ≤ hi ∨ e - 1 ≤ hi)) = true) : InL x lo hi := by
  have h0 := of_decide_eq_true h0
  obtain ⟨x1, x2⟩ := hx
  obtain ⟨y1, y2⟩ := hy
  first | exact ⟨by omega, by omega⟩ | omega
theorem lr_lt2 {x y : Int64} (lo hi : Int) (h : x.toInt < y.toInt) (hx : InL x a b) (hy : InL y c e) (h0 : decide ((lo ≤ c ∨ lo ≤ a + 1) ∧ e ≤ hi) = true) : InL y lo hi := by
  have h0 := of_decide_eq_true h0
  obtain ⟨x1, x2⟩ := hx
  obtain ⟨y1, y2⟩ := hy
  first | exact ⟨by omega, by omega⟩ | omega
theorem lr_le1 {x y : Int64} (lo hi : Int) (h : x.toInt ≤ y.toInt) (hx : InL x a b) (hy : InL y c e) (h0 : decide (lo ≤ a ∧ (b ≤ hi ∨ e ≤ hi)) = true) : InL x lo hi := by
  have h0 := of_decide_eq_true h0
  obtain ⟨x1, x2⟩ := hx
  obtain ⟨y1, y2⟩ := hy
  first | exact ⟨by omega, by omega⟩ | omega
theorem lr_le2 {x y : Int64} (lo hi : Int) (h : x.toInt ≤ y.toInt) (hx : InL x a b) (hy : InL y c e) (h0 : decide ((lo ≤ c ∨ lo ≤ a) ∧ e ≤ hi) = true) : InL y lo hi := by
  have h0 := of_decide_eq_true h0
  obtain ⟨x1, x2⟩ := hx
  obtain ⟨y1, y2⟩ := hy
  first | exact ⟨by omega, by omega⟩ | omega
theorem lr_eq1 {x y : Int64} (lo hi : Int) (h : x.toInt = y.toInt) (hx : InL x a b) (hy : InL y c e) (h0 : decide ((lo ≤ a ∨ lo ≤ c) ∧ (b ≤ hi ∨ e ≤ hi)) = true) : InL x lo hi := by
  have h0 := of_decide_eq_true h0
  obtain ⟨x1, x2⟩ := hx
  obtain ⟨y1, y2⟩ := hy
  first | exact ⟨by omega, by omega⟩ | omega
theorem lr_ne1 {x y : Int64} (lo hi : Int) (h : x.toInt ≠ y.toInt) (hx : InL x a b) (hy : InL y c e) (h0 : decide (c = e ∧ (lo ≤ a ∨ (a = c ∧ lo ≤ a + 1)) ∧ (b ≤ hi ∨ (b = c ∧ b - 1 ≤ hi))) = true) : InL x lo hi := by
  have h0 := of_decide_eq_true h0
  obtain ⟨x1, x2⟩ := hx
  obtain ⟨y1, y2⟩ := hy
  first | exact ⟨by omega, by omega⟩ | omega
theorem ln_lt {x y : Int64} {p : Prop} (h : x.toInt < y.toInt) (hx : InL x a b) (hy : InL y c e) (h0 : decide (e ≤ a) = true) : p := by
  have h0 := of_decide_eq_true h0
  obtain ⟨x1, x2⟩ := hx
  obtain ⟨y1, y2⟩ := hy
  first | exact ⟨by omega, by omega⟩ | omega
theorem ln_le {x y : Int64} {p : Prop} (h : x.toInt ≤ y.toInt) (hx : InL x a b) (hy : InL y c e) (h0 : decide (e < a) = true) : p := by
  have h0 := of_decide_eq_true h0
  obtain ⟨x1, x2⟩ := hx
  obtain ⟨y1, y2⟩ := hy
  first | exact ⟨by omega, by omega⟩ | omega
theorem z_lt (lo hi : Int) (h : x.toInt < 0) (hx : In x a b) (h0 : decide (lo ≤ a ∧ (b ≤ hi ∨ -1 ≤ hi)) = true) : In x lo hi := by
  have h0 := of_decide_eq_true h0
  obtain ⟨x1, x2⟩ := hx
  first | exact ⟨by omega, by omega⟩ | omega
theorem zn_lt {p : Prop} (h : x.toInt < 0) (hx : In x a b) (h0 : decide (0 ≤ a) = true) : p := by
  have h0 := of_decide_eq_true h0
  obtain ⟨x1, x2⟩ := hx
  first | exact ⟨by omega, by omega⟩ | omega
theorem z_ge (lo hi : Int) (h : 0 ≤ x.toInt) (hx : In x a b) (h0 : decide ((lo ≤ a ∨ lo ≤ 0) ∧ b ≤ hi) = true) : In x lo hi := by
  have h0 := of_decide_eq_true h0
  obtain ⟨x1, x2⟩ := hx
  first | exact ⟨by omega, by omega⟩ | omega
theorem zn_ge {p : Prop} (h : 0 ≤ x.toInt) (hx : In x a b) (h0 : decide (b < 0) = true) : p := by
  have h0 := of_decide_eq_true h0
  obtain ⟨x1, x2⟩ := hx
  first | exact ⟨by omega, by omega⟩ | omega
theorem z_gt (lo hi : Int) (h : 0 < x.toInt) (hx : In x a b) (h0 : decide ((lo ≤ a ∨ lo ≤ 1) ∧ b ≤ hi) = true) : In x lo hi := by
  have h0 := of_decide_eq_true h0
  obtain ⟨x1, x2⟩ := hx
  first | exact ⟨by omega, by omega⟩ | omega
theorem zn_gt {p : Prop} (h : 0 < x.toInt) (hx : In x a b) (h0 : decide (b ≤ 0) = true) : p := by
  have h0 := of_decide_eq_true h0
  obtain ⟨x1, x2⟩ := hx
  first | exact ⟨by omega, by omega⟩ | omega
theorem z_le (lo hi : Int) (h : x.toInt ≤ 0) (hx : In x a b) (h0 : decide (lo ≤ a ∧ (b ≤ hi ∨ 0 ≤ hi)) = true) : In x lo hi := by
  have h0 := of_decide_eq_true h0
  obtain ⟨x1, x2⟩ := hx
  first | exact ⟨by omega, by omega⟩ | omega
theorem zn_le {p : Prop} (h : x.toInt ≤ 0) (hx : In x a b) (h0 : decide (0 < a) = true) : p := by
  have h0 := of_decide_eq_true h0
  obtain ⟨x1, x2⟩ := hx
  first | exact ⟨by omega, by omega⟩ | omega
theorem z_eq (lo hi : Int) (h : x.toInt = 0) (hx : In x a b) (h0 : decide ((lo ≤ a ∨ lo ≤ 0) ∧ (b ≤ hi ∨ 0 ≤ hi)) = true) : In x lo hi := by
  have h0 := of_decide_eq_true h0
  obtain ⟨x1, x2⟩ := hx
  first | exact ⟨by omega, by omega⟩ | omega
theorem zn_eq {p : Prop} (h : x.toInt = 0) (hx : In x a b) (h0 : decide (b < 0 ∨ 0 < a) = true) : p := by
  have h0 := of_decide_eq_true h0
  obtain ⟨x1, x2⟩ := hx
  first | exact ⟨by omega, by omega⟩ | omega
theorem z_ne (lo hi : Int) (h : x.toInt ≠ 0) (hx : In x a b) (h0 : decide ((lo ≤ a ∨ (a = 0 ∧ lo ≤ 1)) ∧ (b ≤ hi ∨ (b = 0 ∧ -1 ≤ hi))) = true) : In x lo hi := by
  have h0 := of_decide_eq_true h0
  obtain ⟨x1, x2⟩ := hx
  first | exact ⟨by omega, by omega⟩ | omega
theorem zn_ne {p : Prop} (h : x.toInt ≠ 0) (hx : In x a b) (h0 : decide (a = 0 ∧ b = 0) = true) : p := by
  have h0 := of_decide_eq_true h0
  obtain ⟨x1, x2⟩ := hx
  first | exact ⟨by omega, by omega⟩ | omega
theorem u_i2l {k : Int64} (hk : k = x.toInt64) : k.toInt = x.toInt := by rw [hk]; exact Int32.toInt_toInt64 x
theorem l_i {k : Int64} (hk : k = x.toInt64) (hx : In x a b) : InL k a b := by
  unfold InL
  rw [u_i2l hk]
  exact hx
theorem l_b {k : Int64} (hk : k = x.toInt64) (h : InL k a b) : In x a b := by
  unfold InL at h
  rw [u_i2l hk] at h
  exact h
theorem lw {k : Int64} (c e : Int) (h : InL k a b) (h0 : decide (c ≤ a ∧ b ≤ e) = true) : InL k c e := by
  have h0 := of_decide_eq_true h0
  exact ⟨Int.le_trans h0.1 h.1, Int.le_trans h.2 h0.2⟩
theorem l_c (c : Int) (h : decide (-9223372036854775808 ≤ c ∧ c ≤ 9223372036854775807) = true) : InL (Int64.ofInt c) c c := by
  have h := of_decide_eq_true h
  have e : (Int64.ofInt c).toInt = c := Int64.toInt_ofInt_of_le (by omega) (by omega)
  exact ⟨by omega, by omega⟩
theorem lc_in {k l : Int64} (hz : z = lg_cmp k l) : In z (-1) 1 := by
  rcases lg_cmp_cases k l with ⟨-, g⟩ | ⟨-, g⟩ | ⟨-, g⟩ <;> rw [hz, g] <;> exact ⟨by decide, by decide⟩
theorem lc_lt {k l : Int64} (hz : z = lg_cmp k l) (h : z.toInt < 0) : k.toInt < l.toInt := by
  rcases lg_cmp_cases k l with ⟨g, _⟩ | ⟨_, g⟩ | ⟨_, g⟩
  · exact g
  · rw [hz, g] at h; exact absurd h (by decide)
  · rw [hz, g] at h; exact absurd h (by decide)
theorem lc_ge {k l : Int64} (hz : z = lg_cmp k l) (h : 0 ≤ z.toInt) : l.toInt ≤ k.toInt := by
  rcases lg_cmp_cases k l with ⟨_, g⟩ | ⟨g, _⟩ | ⟨g, _⟩
  · rw [hz, g] at h; exact absurd h (by decide)
  · exact Int.le_of_eq g.symm
  · exact Int.le_of_lt g
theorem lc_gt {k l : Int64} (hz : z = lg_cmp k l) (h : 0 < z.toInt) : l.toInt < k.toInt := by
  rcases lg_cmp_cases k l with ⟨_, g⟩ | ⟨_, g⟩ | ⟨g, _⟩
  · rw [hz, g] at h; exact absurd h (by decide)
  · rw [hz, g] at h; exact absurd h (by decide)
  · exact g
theorem lc_le {k l : Int64} (hz : z = lg_cmp k l) (h : z.toInt ≤ 0) : k.toInt ≤ l.toInt := by
  rcases lg_cmp_cases k l with ⟨g, _⟩ | ⟨g, _⟩ | ⟨_, g⟩
  · exact Int.le_of_lt g
  · exact Int.le_of_eq g
  · rw [hz, g] at h; exact absurd h (by decide)
theorem lc_eq {k l : Int64} (hz : z = lg_cmp k l) (h : z.toInt = 0) : k.toInt = l.toInt := by
  rcases lg_cmp_cases k l with ⟨_, g⟩ | ⟨g, _⟩ | ⟨_, g⟩
  · rw [hz, g] at h; exact absurd h (by decide)
  · exact g
  · rw [hz, g] at h; exact absurd h (by decide)
theorem lc_ne {k l : Int64} (hz : z = lg_cmp k l) (h : z.toInt ≠ 0) : k.toInt ≠ l.toInt := by
  rcases lg_cmp_cases k l with ⟨g, _⟩ | ⟨_, g⟩ | ⟨g, _⟩
  · omega
  · rw [hz, g] at h; exact absurd rfl h
  · omega
theorem nb01 (h : In x 0 1) : narrow .boolean (.int x) = .int x := by
  obtain ⟨h1, h2⟩ := h
  have e : x = 0 ∨ x = 1 := by
    rcases (by omega : x.toInt = 0 ∨ x.toInt = 1) with g | g
    · exact Or.inl (Int32.toInt_inj.mp g)
    · exact Or.inr (Int32.toInt_inj.mp g)
  rcases e with e | e <;> rw [e] <;> rfl
theorem in01 (h : In x 0 1) : x = 0 ∨ x = 1 := by
  obtain ⟨h1, h2⟩ := h
  rcases (by omega : x.toInt = 0 ∨ x.toInt = 1) with g | g
  · exact Or.inl (Int32.toInt_inj.mp g)
  · exact Or.inr (Int32.toInt_inj.mp g)
theorem nar01 (h : In x 0 1) : In (vp_nar .boolean x) 0 1 := by
  rcases in01 h with e | e <;> rw [e] <;> exact ⟨by decide, by decide⟩
theorem sw_eq {v : Int} (h : x.toInt = v) : In x v v := ⟨Int.le_of_eq h.symm, Int.le_of_eq h⟩
theorem sw_ne {v : Int} {p : Prop} (h : x.toInt = v) (hx : In x a b) (h0 : decide (v < a ∨ b < v) = true) : p := by
  have h0 := of_decide_eq_true h0
  obtain ⟨x1, x2⟩ := hx
  omega
theorem cp_0 (hx : In x a b) (h0 : decide (0 ≤ a) = true) : 0 ≤ x.toInt := Int.le_trans (of_decide_eq_true h0) hx.1
theorem cp_1 {n : Nat} (hx : In x a b) (hy : In y c e) (h0 : decide (b + e ≤ (n : Int)) = true) : x.toInt + y.toInt ≤ (n : Int) := by
  have h0 := of_decide_eq_true h0
  obtain ⟨x1, x2⟩ := hx
  obtain ⟨y1, y2⟩ := hy
  omega
theorem in_or (k : Nat) (hz : z = x ||| y) (hx : In x 0 (2 ^ k - 1)) (hy : In y 0 (2 ^ k - 1)) (h0 : decide (k < 31) = true) : In z 0 (2 ^ k - 1) := by
  have h0 := of_decide_eq_true h0
  have key : ∀ w : Int32, In w 0 (2 ^ k - 1) → w.toBitVec.toNat < 2 ^ k := by
    intro w hw
    obtain ⟨w1, w2⟩ := hw
    have w1 : 0 ≤ w.toBitVec.toInt := w1
    have w2 : w.toBitVec.toInt ≤ 2 ^ k - 1 := w2
    have hl : 2 * w.toBitVec.toNat < 2 ^ 32 := by
      rw [BitVec.toInt_eq_toNat_cond] at w1
      split at w1
      · assumption
      · have := w.toBitVec.isLt
        omega
    rw [BitVec.toInt_eq_toNat_of_lt hl] at w2
    have : ((2 ^ k : Nat) : Int) = 2 ^ k := by norm_cast
    omega
  have hb : z.toBitVec.toNat = x.toBitVec.toNat ||| y.toBitVec.toNat := by rw [hz]; rfl
  have hlt : z.toBitVec.toNat < 2 ^ k := by rw [hb]; exact Nat.or_lt_two_pow (key x hx) (key y hy)
  have hk : 2 ^ k ≤ 2 ^ 30 := Nat.pow_le_pow_right (by decide) (by omega)
  have e2 : z.toInt = (z.toBitVec.toNat : Int) := BitVec.toInt_eq_toNat_of_lt (by omega)
  have : ((2 ^ k : Nat) : Int) = 2 ^ k := by norm_cast
  exact ⟨by omega, by omega⟩
theorem inl_or {z x y : Int64} (k : Nat) (hz : z = x ||| y) (hx : InL x 0 (2 ^ k - 1)) (hy : InL y 0 (2 ^ k - 1)) (h0 : decide (k < 63) = true) : InL z 0 (2 ^ k - 1) := by
  have h0 := of_decide_eq_true h0
  have key : ∀ w : Int64, InL w 0 (2 ^ k - 1) → w.toBitVec.toNat < 2 ^ k := by
    intro w hw
    obtain ⟨w1, w2⟩ := hw
    have w1 : 0 ≤ w.toBitVec.toInt := w1
    have w2 : w.toBitVec.toInt ≤ 2 ^ k - 1 := w2
    have hl : 2 * w.toBitVec.toNat < 2 ^ 64 := by
      rw [BitVec.toInt_eq_toNat_cond] at w1
      split at w1
      · assumption
      · have := w.toBitVec.isLt
        omega
    rw [BitVec.toInt_eq_toNat_of_lt hl] at w2
    have : ((2 ^ k : Nat) : Int) = 2 ^ k := by norm_cast
    omega
  have hb : z.toBitVec.toNat = x.toBitVec.toNat ||| y.toBitVec.toNat := by rw [hz]; rfl
  have hlt : z.toBitVec.toNat < 2 ^ k := by rw [hb]; exact Nat.or_lt_two_pow (key x hx) (key y hy)
  have hk : 2 ^ k ≤ 2 ^ 62 := Nat.pow_le_pow_right (by decide) (by omega)
  have e2 : z.toInt = (z.toBitVec.toNat : Int) := BitVec.toInt_eq_toNat_of_lt (by omega)
  have : ((2 ^ k : Nat) : Int) = 2 ^ k := by norm_cast
  exact ⟨by omega, by omega⟩
theorem inl_and2 {z x y : Int64} (hz : z = x &&& y) (hy : InL y c e) (h0 : decide (0 ≤ c) = true) : InL z 0 e := by
  have h0 := of_decide_eq_true h0
  obtain ⟨y1, y2⟩ := hy
  have hb : z.toBitVec = x.toBitVec &&& y.toBitVec := by rw [hz]; rfl
  have hl : z.toBitVec.toNat ≤ y.toBitVec.toNat := by rw [hb, BitVec.toNat_and]; exact Nat.and_le_right
  have ey : 2 * y.toBitVec.toNat < 2 ^ 64 := by
    have hy0 : 0 ≤ y.toBitVec.toInt := Int.le_trans h0 y1
    rw [BitVec.toInt_eq_toNat_cond] at hy0
    split at hy0
    · assumption
    · have := y.toBitVec.isLt
      omega
  have e1 : y.toInt = (y.toBitVec.toNat : Int) := BitVec.toInt_eq_toNat_of_lt ey
  have e2 : z.toInt = (z.toBitVec.toNat : Int) := BitVec.toInt_eq_toNat_of_lt (by omega)
  exact ⟨by omega, by omega⟩
theorem inl_and1 {z x y : Int64} (hz : z = x &&& y) (hx : InL x c e) (h0 : decide (0 ≤ c) = true) : InL z 0 e := inl_and2 (x := y) (y := x) (by rw [hz, Int64.and_comm]) hx h0
theorem l_add {x y z : Int64} (lo hi : Int) (hz : z = x + y) (hx : InL x a b) (hy : InL y c e) (h0 : decide (-9223372036854775808 ≤ a + c ∧ b + e ≤ 9223372036854775807 ∧ lo ≤ a + c ∧ b + e ≤ hi) = true) : InL z lo hi := by
  have h0 := of_decide_eq_true h0
  obtain ⟨x1, x2⟩ := hx
  obtain ⟨y1, y2⟩ := hy
  have g : z.toInt = x.toInt + y.toInt := by
    rw [hz, Int64.toInt_add]
    exact Int.bmod_eq_of_le (by omega) (by omega)
  exact ⟨by omega, by omega⟩
theorem l_sub {x y z : Int64} (lo hi : Int) (hz : z = x - y) (hx : InL x a b) (hy : InL y c e) (h0 : decide (-9223372036854775808 ≤ a - e ∧ b - c ≤ 9223372036854775807 ∧ lo ≤ a - e ∧ b - c ≤ hi) = true) : InL z lo hi := by
  have h0 := of_decide_eq_true h0
  obtain ⟨x1, x2⟩ := hx
  obtain ⟨y1, y2⟩ := hy
  have g : z.toInt = x.toInt - y.toInt := by
    rw [hz, Int64.toInt_sub]
    exact Int.bmod_eq_of_le (by omega) (by omega)
  exact ⟨by omega, by omega⟩
theorem l_rem {x z : Int64} {k : Int} (lo hi : Int) (hz : z = x - x / Int64.ofInt k * Int64.ofInt k) (h0 : decide (1 ≤ k ∧ k ≤ 9223372036854775807 ∧ lo ≤ -(k - 1) ∧ k - 1 ≤ hi) = true) : InL z lo hi := by
  have h0 := of_decide_eq_true h0
  have hk : (Int64.ofInt k).toInt = k := Int64.toInt_ofInt_of_le (by omega) (by omega)
  have x1 := Int64.le_toInt x
  have x2 := Int64.toInt_lt x
  have d1 : (x / Int64.ofInt k).toInt = x.toInt.tdiv k := by
    rw [Int64.toInt_div, hk]
    by_cases hk1 : k = 1
    · rw [hk1, Int.tdiv_one]
      exact Int.bmod_eq_of_le (by omega) (by omega)
    · have a1 : (x.toInt.tdiv k).natAbs = x.toInt.natAbs / k.natAbs := Int.natAbs_tdiv x.toInt k
      have a2 : x.toInt.natAbs / k.natAbs ≤ x.toInt.natAbs / 2 := Nat.div_le_div_left (by omega) (by decide)
      exact Int.bmod_eq_of_le (by omega) (by omega)
  have m1 := Int.mul_tdiv_add_tmod x.toInt k
  have t1 : -(k - 1) ≤ x.toInt.tmod k ∧ x.toInt.tmod k ≤ k - 1 := by
    have b1 := Int.natAbs_tmod x.toInt k
    have b2 : x.toInt.natAbs % k.natAbs < k.natAbs := Nat.mod_lt _ (by omega)
    omega
  have d2 : (x / Int64.ofInt k * Int64.ofInt k).toInt = k * x.toInt.tdiv k := by
    rw [Int64.toInt_mul, d1, hk, Int.mul_comm]
    have b3 := Int.natAbs_tmod x.toInt k
    have b4 : x.toInt.natAbs % k.natAbs ≤ x.toInt.natAbs := Nat.mod_le _ _
    have s1 : 0 ≤ x.toInt → 0 ≤ x.toInt.tmod k := fun h => Int.tmod_nonneg k h
    have s2 : x.toInt ≤ 0 → x.toInt.tmod k ≤ 0 := fun h => by
      have := Int.tmod_nonneg k (show 0 ≤ -x.toInt by omega)
      rw [Int.neg_tmod] at this
      omega
    exact Int.bmod_eq_of_le (by omega) (by omega)
  have g : z.toInt = x.toInt.tmod k := by
    rw [hz, Int64.toInt_sub, d2]
    have : x.toInt - k * x.toInt.tdiv k = x.toInt.tmod k := by omega
    rw [this]
    exact Int.bmod_eq_of_le (by omega) (by omega)
  exact ⟨by omega, by omega⟩
theorem in_shrc (k : Nat) {y : Int32} (lo hi : Int) (hz : z = x >>> (y &&& 31)) (hx : In x a b) (hy : (y &&& 31).toBitVec.smod 32#32 = BitVec.ofNat 32 k) (h0 : decide (k < 32 ∧ lo ≤ a / 2 ^ k ∧ b / 2 ^ k ≤ hi) = true) : In z lo hi := by
  have h0 := of_decide_eq_true h0
  obtain ⟨x1, x2⟩ := hx
  have e : z.toInt = x.toInt / 2 ^ k := by
    rw [hz]
    show (x.toBitVec.sshiftRight' ((y &&& 31).toBitVec.smod 32#32)).toInt = _
    rw [hy, BitVec.sshiftRight_eq', BitVec.toInt_sshiftRight, Int.shiftRight_eq_div_pow]
    have : (BitVec.ofNat 32 k).toNat = k := by
      rw [BitVec.toNat_ofNat]
      exact Nat.mod_eq_of_lt (by omega)
    rw [this]
    rfl
  have p : (0 : Int) < 2 ^ k := Int.pow_pos (by decide)
  have m1 : a / 2 ^ k ≤ x.toInt / 2 ^ k := Int.ediv_le_ediv p x1
  have m2 : x.toInt / 2 ^ k ≤ b / 2 ^ k := Int.ediv_le_ediv p x2
  exact ⟨by omega, by omega⟩
theorem tx_i2l {z : Int64} (hz : z = x.toInt64) : z.toInt = x.toInt := by rw [hz]; exact Int32.toInt_toInt64 x
theorem nn_01 (h : Inv s) (hx : In x a b) (h0 : decide (0 ≤ a ∧ b ≤ 1) = true) (hz : z = s.1 110 x.toNatClampNeg) : In z 0 32 := by
  have h0 := of_decide_eq_true h0
  obtain ⟨x1, x2⟩ := hx
  have hk := h.2.2.2.2.2.2.1
  rw [mI_at rfl] at hk
  rw [hz]
  by_cases e : x.toInt = 0
  · have e2 : x.toNatClampNeg = 0 := by show x.toInt.toNat = 0; omega
    rw [e2]; exact hk.1
  · have e2 : x.toNatClampNeg = 1 := by show x.toInt.toNat = 1; omega
    rw [e2]; exact hk.2
theorem ldv_nz {y : Int64} (hy : InL y c e) (h0 : decide (1 ≤ c) = true) : ¬ y = 0 := by
  have h0 := of_decide_eq_true h0
  intro q
  rw [q] at hy
  have h1 := hy.1
  have e0 : (0 : Int64).toInt = 0 := rfl
  omega
theorem l_mulc {x z : Int64} (k lo hi : Int) (hz : z = Int64.ofInt k * x ∨ z = x * Int64.ofInt k) (hx : InL x a b) (h0 : decide (0 ≤ k ∧ k ≤ 9223372036854775807 ∧ -9223372036854775808 ≤ k * a ∧ k * b ≤ 9223372036854775807 ∧ lo ≤ k * a ∧ k * b ≤ hi) = true) : InL z lo hi := by
  have h0 := of_decide_eq_true h0
  obtain ⟨x1, x2⟩ := hx
  have e : (Int64.ofInt k).toInt = k := Int64.toInt_ofInt_of_le (by omega) (by omega)
  have m1 : k * a ≤ k * x.toInt := Int.mul_le_mul_of_nonneg_left x1 h0.1
  have m2 : k * x.toInt ≤ k * b := Int.mul_le_mul_of_nonneg_left x2 h0.1
  have g : z.toInt = k * x.toInt := by
    rcases hz with hz | hz
    · rw [hz, Int64.toInt_mul, e]
      exact Int.bmod_eq_of_le (by omega) (by omega)
    · rw [hz, Int64.toInt_mul, e, Int.mul_comm]
      exact Int.bmod_eq_of_le (by omega) (by omega)
  exact ⟨by omega, by omega⟩
theorem l_shl0 : ∀ j : Fin 62, (Int64.ofInt 1 <<< ((Int32.ofNat j.val).toInt64 &&& 63) : Int64).toInt = 2 ^ j.val := by decide +kernel
theorem l_shl {z : Int64} (k : Nat) (hz : z = Int64.ofInt 1 <<< (y.toInt64 &&& 63)) (hy : In y c e) (h0 : decide (0 ≤ c ∧ e ≤ (k : Int) ∧ k < 62) = true) : InL z 0 (2 ^ k) := by
  have h0 := of_decide_eq_true h0
  obtain ⟨y1, y2⟩ := hy
  have ey : y = Int32.ofNat y.toInt.toNat := Int32.toInt_inj.mp (by rw [Int32.toInt_ofNat_of_lt (by omega)]; omega)
  have h := l_shl0 ⟨y.toInt.toNat, by omega⟩
  have h : (Int64.ofInt 1 <<< ((Int32.ofNat y.toInt.toNat).toInt64 &&& 63) : Int64).toInt = 2 ^ y.toInt.toNat := h
  rw [← ey, ← hz] at h
  have p : (2 : Nat) ^ y.toInt.toNat ≤ 2 ^ k := Nat.pow_le_pow_right (by decide) (by omega)
  have c1 : ((2 ^ y.toInt.toNat : Nat) : Int) = 2 ^ y.toInt.toNat := by norm_cast
  have c2 : ((2 ^ k : Nat) : Int) = 2 ^ k := by norm_cast
  exact ⟨by rw [h]; exact Int.le_of_lt (Int.pow_pos (by decide)), by rw [h, ← c1, ← c2]; exact Int.ofNat_le.mpr p⟩
theorem nz_l {k : Int64} (h : k.toInt ≠ (Int64.ofInt 0).toInt) : k.toInt ≠ 0 := h
theorem nz_r (hx : In x a b) (h0 : decide (0 < a ∨ b < 0) = true) : x.toInt ≠ 0 := by
  have h0 := of_decide_eq_true h0
  obtain ⟨x1, x2⟩ := hx
  omega
theorem in_i2c (hz : z = (x.toUInt32 % 65536).toInt32) : In z 0 65535 := by
  have e : z.toBitVec.toNat = x.toBitVec.toNat % 65536 := by rw [hz]; rfl
  have hl : z.toBitVec.toNat < 65536 := by rw [e]; exact Nat.mod_lt _ (by decide)
  have e2 : z.toInt = (z.toBitVec.toNat : Int) := BitVec.toInt_eq_toNat_of_lt (by omega)
  exact ⟨by omega, by omega⟩
theorem in_neg (lo hi : Int) (hz : z = -x) (hx : In x a b) (h0 : decide (-2147483648 < a ∧ lo ≤ -b ∧ -a ≤ hi) = true) : In z lo hi := by
  have h0 := of_decide_eq_true h0
  obtain ⟨x1, x2⟩ := hx
  have hm := Int32.toInt_lt x
  have e : z.toInt = -x.toInt := by
    rw [hz, Int32.toInt_neg]
    exact Int.bmod_eq_of_le (by omega) (by omega)
  exact ⟨by omega, by omega⟩
theorem lneg_nz {x z : Int64} (hz : z = -x) (h : x.toInt ≠ 0) : z.toInt ≠ 0 := by
  rw [hz, Int64.toInt_neg]
  have h1 := Int64.le_toInt x
  have h2 := Int64.toInt_lt x
  by_cases e : x.toInt = -9223372036854775808
  · rw [e]; decide
  · rw [Int.bmod_eq_of_le (by omega) (by omega)]
    omega
theorem lnz {x : Int64} (h : x.toInt ≠ 0) : ¬ x = 0 := by
  intro e
  rw [e] at h
  exact h rfl
theorem nar_c (x : Int32) : In (vp_nar .char x) 0 65535 := in_i2c (x := x) rfl
theorem mb_in (x : Int32) : ((x.toBitVec.toNat : Nat) : Int) < ((4294967296 : Nat) : Int) := by
  have := x.toBitVec.isLt
  omega
theorem mb_inl (x : Int64) : ((x.toBitVec.toNat : Nat) : Int) < ((18446744073709551616 : Nat) : Int) := by
  have := x.toBitVec.isLt
  omega
theorem mb {k : Nat} (e1 : z = x &&& y) (e2 : y = x - Int32.ofInt 1) (hx : x.toInt ≠ 0) (h : ((x.toBitVec.toNat : Nat) : Int) < ((k + 1 : Nat) : Int)) : ((z.toBitVec.toNat : Nat) : Int) < (k : Int) := by
  have hb : z.toBitVec = x.toBitVec &&& y.toBitVec := by rw [e1]; rfl
  have hl : z.toBitVec.toNat ≤ y.toBitVec.toNat := by rw [hb, BitVec.toNat_and]; exact Nat.and_le_right
  have hy : y.toBitVec = x.toBitVec - 1#32 := by rw [e2]; rfl
  have hn : x.toBitVec.toNat ≠ 0 := fun q => hx (by
    show x.toBitVec.toInt = 0
    rw [BitVec.eq_of_toNat_eq (x := x.toBitVec) (y := 0#32) q]
    rfl)
  have hs : y.toBitVec.toNat = x.toBitVec.toNat - 1 := by
    have hlt := x.toBitVec.isLt
    rw [hy, BitVec.toNat_sub]
    have : (1#32).toNat = 1 := rfl
    rw [this]
    omega
  omega
theorem mbl {k : Nat} {z x y : Int64} (e1 : z = x &&& y) (e2 : y = x - Int64.ofInt 1) (hx : x.toInt ≠ 0) (h : ((x.toBitVec.toNat : Nat) : Int) < ((k + 1 : Nat) : Int)) : ((z.toBitVec.toNat : Nat) : Int) < (k : Int) := by
  have hb : z.toBitVec = x.toBitVec &&& y.toBitVec := by rw [e1]; rfl
  have hl : z.toBitVec.toNat ≤ y.toBitVec.toNat := by rw [hb, BitVec.toNat_and]; exact Nat.and_le_right
  have hy : y.toBitVec = x.toBitVec - 1#64 := by rw [e2]; rfl
  have hn : x.toBitVec.toNat ≠ 0 := fun q => hx (by
    show x.toBitVec.toInt = 0
    rw [BitVec.eq_of_toNat_eq (x := x.toBitVec) (y := 0#64) q]
    rfl)
  have hs : y.toBitVec.toNat = x.toBitVec.toNat - 1 := by
    have hlt := x.toBitVec.isLt
    rw [hy, BitVec.toNat_sub]
    have : (1#64).toNat = 1 := rfl
    rw [this]
    omega
  omega
theorem mh_in (x : Int64) : ((x.toInt.toNat : Nat) : Int) < ((18446744073709551616 : Nat) : Int) := by
  have := Int64.toInt_lt x
  omega
theorem mh {k : Nat} {z x : Int64} (e1 : z = x / Int64.ofInt 2) (hx : InL x a b) (h0 : decide (1 ≤ a) = true) (h : ((x.toInt.toNat : Nat) : Int) < ((k + 1 : Nat) : Int)) : ((z.toInt.toNat : Nat) : Int) < (k : Int) := by
  have h0 := of_decide_eq_true h0
  obtain ⟨x1, x2⟩ := hx
  have e2 : (Int64.ofInt 2).toInt = 2 := rfl
  have hm := Int64.toInt_lt x
  have e : z.toInt = x.toInt / 2 := by
    rw [e1, Int64.toInt_div, e2, Int.tdiv_eq_ediv_of_nonneg (by omega)]
    exact Int.bmod_eq_of_le (by omega) (by omega)
  omega
theorem mh2 {k : Nat} {z x : Int64} (e1 : z = x >>> ((Int32.ofInt 1).toInt64 &&& 63)) (hx : InL x a b) (h0 : decide (1 ≤ a) = true) (h : ((x.toInt.toNat : Nat) : Int) < ((k + 1 : Nat) : Int)) : ((z.toInt.toNat : Nat) : Int) < (k : Int) := by
  have h0 := of_decide_eq_true h0
  obtain ⟨x1, x2⟩ := hx
  have e2 : z.toBitVec = x.toBitVec.sshiftRight 1 := by rw [e1]; rfl
  have e : z.toInt = x.toInt / 2 := by
    show z.toBitVec.toInt = x.toBitVec.toInt / 2
    rw [e2, BitVec.toInt_sshiftRight, Int.shiftRight_eq_div_pow]
    rfl
  omega
/-- a value that grows no faster than a counter -/
theorem rl_in {w : Int32} (C : Int) (hx : In x a b) (hy : In w c e) (h0 : decide (b ≤ c + C) = true) : x.toInt ≤ w.toInt + C := by
  have h0 := of_decide_eq_true h0
  obtain ⟨x1, x2⟩ := hx
  obtain ⟨y1, y2⟩ := hy
  omega
theorem rl_0 {w v u : Int32} {C : Int} (h : x.toInt ≤ w.toInt + C) (ev : v.toInt = w.toInt + u.toInt) (hu : In u 0 e) : x.toInt ≤ v.toInt + C := by
  obtain ⟨y1, y2⟩ := hu
  omega
theorem rl_1 {w v u : Int32} {C : Int} (h : x.toInt ≤ w.toInt + C) (ez : z.toInt = x.toInt + y.toInt) (hy : In y a b) (ev : v.toInt = w.toInt + u.toInt) (hu : In u c e) (h0 : decide (b ≤ c) = true) : z.toInt ≤ v.toInt + C := by
  have h0 := of_decide_eq_true h0
  obtain ⟨x1, x2⟩ := hy
  obtain ⟨y1, y2⟩ := hu
  omega
theorem rl_w {w : Int32} {C : Int} (lo hi : Int) (h : x.toInt ≤ w.toInt + C) (hx : In x a b) (hw : In w c e) (h0 : decide (lo ≤ a ∧ e + C ≤ hi) = true) : In x lo hi := by
  have h0 := of_decide_eq_true h0
  obtain ⟨x1, x2⟩ := hx
  obtain ⟨y1, y2⟩ := hw
  exact ⟨by omega, by omega⟩
/-- a counter that grows -/
theorem m_up {H : Int} {k : Nat} {b : Int} (h : H - x.toInt < ((k + 1 : Nat) : Int)) (e : z.toInt = x.toInt + y.toInt) (hy : In y 1 b) : H - z.toInt < (k : Int) := by
  obtain ⟨y1, y2⟩ := hy
  omega
theorem m_no {H : Int} {p : Prop} (h : H - x.toInt < ((0 : Nat) : Int)) (hx : In x a b) (h0 : decide (b ≤ H) = true) : p := by
  have h0 := of_decide_eq_true h0
  obtain ⟨x1, x2⟩ := hx
  omega
theorem m_in {H : Int} (k : Nat) (hx : In x a b) (h0 : decide (H - a < (k : Int)) = true) : H - x.toInt < (k : Int) := by
  have h0 := of_decide_eq_true h0
  obtain ⟨x1, x2⟩ := hx
  omega
theorem m_dn {H : Int} {k : Nat} {b : Int} (h : x.toInt - H < ((k + 1 : Nat) : Int)) (e : z.toInt = x.toInt + y.toInt) (hy : In y b (-1)) : z.toInt - H < (k : Int) := by
  obtain ⟨y1, y2⟩ := hy
  omega
theorem m_nod {H : Int} {p : Prop} (h : x.toInt - H < ((0 : Nat) : Int)) (hx : In x a b) (h0 : decide (H ≤ a) = true) : p := by
  have h0 := of_decide_eq_true h0
  obtain ⟨x1, x2⟩ := hx
  omega
theorem m_ind {H : Int} (k : Nat) (hx : In x a b) (h0 : decide (b - H < (k : Int)) = true) : x.toInt - H < (k : Int) := by
  have h0 := of_decide_eq_true h0
  obtain ⟨x1, x2⟩ := hx
  omega
end GI
end
section
/-! STRING CONSTANTS: their rows, and the JDK's own methods over them -/
abbrev zq (Z : AmZ) (x : Int32) : Nat := zs Z x.toNatClampNeg
abbrev zp (Z : AmZ) (x : Int32) : Nat := zb Z x.toNatClampNeg
/-- how long the constant is -/
def zn (x : Int32) : Nat := am_len.getD x.toNatClampNeg 0
theorem zl_cs : Cond.fieldLink "java/lang/String" 38 "java/lang/String" "COMPACT_STRINGS" "Z" ∈ am_T := am_at 872 (by decide +kernel) (by decide +kernel)
theorem zl_sf : Cond.fieldLink "java/lang/String" 1053 "jdk/internal/util/Preconditions" "SIOOBE_FORMATTER" "Ljava/util/function/BiFunction;" ∈ am_T := am_at 915 (by decide +kernel) (by decide +kernel)
theorem zl_va : Cond.fieldLink "java/lang/String" 9 "java/lang/String" "value" "[B" ∈ am_T := am_at 3117 (by decide +kernel) (by decide +kernel)
theorem zl_co : Cond.fieldLink "java/lang/String" 15 "java/lang/String" "coder" "B" ∈ am_T := am_at 3116 (by decide +kernel) (by decide +kernel)
theorem z_7 {x : Int32} (h : In x 0 6) : x.toNatClampNeg < 7 := by
  obtain ⟨a, b⟩ := h
  show x.toInt.toNat < 7
  omega
theorem zn_9 {x : Int32} (h : In x 0 6) : zn x ≤ 9 := (by decide : ∀ k, k < 7 → am_len.getD k 0 ≤ 9) _ (z_7 h)
theorem zn_i {x : Int32} (h : In x 0 6) : (Int32.ofNat (zn x)).toInt = (zn x : Int) := (by decide : ∀ k, k < 7 → (Int32.ofNat (am_len.getD k 0)).toInt = (am_len.getD k 0 : Int)) _ (z_7 h)
theorem zn_s {x : Int32} (h : In x 0 6) : (Int32.ofNat (zn x) >>> ((Int32.ofInt 0) &&& 31)).toInt = (zn x : Int) := (by decide : ∀ k, k < 7 → (Int32.ofNat (am_len.getD k 0) >>> ((Int32.ofInt 0) &&& 31)).toInt = (am_len.getD k 0 : Int)) _ (z_7 h)
theorem z_ix {j : Int32} {n : Nat} (h0 : 0 ≤ j.toInt) (h1 : j.toInt < (n : Int)) : vp_in j n := by
  intro h
  rcases h with h | h
  · exact absurd (Int32.lt_iff_toInt_lt.mp h) (by simpa using h0)
  · have e : j.toNatClampNeg = j.toInt.toNat := rfl
    omega
section ZS
theorem zm_427 : xm_2.any (fun q => Nat.beq q.1 427) = true := by decide +kernel
theorem zm_428 : xm_2.any (fun q => Nat.beq q.1 428) = true := by decide +kernel
theorem zm_429 : xm_2.any (fun q => Nat.beq q.1 429) = true := by decide +kernel
theorem zm_430 : xm_2.any (fun q => Nat.beq q.1 430) = true := by decide +kernel
theorem zm_431 : xm_2.any (fun q => Nat.beq q.1 431) = true := by decide +kernel
theorem zm_432 : xm_2.any (fun q => Nat.beq q.1 432) = true := by decide +kernel
theorem zm_433 : xm_2.any (fun q => Nat.beq q.1 433) = true := by decide +kernel
variable {Z : AmZ} {d m N pc : Nat} {ret : AmR} {xp : GX} {f : Nat → Option Value} {st r : List Value} {ws : va_W} {C S : Nat}
theorem g_ldcs {i : Nat} {tx : String} (c : Int) (p : Nat) (hd : GD m pc (.ldc i) 2) (hp : pc + 2 = p) (hx : am_lit[(Int32.ofInt c).toNatClampNeg]? = some (xcls (xo m), i, tx)) (h : GG Z d m ret xp N p f (.ref (zq Z (Int32.ofInt c)) :: st) ws C S) : GG Z d m ret xp (N + 1) pc f st ws C S :=
  g_st fun lv hl n hn => by unfold am_stp; rw [hd.2]; subst hp; exact Or.inr ⟨_, tx, hx, h lv hl n hn⟩
theorem g_i2b {x : Int32} (p : Nat) (hd : GD m pc (.i2b) 1) (hp : pc + 1 = p) (h : ∀ z, z = x.toInt8.toInt32 → GG Z d m ret xp N p f (.int z :: r) ws C S) : GG Z d m ret xp (N + 1) pc f (.int x :: r) ws C S :=
  g_st fun lv hl n hn => by unfold am_stp; rw [hd.2]; subst hp; exact ⟨x, r, rfl, h _ rfl lv hl n hn⟩
theorem g_getCS (p : Nat) (hd : GD m pc (.getstatic 38) 3) (hp : pc + 3 = p) (ho : xcls (xo m) = "java/lang/String") (h : GG Z d m ret xp N p f (.int (Int32.ofInt 1) :: st) ws C S) : GG Z d m ret xp (N + 1) pc f st ws C S :=
  g_st fun lv hl n hn => by unfold am_stp; rw [hd.2]; subst hp; exact Or.inl ⟨by rw [ho]; exact zl_cs, h lv hl n hn⟩
theorem g_getSF (p : Nat) (hd : GD m pc (.getstatic 1053) 3) (hp : pc + 3 = p) (ho : xcls (xo m) = "java/lang/String") (h : ∀ v : Value, v.category = 1 → GG Z d m ret xp N p f (v :: st) ws C S) : GG Z d m ret xp (N + 1) pc f st ws C S :=
  g_st fun lv hl n hn => by unfold am_stp; rw [hd.2]; subst hp; exact Or.inr ⟨by rw [ho]; exact zl_sf, fun v hv => h v hv lv hl n hn⟩
theorem g_getVA {x : Int32} (p : Nat) (hd : GD m pc (.getfield 9) 3) (hp : pc + 3 = p) (hx : In x 0 6) (ho : xcls (xo m) = "java/lang/String") (h : GG Z d m ret xp N p f (.ref (zp Z x) :: r) ws C S) : GG Z d m ret xp (N + 1) pc f (.ref (zq Z x) :: r) ws C S :=
  g_st fun lv hl n hn => by unfold am_stp; rw [hd.2]; subst hp; exact Or.inr ⟨_, r, z_7 hx, rfl, Or.inl ⟨by rw [ho]; exact zl_va, h lv hl n hn⟩⟩
theorem g_getCO {x : Int32} (p : Nat) (hd : GD m pc (.getfield 15) 3) (hp : pc + 3 = p) (hx : In x 0 6) (ho : xcls (xo m) = "java/lang/String") (h : GG Z d m ret xp N p f (.int (Int32.ofInt 0) :: r) ws C S) : GG Z d m ret xp (N + 1) pc f (.ref (zq Z x) :: r) ws C S :=
  g_st fun lv hl n hn => by unfold am_stp; rw [hd.2]; subst hp; exact Or.inr ⟨_, r, z_7 hx, rfl, Or.inr ⟨by rw [ho]; exact zl_co, h lv hl n hn⟩⟩
theorem g_alenZ {x : Int32} (p : Nat) (hd : GD m pc .arraylength 1) (hp : pc + 1 = p) (hx : In x 0 6) (h : ∀ z, z = Int32.ofNat (zn x) → z.toInt = (zn x : Int) → GG Z d m ret xp N p f (.int z :: r) ws C S) : GG Z d m ret xp (N + 1) pc f (.ref (zp Z x) :: r) ws C S :=
  g_st fun lv hl n hn => by unfold am_stp; rw [hd.2]; subst hp; exact Or.inr (Or.inr ⟨_, r, z_7 hx, rfl, h _ rfl (zn_i hx) lv hl n hn⟩)
theorem g_baloadZ {x j : Int32} (p : Nat) (hd : GD m pc .baload 1) (hp : pc + 1 = p) (hx : In x 0 6) (h0 : 0 ≤ j.toInt) (h1 : j.toInt < (zn x : Int)) (h : ∀ z, z = (am_byt.getD x.toNatClampNeg []).getD j.toNatClampNeg 0 → GG Z d m ret xp N p f (.int z :: r) ws C S) : GG Z d m ret xp (N + 1) pc f (.int j :: .ref (zp Z x) :: r) ws C S :=
  g_st fun lv hl n hn => by unfold am_stp; rw [hd.2]; subst hp; exact Or.inr ⟨_, j, r, z_7 hx, rfl, z_ix h0 h1, h _ rfl lv hl n hn⟩
theorem g_callS {i k nn p0 : Nat} {x : Int32} {As st : List Value} {P : AmR} {X Y : AmX} (p : Nat) (hd : GD m pc (.invokevirtual i) 3) (hp : pc + 3 = p) (hl : xlD (xo m) i = some (k, nn, p0, 0)) (hk : (Nat.blt 0 k && Nat.blt k 1000 && Nat.beq (xk k) 0 && Nat.beq (xsta k) 2) = true) (hm : xm_2.any (fun q => Nat.beq q.1 k) = true) (hcs : (xy k).cls = am_js) (hst : st = As.reverse ++ .ref (zq Z x) :: r) (hn : As.length = nn) (hx : In x 0 6) (hr : (r.map fun v => v.category).sum ≤ 8)
    (hc : GC Z d k (.ref (zq Z x) :: As) ws 0 0 P Y) (hY : ∀ e u, Y e u → X e u) (h : ∀ v u, P v u → GG Z d m ret (gx X) N p f (v.toList ++ r) u C S) : GG Z d m ret (gx X) (N + 1) pc f st ws C S := by
  simp only [Bool.and_eq_true] at hk
  obtain ⟨⟨⟨k1, k2⟩, k3⟩, k4⟩ := hk
  have k1 := Nat.lt_of_lt_of_le Nat.zero_lt_one (Nat.le_of_ble_eq_true k1)
  have k2 : k < 1000 := Nat.le_of_ble_eq_true k2
  have k3 := Nat.eq_of_beq_eq_true k3
  have k4 := Nat.eq_of_beq_eq_true k4
  obtain ⟨l1, l2, l3, -⟩ := xl_w hd.1 hl k2
  obtain ⟨-, -, c3, c4, -, -, -, c8, c9, -, -⟩ := xm_w k1 l1
  obtain ⟨g2, hg2⟩ := xm_any (l := xm_2) (m := k) hm
  have hsel : Cond.selects (xy k).cls (xy k) (xy k) ∈ am_T := xps_T (xps_ok xm_ok2 _ hg2)
  refine g_st fun lv hlv n hn2 => ?_
  unfold am_stp
  rw [hd.2]
  subst hp
  exact Or.inr ⟨xy k, zq Z x, As, r, 0, 0, x.toNatClampNeg, hst, ⟨c4.1, c4.2, by rw [l2, hn]⟩, l3 rfl, c8 (by rw [k4]; decide), hsel, c9, z_7 hx, rfl, hcs, hr, Nat.zero_le _, Nat.zero_le _, hc _ _ (fun v u hv => h v u hv lv hlv n hn2) hY⟩
end ZS
section ZM
variable {Z : AmZ} {d : Nat} {ws : va_W} {X : AmX} {x : Int32}
theorem k_432 (hx : In x 0 6) (hd : 1 ≤ d) : GC Z d 432 [.ref (zq Z x)] ws 0 0 (fun v u => v = some (.int (Int32.ofInt 0)) ∧ u = ws) X := by
  intro post xp hP hX
  refine g_enter2 (k := 432) (N := 300) (by omega) rfl (Nat.le_of_ble_eq_true rfl) ?_
  refine g_getCS 3 (gd rfl) rfl rfl ?_
  refine g_if_eq 6 13 (gd rfl) rfl rfl (fun c => absurd c (by decide)) (fun _ => ?_)
  refine g_aload_n 7 (gd rfl) rfl rfl ?_
  refine g_getCO 10 (gd rfl) rfl hx rfl ?_
  refine g_goto 14 (gd rfl) rfl ?_
  exact g_ireturn (gd rfl) rfl rfl (hP _ _ ⟨rfl, rfl⟩)
theorem k_433 (hx : In x 0 6) (hd : 1 ≤ d) : GC Z d 433 [.ref (zq Z x)] ws 0 0 (fun v u => v = some (.int (Int32.ofInt 1)) ∧ u = ws) X := by
  intro post xp hP hX
  refine g_enter2 (k := 433) (N := 300) (by omega) rfl (Nat.le_of_ble_eq_true rfl) ?_
  refine g_getCS 3 (gd rfl) rfl rfl ?_
  refine g_if_eq 6 17 (gd rfl) rfl rfl (fun c => absurd c (by decide)) (fun _ => ?_)
  refine g_aload_n 7 (gd rfl) rfl rfl ?_
  refine g_getCO 10 (gd rfl) rfl hx rfl ?_
  refine g_if_ne 13 17 (gd rfl) rfl rfl (fun c => absurd rfl c) (fun _ => ?_)
  refine g_iconst 1 14 (gd rfl) rfl rfl ?_
  refine g_goto 18 (gd rfl) rfl ?_
  exact g_ireturn (gd rfl) rfl rfl (hP _ _ ⟨rfl, rfl⟩)
theorem k_427 (hx : In x 0 6) (hd : 2 ≤ d) : GC Z d 427 [.ref (zq Z x)] ws 0 0 (fun v u => ∃ z : Int32, v = some (.int z) ∧ u = ws ∧ z.toInt = (zn x : Int)) X := by
  intro post xp hP hX
  refine g_enter2 (k := 427) (N := 300) (by omega) rfl (Nat.le_of_ble_eq_true rfl) ?_
  refine g_aload_n 1 (gd rfl) rfl rfl ?_
  refine g_getVA 4 (gd rfl) rfl hx rfl ?_
  refine g_alenZ 5 (gd rfl) rfl hx (fun z e ez => ?_)
  refine g_aload_n 6 (gd rfl) rfl rfl ?_
  refine g_callS (As := []) (r := [.int z]) (x := x) 9 (gd rfl) rfl rfl rfl zm_432 rfl rfl rfl hx (Nat.le_of_ble_eq_true rfl) (k_432 hx (by omega)) (fun e u h => h) (fun v u h => ?_)
  obtain ⟨rfl, rfl⟩ := h
  show GG _ _ _ _ _ _ _ _ [.int (Int32.ofInt 0), .int z] _ _ _
  refine g_ishr 10 (gd rfl) rfl (fun z2 e2 => ?_)
  exact g_ireturn (gd rfl) rfl rfl (hP _ _ ⟨z2, rfl, rfl, by rw [e2, e]; exact zn_s hx⟩)
theorem k_436 {c : Int32} (hd : 1 ≤ d) : GC Z d 436 [.int c] ws 0 0 (fun v u => ∃ z : Int32, v = some (.int z) ∧ u = ws ∧ In z 0 1) X := by
  intro post xp hP hX
  refine g_enter2 (k := 436) (N := 300) (by omega) rfl (Nat.le_of_ble_eq_true rfl) ?_
  refine g_iload_n 1 (gd rfl) rfl rfl ?_
  refine g_if_lt 4 15 (gd rfl) rfl rfl (fun _ => ?_) (fun _ => ?_)
  · refine g_iconst 0 16 (gd rfl) rfl rfl ?_
    exact g_ireturn (gd rfl) rfl rfl (hP _ _ ⟨_, rfl, rfl, ⟨by decide, by decide⟩⟩)
  refine g_iload_n 5 (gd rfl) rfl rfl ?_
  refine g_sipush 255 8 (gd rfl) rfl rfl ?_
  refine g_cmp_gt 11 15 (gd rfl) rfl rfl (fun _ => ?_) (fun _ => ?_)
  · refine g_iconst 0 16 (gd rfl) rfl rfl ?_
    exact g_ireturn (gd rfl) rfl rfl (hP _ _ ⟨_, rfl, rfl, ⟨by decide, by decide⟩⟩)
  refine g_iconst 1 12 (gd rfl) rfl rfl ?_
  refine g_goto 16 (gd rfl) rfl ?_
  exact g_ireturn (gd rfl) rfl rfl (hP _ _ ⟨_, rfl, rfl, ⟨by decide, by decide⟩⟩)
theorem k_422z {a b : Int32} (hd : 1 ≤ d) : GC Z d 422 [.int a, .int b] ws 0 0 (fun v u => ∃ z : Int32, v = some (.int z) ∧ u = ws ∧ z.toInt = max a.toInt b.toInt) X := by
  intro post xp hP hX
  refine g_enter2 (k := 422) (N := 300) (by omega) rfl (Nat.le_of_ble_eq_true rfl) ?_
  refine g_iload_n 1 (gd rfl) rfl rfl ?_
  refine g_iload_n 2 (gd rfl) rfl rfl ?_
  refine g_cmp_lt 5 9 (gd rfl) rfl rfl (fun c => ?_) (fun c => ?_)
  · refine g_iload_n 10 (gd rfl) rfl rfl ?_
    exact g_ireturn (gd rfl) rfl rfl (hP _ _ ⟨b, rfl, rfl, by omega⟩)
  · refine g_iload_n 6 (gd rfl) rfl rfl ?_
    refine g_goto 10 (gd rfl) rfl ?_
    exact g_ireturn (gd rfl) rfl rfl (hP _ _ ⟨a, rfl, rfl, by omega⟩)
theorem k_424z {a b : Int32} (hd : 1 ≤ d) : GC Z d 424 [.int a, .int b] ws 0 0 (fun v u => ∃ z : Int32, v = some (.int z) ∧ u = ws ∧ z.toInt = min a.toInt b.toInt) X := by
  intro post xp hP hX
  refine g_enter2 (k := 424) (N := 300) (by omega) rfl (Nat.le_of_ble_eq_true rfl) ?_
  refine g_iload_n 1 (gd rfl) rfl rfl ?_
  refine g_iload_n 2 (gd rfl) rfl rfl ?_
  refine g_cmp_gt 5 9 (gd rfl) rfl rfl (fun c => ?_) (fun c => ?_)
  · refine g_iload_n 10 (gd rfl) rfl rfl ?_
    exact g_ireturn (gd rfl) rfl rfl (hP _ _ ⟨b, rfl, rfl, by omega⟩)
  · refine g_iload_n 6 (gd rfl) rfl rfl ?_
    refine g_goto 10 (gd rfl) rfl ?_
    exact g_ireturn (gd rfl) rfl rfl (hP _ _ ⟨a, rfl, rfl, by omega⟩)
theorem k_438 {c a b : Int32} (hx : In x 0 6) (ha : 0 ≤ a.toInt) (hb : b.toInt ≤ (zn x : Int)) (hd : 1 ≤ d) : GC Z d 438 [.ref (zp Z x), .int c, .int a, .int b] ws 0 0 (fun v u => ∃ z : Int32, v = some (.int z) ∧ u = ws ∧ In z (-1) (zn x - 1)) X := by
  intro post xp hP hX
  have h9 := zn_9 hx
  have ctz : ∀ (y y4 : Int32), 0 ≤ y.toInt → b.toInt ≤ y.toInt → GG Z (d - 1) 438 post (gx xp) (41 + 0 * 40) 7 (fun j => xlook j [(0, .ref (zp Z x)), (3, .int b), (4, .int y4), (5, .int y)]) [] ws 0 0 := by
    intro y y4 h0 hm
    refine gg_w (M := 41) (by omega) ?_
    refine g_iload 9 (gd rfl) rfl rfl ?_
    refine g_iload_n 10 (gd rfl) rfl rfl ?_
    refine g_cmp_ge 13 31 (gd rfl) rfl rfl (fun _ => ?_) (fun c1 => absurd c1 (by omega))
    refine g_iconst (-1) 32 (gd rfl) rfl rfl ?_
    exact g_ireturn (gd rfl) rfl rfl (hP _ _ ⟨_, rfl, rfl, ⟨by decide, by have e : (Int32.ofInt (-1)).toInt = -1 := by decide
                                                                          omega⟩⟩)
  have ct : ∀ (k : Nat) (y y4 : Int32), 0 ≤ y.toInt → b.toInt - y.toInt < (k : Int) → GG Z (d - 1) 438 post (gx xp) (41 + k * 40) 7 (fun j => xlook j [(0, .ref (zp Z x)), (3, .int b), (4, .int y4), (5, .int y)]) [] ws 0 0 := by
    intro k
    induction k with
    | zero =>
      intro y y4 h0 hm
      exact ctz y y4 h0 (by omega)
    | succ k ih =>
      intro y y4 h0 hm
      refine gg_w (M := 41 + k * 40 + 40) (by omega) ?_
      refine g_iload 9 (gd rfl) rfl rfl ?_
      refine g_iload_n 10 (gd rfl) rfl rfl ?_
      refine g_cmp_ge 13 31 (gd rfl) rfl rfl (fun _ => ?_) (fun c1 => ?_)
      · refine g_iconst (-1) 32 (gd rfl) rfl rfl ?_
        exact g_ireturn (gd rfl) rfl rfl (hP _ _ ⟨_, rfl, rfl, ⟨by decide, by have e : (Int32.ofInt (-1)).toInt = -1 := by decide
                                                                              omega⟩⟩)
      refine g_aload_n 14 (gd rfl) rfl rfl ?_
      refine g_iload 16 (gd rfl) rfl rfl ?_
      refine g_baloadZ 17 (gd rfl) rfl hx h0 (by omega) (fun z e => ?_)
      refine g_iload 19 (gd rfl) rfl rfl ?_
      refine g_cmp_ne 22 25 (gd rfl) rfl rfl (fun _ => ?_) (fun _ => ?_)
      · refine g_iinc 28 (gd rfl) rfl rfl (Nat.le_of_ble_eq_true rfl) (fun z2 e2 => ?_)
        refine g_goto 7 (gd rfl) rfl ?_
        have t2 : z2.toInt = y.toInt + 1 := t_add e2 (⟨h0, (by omega : y.toInt ≤ 100)⟩ : In y 0 100) (in_c 1 rfl) rfl
        exact gg_w (by omega) (gg_f (gf_cons rfl (gf_cons rfl (gf_cons rfl (gf_cons rfl gf_nil)))) (ih z2 y4 (by omega) (by omega)))
      · refine g_iload 24 (gd rfl) rfl rfl ?_
        exact g_ireturn (gd rfl) rfl rfl (hP _ _ ⟨y, rfl, rfl, ⟨by omega, by omega⟩⟩)
  refine g_enter2 (k := 438) (N := 9000) (by omega) rfl (Nat.le_of_ble_eq_true rfl) ?_
  refine gg_w (M := 41 + 11 * 40 + 10) (by omega) ?_
  refine g_iload_n 1 (gd rfl) rfl rfl ?_
  refine g_i2b 2 (gd rfl) rfl (fun z e => ?_)
  refine g_istore 4 (gd rfl) rfl (Nat.le_of_ble_eq_true rfl) ?_
  refine g_iload_n 5 (gd rfl) rfl rfl ?_
  refine g_istore 7 (gd rfl) rfl (Nat.le_of_ble_eq_true rfl) ?_
  exact gg_w (by omega) (gg_f (gf_cons rfl (gf_cons rfl (gf_cons rfl (gf_cons rfl gf_nil)))) (ct 11 a z ha (by omega)))
theorem k_437 {c b : Int32} (hx : In x 0 6) (hd : 2 ≤ d) : GC Z d 437 [.ref (zp Z x), .int c, .int (Int32.ofInt 0), .int b] ws 0 0 (fun v u => ∃ z : Int32, v = some (.int z) ∧ u = ws ∧ In z (-1) (zn x - 1)) X := by
  intro post xp hP hX
  refine g_enter2 (k := 437) (N := 300) (by omega) rfl (Nat.le_of_ble_eq_true rfl) ?_
  refine g_iload_n 1 (gd rfl) rfl rfl ?_
  refine g_calls (As := [.int c]) (r := []) 4 (gd rfl) rfl rfl rfl rfl rfl (Nat.le_of_ble_eq_true rfl) (Nat.zero_le _) (Nat.zero_le _) (k_436 (by omega)) (fun v u h => ?_)
  obtain ⟨z, rfl, rfl, hz⟩ := h
  show GG _ _ _ _ _ _ _ _ [.int z] _ _ _
  refine g_if_ne 7 9 (gd rfl) rfl rfl (fun _ => ?_) (fun _ => ?_)
  rotate_left
  · refine g_iconst (-1) 8 (gd rfl) rfl rfl ?_
    exact g_ireturn (gd rfl) rfl rfl (hP _ _ ⟨_, rfl, rfl, ⟨by decide, by have e : (Int32.ofInt (-1)).toInt = -1 := by decide
                                                                          omega⟩⟩)
  refine g_iload_n 10 (gd rfl) rfl rfl ?_
  refine g_iconst 0 11 (gd rfl) rfl rfl ?_
  refine g_calls (As := [.int (Int32.ofInt 0), .int (Int32.ofInt 0)]) (r := []) 14 (gd rfl) rfl rfl rfl rfl rfl (Nat.le_of_ble_eq_true rfl) (Nat.zero_le _) (Nat.zero_le _) (k_422z (by omega)) (fun v u h => ?_)
  obtain ⟨z2, rfl, rfl, hz2⟩ := h
  show GG _ _ _ _ _ _ _ _ [.int z2] _ _ _
  refine g_istore_n 15 (gd rfl) rfl (Nat.le_of_ble_eq_true rfl) ?_
  refine g_iload_n 16 (gd rfl) rfl rfl ?_
  refine g_aload_n 17 (gd rfl) rfl rfl ?_
  refine g_alenZ 18 (gd rfl) rfl hx (fun z3 e3 ez => ?_)
  refine g_calls (As := [.int b, .int z3]) (r := []) 21 (gd rfl) rfl rfl rfl rfl rfl (Nat.le_of_ble_eq_true rfl) (Nat.zero_le _) (Nat.zero_le _) (k_424z (by omega)) (fun v u h => ?_)
  obtain ⟨z4, rfl, rfl, hz4⟩ := h
  show GG _ _ _ _ _ _ _ _ [.int z4] _ _ _
  refine g_istore_n 22 (gd rfl) rfl (Nat.le_of_ble_eq_true rfl) ?_
  refine g_iload_n 23 (gd rfl) rfl rfl ?_
  refine g_iload_n 24 (gd rfl) rfl rfl ?_
  refine g_cmp_lt 27 29 (gd rfl) rfl rfl (fun _ => ?_) (fun _ => ?_)
  rotate_left
  · refine g_iconst (-1) 28 (gd rfl) rfl rfl ?_
    exact g_ireturn (gd rfl) rfl rfl (hP _ _ ⟨_, rfl, rfl, ⟨by decide, by have e : (Int32.ofInt (-1)).toInt = -1 := by decide
                                                                          omega⟩⟩)
  refine g_aload_n 30 (gd rfl) rfl rfl ?_
  refine g_iload_n 31 (gd rfl) rfl rfl ?_
  refine g_iload_n 32 (gd rfl) rfl rfl ?_
  refine g_iload_n 33 (gd rfl) rfl rfl ?_
  have e0 : (Int32.ofInt 0).toInt = 0 := by decide
  refine g_calls (As := [.ref (zp Z x), .int c, .int z2, .int z4]) (r := []) 36 (gd rfl) rfl rfl rfl rfl rfl (Nat.le_of_ble_eq_true rfl) (Nat.zero_le _) (Nat.zero_le _) (k_438 hx (by omega) (by omega) (by omega)) (fun v u h => ?_)
  obtain ⟨z5, rfl, rfl, hz5⟩ := h
  show GG _ _ _ _ _ _ _ _ [.int z5] _ _ _
  exact g_ireturn (gd rfl) rfl rfl (hP _ _ ⟨z5, rfl, rfl, hz5⟩)
theorem k_431 {c : Int32} (hx : In x 0 6) (hd : 3 ≤ d) : GC Z d 431 [.ref (zq Z x), .int c, .int (Int32.ofInt 0)] ws 0 0 (fun v u => ∃ z : Int32, v = some (.int z) ∧ u = ws ∧ In z (-1) (zn x - 1)) X := by
  intro post xp hP hX
  refine g_enter2 (k := 431) (N := 300) (by omega) rfl (Nat.le_of_ble_eq_true rfl) ?_
  refine g_aload_n 1 (gd rfl) rfl rfl ?_
  refine g_callS (As := []) (r := []) (x := x) 4 (gd rfl) rfl rfl rfl zm_433 rfl rfl rfl hx (Nat.le_of_ble_eq_true rfl) (k_433 hx (by omega)) (fun e u h => h) (fun v u h => ?_)
  obtain ⟨rfl, rfl⟩ := h
  show GG _ _ _ _ _ _ _ _ [.int (Int32.ofInt 1)] _ _ _
  refine g_if_eq 7 23 (gd rfl) rfl rfl (fun c => absurd c (by decide)) (fun _ => ?_)
  refine g_aload_n 8 (gd rfl) rfl rfl ?_
  refine g_getVA 11 (gd rfl) rfl hx rfl ?_
  refine g_iload_n 12 (gd rfl) rfl rfl ?_
  refine g_iload_n 13 (gd rfl) rfl rfl ?_
  refine g_aload_n 14 (gd rfl) rfl rfl ?_
  refine g_callS (As := []) (r := [.int (Int32.ofInt 0), .int c, .ref (zp Z x)]) (x := x) 17 (gd rfl) rfl rfl rfl zm_427 rfl rfl rfl hx (Nat.le_of_ble_eq_true rfl) (k_427 hx (by omega)) (fun e u h => h) (fun v u h => ?_)
  obtain ⟨z, rfl, rfl, hz⟩ := h
  show GG _ _ _ _ _ _ _ _ [.int z, .int (Int32.ofInt 0), .int c, .ref (zp Z x)] _ _ _
  refine g_calls (As := [.ref (zp Z x), .int c, .int (Int32.ofInt 0), .int z]) (r := []) 20 (gd rfl) rfl rfl rfl rfl rfl (Nat.le_of_ble_eq_true rfl) (Nat.zero_le _) (Nat.zero_le _) (k_437 hx (by omega)) (fun v u h => ?_)
  obtain ⟨z5, rfl, rfl, hz5⟩ := h
  show GG _ _ _ _ _ _ _ _ [.int z5] _ _ _
  refine g_goto 36 (gd rfl) rfl ?_
  exact g_ireturn (gd rfl) rfl rfl (hP _ _ ⟨z5, rfl, rfl, hz5⟩)
theorem k_430 {c : Int32} (hx : In x 0 6) (hd : 4 ≤ d) : GC Z d 430 [.ref (zq Z x), .int c] ws 0 0 (fun v u => ∃ z : Int32, v = some (.int z) ∧ u = ws ∧ In z (-1) (zn x - 1)) X := by
  intro post xp hP hX
  refine g_enter2 (k := 430) (N := 300) (by omega) rfl (Nat.le_of_ble_eq_true rfl) ?_
  refine g_aload_n 1 (gd rfl) rfl rfl ?_
  refine g_iload_n 2 (gd rfl) rfl rfl ?_
  refine g_iconst 0 3 (gd rfl) rfl rfl ?_
  refine g_callS (As := [.int c, .int (Int32.ofInt 0)]) (r := []) (x := x) 6 (gd rfl) rfl rfl rfl zm_431 rfl rfl rfl hx (Nat.le_of_ble_eq_true rfl) (k_431 hx (by omega)) (fun e u h => h) (fun v u h => ?_)
  obtain ⟨z5, rfl, rfl, hz5⟩ := h
  show GG _ _ _ _ _ _ _ _ [.int z5] _ _ _
  exact g_ireturn (gd rfl) rfl rfl (hP _ _ ⟨z5, rfl, rfl, hz5⟩)
theorem k_439 {a b : Int32} {q : Value} (hq : q.category = 1) (h0 : 0 ≤ a.toInt) (h1 : a.toInt < b.toInt) (hd : 1 ≤ d) : GC Z d 439 [.int a, .int b, q] ws 0 0 (fun v u => v = some (.int a) ∧ u = ws) X := by
  intro post xp hP hX
  refine g_enter2 (k := 439) (N := 300) (by omega) rfl (by show (lg_sl [.int a, .int b, q]).length ≤ _; simp [lg_sl, hq]; exact Nat.le_of_ble_eq_true rfl) ?_
  refine g_iload_n 1 (gd rfl) rfl rfl ?_
  refine g_if_lt 4 9 (gd rfl) rfl rfl (fun c => absurd c (by omega)) (fun _ => ?_)
  refine g_iload_n 5 (gd rfl) rfl rfl ?_
  refine g_iload_n 6 (gd rfl) rfl rfl ?_
  refine g_cmp_lt 9 16 (gd rfl) rfl rfl (fun _ => ?_) (fun c => absurd c (by omega))
  refine g_iload_n 17 (gd rfl) rfl rfl ?_
  exact g_ireturn (gd rfl) rfl rfl (hP _ _ ⟨rfl, rfl⟩)
theorem k_434 {a b : Int32} (h0 : 0 ≤ a.toInt) (h1 : a.toInt < b.toInt) (hd : 2 ≤ d) : GC Z d 434 [.int a, .int b] ws 0 0 (fun v u => v = none ∧ u = ws) X := by
  intro post xp hP hX
  refine g_enter2 (k := 434) (N := 300) (by omega) rfl (Nat.le_of_ble_eq_true rfl) ?_
  refine g_iload_n 1 (gd rfl) rfl rfl ?_
  refine g_iload_n 2 (gd rfl) rfl rfl ?_
  refine g_getSF 5 (gd rfl) rfl rfl (fun q hq => ?_)
  refine g_calls (As := [.int a, .int b, q]) (r := []) 8 (gd rfl) rfl rfl rfl rfl rfl (Nat.le_of_ble_eq_true rfl) (Nat.zero_le _) (Nat.zero_le _) (k_439 hq h0 h1 (by omega)) (fun v u h => ?_)
  obtain ⟨rfl, rfl⟩ := h
  show GG _ _ _ _ _ _ _ _ [.int a] _ _ _
  refine g_pop 9 (gd rfl) rfl rfl ?_
  exact g_return (gd rfl) rfl (hP _ _ ⟨rfl, rfl⟩)
theorem z_nc2 {z : Int32} (h : In z 0 65535) : narrow .char (.int z) = .int z := by
  obtain ⟨a, b⟩ := h
  show Value.int (z.toUInt32.toUInt16.toUInt32.toInt32) = Value.int z
  have e : z.toUInt32.toUInt16.toUInt32 = z.toUInt32 := by
    refine UInt32.toNat_inj.mp ?_
    rw [UInt16.toNat_toUInt32, UInt32.toNat_toUInt16]
    have e2 : z.toUInt32.toNat = z.toInt.toNat := Int32.toNat_toUInt32_of_le (Int32.le_iff_toInt_le.mpr a)
    rw [e2]
    show z.toInt.toNat % 65536 = z.toInt.toNat
    omega
  rw [e, Int32.toInt32_toUInt32]
theorem zn_1 {x : Int32} (h : x.toInt = 1) : (zn x : Int) = 1 := by
  have e : x.toNatClampNeg = 1 := by show x.toInt.toNat = 1; omega
  unfold zn
  rw [e]
  rfl
theorem z_108 {x j z4 z5 z6 : Int32} (h : x.toInt = 1) (h0 : 0 ≤ j.toInt) (h1 : j.toInt < (zn x : Int)) (e4 : z4 = (am_byt.getD x.toNatClampNeg []).getD j.toNatClampNeg 0) (e5 : z5 = z4 &&& Int32.ofInt 255) (e6 : z6 = (z5.toUInt32 % 65536).toInt32) : z6.toInt = 108 := by
  have e : x.toNatClampNeg = 1 := by show x.toInt.toNat = 1; omega
  have e2 := zn_1 h
  have e3 : j.toNatClampNeg = 0 := by show j.toInt.toNat = 0; omega
  rw [e, e3] at e4
  have e4 : z4 = 108 := e4
  rw [e6, e5, e4]
  decide
end ZM
end
section
/-! bitCount as it is computed, and the lowest bit -/
def bc0 (x0 : Int32) : Int32 := ((((((((x0 - (((x0.toUInt32 >>> ((Int32.ofInt 1).toUInt32 &&& Int32.toUInt32 31)).toInt32) &&& (Int32.ofInt 1431655765))) &&& (Int32.ofInt 858993459)) + ((((x0 - (((x0.toUInt32 >>> ((Int32.ofInt 1).toUInt32 &&& Int32.toUInt32 31)).toInt32) &&& (Int32.ofInt 1431655765))).toUInt32 >>> ((Int32.ofInt 2).toUInt32 &&& Int32.toUInt32 31)).toInt32) &&& (Int32.ofInt 858993459))) + (((((x0 - (((x0.toUInt32 >>> ((Int32.ofInt 1).toUInt32 &&& Int32.toUInt32 31)).toInt32) &&& (Int32.ofInt 1431655765))) &&& (Int32.ofInt 858993459)) + ((((x0 - (((x0.toUInt32 >>> ((Int32.ofInt 1).toUInt32 &&& Int32.toUInt32 31)).toInt32) &&& (Int32.ofInt 1431655765))).toUInt32 >>> ((Int32.ofInt 2).toUInt32 &&& Int32.toUInt32 31)).toInt32) &&& (Int32.ofInt 858993459))).toUInt32 >>> ((Int32.ofInt 4).toUInt32 &&& Int32.toUInt32 31)).toInt32)) &&& (Int32.ofInt 252645135)) + (((((((x0 - (((x0.toUInt32 >>> ((Int32.ofInt 1).toUInt32 &&& Int32.toUInt32 31)).toInt32) &&& (Int32.ofInt 1431655765))) &&& (Int32.ofInt 858993459)) + ((((x0 - (((x0.toUInt32 >>> ((Int32.ofInt 1).toUInt32 &&& Int32.toUInt32 31)).toInt32) &&& (Int32.ofInt 1431655765))).toUInt32 >>> ((Int32.ofInt 2).toUInt32 &&& Int32.toUInt32 31)).toInt32) &&& (Int32.ofInt 858993459))) + (((((x0 - (((x0.toUInt32 >>> ((Int32.ofInt 1).toUInt32 &&& Int32.toUInt32 31)).toInt32) &&& (Int32.ofInt 1431655765))) &&& (Int32.ofInt 858993459)) + ((((x0 - (((x0.toUInt32 >>> ((Int32.ofInt 1).toUInt32 &&& Int32.toUInt32 31)).toInt32) &&& (Int32.ofInt 1431655765))).toUInt32 >>> ((Int32.ofInt 2).toUInt32 &&& Int32.toUInt32 31)).toInt32) &&& (Int32.ofInt 858993459))).toUInt32 >>> ((Int32.ofInt 4).toUInt32 &&& Int32.toUInt32 31)).toInt32)) &&& (Int32.ofInt 252645135)).toUInt32 >>> ((Int32.ofInt 8).toUInt32 &&& Int32.toUInt32 31)).toInt32)) + ((((((((x0 - (((x0.toUInt32 >>> ((Int32.ofInt 1).toUInt32 &&& Int32.toUInt32 31)).toInt32) &&& (Int32.ofInt 1431655765))) &&& (Int32.ofInt 858993459)) + ((((x0 - (((x0.toUInt32 >>> ((Int32.ofInt 1).toUInt32 &&& Int32.toUInt32 31)).toInt32) &&& (Int32.ofInt 1431655765))).toUInt32 >>> ((Int32.ofInt 2).toUInt32 &&& Int32.toUInt32 31)).toInt32) &&& (Int32.ofInt 858993459))) + (((((x0 - (((x0.toUInt32 >>> ((Int32.ofInt 1).toUInt32 &&& Int32.toUInt32 31)).toInt32) &&& (Int32.ofInt 1431655765))) &&& (Int32.ofInt 858993459)) + ((((x0 - (((x0.toUInt32 >>> ((Int32.ofInt 1).toUInt32 &&& Int32.toUInt32 31)).toInt32) &&& (Int32.ofInt 1431655765))).toUInt32 >>> ((Int32.ofInt 2).toUInt32 &&& Int32.toUInt32 31)).toInt32) &&& (Int32.ofInt 858993459))).toUInt32 >>> ((Int32.ofInt 4).toUInt32 &&& Int32.toUInt32 31)).toInt32)) &&& (Int32.ofInt 252645135)) + (((((((x0 - (((x0.toUInt32 >>> ((Int32.ofInt 1).toUInt32 &&& Int32.toUInt32 31)).toInt32) &&& (Int32.ofInt 1431655765))) &&& (Int32.ofInt 858993459)) + ((((x0 - (((x0.toUInt32 >>> ((Int32.ofInt 1).toUInt32 &&& Int32.toUInt32 31)).toInt32) &&& (Int32.ofInt 1431655765))).toUInt32 >>> ((Int32.ofInt 2).toUInt32 &&& Int32.toUInt32 31)).toInt32) &&& (Int32.ofInt 858993459))) + (((((x0 - (((x0.toUInt32 >>> ((Int32.ofInt 1).toUInt32 &&& Int32.toUInt32 31)).toInt32) &&& (Int32.ofInt 1431655765))) &&& (Int32.ofInt 858993459)) + ((((x0 - (((x0.toUInt32 >>> ((Int32.ofInt 1).toUInt32 &&& Int32.toUInt32 31)).toInt32) &&& (Int32.ofInt 1431655765))).toUInt32 >>> ((Int32.ofInt 2).toUInt32 &&& Int32.toUInt32 31)).toInt32) &&& (Int32.ofInt 858993459))).toUInt32 >>> ((Int32.ofInt 4).toUInt32 &&& Int32.toUInt32 31)).toInt32)) &&& (Int32.ofInt 252645135)).toUInt32 >>> ((Int32.ofInt 8).toUInt32 &&& Int32.toUInt32 31)).toInt32)).toUInt32 >>> ((Int32.ofInt 16).toUInt32 &&& Int32.toUInt32 31)).toInt32)) &&& (Int32.ofInt 63))
theorem x_414 {Z : AmZ} {d : Nat} {ws : va_W} {X : AmX} {x0 : Int32} (hd : 1 ≤ d) : GC Z d 414 [.int x0] ws 0 0 (fun v u => v = some (.int (bc0 x0)) ∧ u = ws) X := by
  intro post xp hP hX
  refine g_enter2 (k := 414) (N := 200) (by omega) rfl (Nat.le_of_ble_eq_true rfl) ?_
  refine g_iload_n 1 (gd rfl) rfl rfl ?_
  refine g_iload_n 2 (gd rfl) rfl rfl ?_
  refine g_iconst 1 3 (gd rfl) rfl rfl ?_
  refine g_iushr 4 (gd rfl) rfl (fun z1 e1 => ?_)
  refine g_ldc_w 1431655765 7 (gd rfl) rfl rfl ?_
  refine g_iand 8 (gd rfl) rfl (fun z2 e2 => ?_)
  refine g_isub 9 (gd rfl) rfl (fun z3 e3 => ?_)
  refine g_istore_n 10 (gd rfl) rfl (Nat.le_of_ble_eq_true rfl) ?_
  refine g_iload_n 11 (gd rfl) rfl rfl ?_
  refine g_ldc_w 858993459 14 (gd rfl) rfl rfl ?_
  refine g_iand 15 (gd rfl) rfl (fun z4 e4 => ?_)
  refine g_iload_n 16 (gd rfl) rfl rfl ?_
  refine g_iconst 2 17 (gd rfl) rfl rfl ?_
  refine g_iushr 18 (gd rfl) rfl (fun z5 e5 => ?_)
  refine g_ldc_w 858993459 21 (gd rfl) rfl rfl ?_
  refine g_iand 22 (gd rfl) rfl (fun z6 e6 => ?_)
  refine g_iadd 23 (gd rfl) rfl (fun z7 e7 => ?_)
  refine g_istore_n 24 (gd rfl) rfl (Nat.le_of_ble_eq_true rfl) ?_
  refine g_iload_n 25 (gd rfl) rfl rfl ?_
  refine g_iload_n 26 (gd rfl) rfl rfl ?_
  refine g_iconst 4 27 (gd rfl) rfl rfl ?_
  refine g_iushr 28 (gd rfl) rfl (fun z8 e8 => ?_)
  refine g_iadd 29 (gd rfl) rfl (fun z9 e9 => ?_)
  refine g_ldc_w 252645135 32 (gd rfl) rfl rfl ?_
  refine g_iand 33 (gd rfl) rfl (fun z10 e10 => ?_)
  refine g_istore_n 34 (gd rfl) rfl (Nat.le_of_ble_eq_true rfl) ?_
  refine g_iload_n 35 (gd rfl) rfl rfl ?_
  refine g_iload_n 36 (gd rfl) rfl rfl ?_
  refine g_bipush 8 38 (gd rfl) rfl rfl ?_
  refine g_iushr 39 (gd rfl) rfl (fun z11 e11 => ?_)
  refine g_iadd 40 (gd rfl) rfl (fun z12 e12 => ?_)
  refine g_istore_n 41 (gd rfl) rfl (Nat.le_of_ble_eq_true rfl) ?_
  refine g_iload_n 42 (gd rfl) rfl rfl ?_
  refine g_iload_n 43 (gd rfl) rfl rfl ?_
  refine g_bipush 16 45 (gd rfl) rfl rfl ?_
  refine g_iushr 46 (gd rfl) rfl (fun z13 e13 => ?_)
  refine g_iadd 47 (gd rfl) rfl (fun z14 e14 => ?_)
  refine g_istore_n 48 (gd rfl) rfl (Nat.le_of_ble_eq_true rfl) ?_
  refine g_iload_n 49 (gd rfl) rfl rfl ?_
  refine g_bipush 63 51 (gd rfl) rfl rfl ?_
  refine g_iand 52 (gd rfl) rfl (fun z15 e15 => ?_)
  exact g_ireturn (gd rfl) rfl rfl (hP _ _ ⟨by subst e1 e2 e3 e4 e5 e6 e7 e8 e9 e10 e11 e12 e13 e14 e15; rfl, rfl⟩)
def bcL (x0 : Int64) : Int32 := ((((((((((x0 - (((x0.toUInt64 >>> ((Int32.ofInt 1).toInt64.toUInt64 &&& Int64.toUInt64 63)).toInt64) &&& (Int64.ofInt 6148914691236517205))) &&& (Int64.ofInt 3689348814741910323)) + ((((x0 - (((x0.toUInt64 >>> ((Int32.ofInt 1).toInt64.toUInt64 &&& Int64.toUInt64 63)).toInt64) &&& (Int64.ofInt 6148914691236517205))).toUInt64 >>> ((Int32.ofInt 2).toInt64.toUInt64 &&& Int64.toUInt64 63)).toInt64) &&& (Int64.ofInt 3689348814741910323))) + (((((x0 - (((x0.toUInt64 >>> ((Int32.ofInt 1).toInt64.toUInt64 &&& Int64.toUInt64 63)).toInt64) &&& (Int64.ofInt 6148914691236517205))) &&& (Int64.ofInt 3689348814741910323)) + ((((x0 - (((x0.toUInt64 >>> ((Int32.ofInt 1).toInt64.toUInt64 &&& Int64.toUInt64 63)).toInt64) &&& (Int64.ofInt 6148914691236517205))).toUInt64 >>> ((Int32.ofInt 2).toInt64.toUInt64 &&& Int64.toUInt64 63)).toInt64) &&& (Int64.ofInt 3689348814741910323))).toUInt64 >>> ((Int32.ofInt 4).toInt64.toUInt64 &&& Int64.toUInt64 63)).toInt64)) &&& (Int64.ofInt 1085102592571150095)) + (((((((x0 - (((x0.toUInt64 >>> ((Int32.ofInt 1).toInt64.toUInt64 &&& Int64.toUInt64 63)).toInt64) &&& (Int64.ofInt 6148914691236517205))) &&& (Int64.ofInt 3689348814741910323)) + ((((x0 - (((x0.toUInt64 >>> ((Int32.ofInt 1).toInt64.toUInt64 &&& Int64.toUInt64 63)).toInt64) &&& (Int64.ofInt 6148914691236517205))).toUInt64 >>> ((Int32.ofInt 2).toInt64.toUInt64 &&& Int64.toUInt64 63)).toInt64) &&& (Int64.ofInt 3689348814741910323))) + (((((x0 - (((x0.toUInt64 >>> ((Int32.ofInt 1).toInt64.toUInt64 &&& Int64.toUInt64 63)).toInt64) &&& (Int64.ofInt 6148914691236517205))) &&& (Int64.ofInt 3689348814741910323)) + ((((x0 - (((x0.toUInt64 >>> ((Int32.ofInt 1).toInt64.toUInt64 &&& Int64.toUInt64 63)).toInt64) &&& (Int64.ofInt 6148914691236517205))).toUInt64 >>> ((Int32.ofInt 2).toInt64.toUInt64 &&& Int64.toUInt64 63)).toInt64) &&& (Int64.ofInt 3689348814741910323))).toUInt64 >>> ((Int32.ofInt 4).toInt64.toUInt64 &&& Int64.toUInt64 63)).toInt64)) &&& (Int64.ofInt 1085102592571150095)).toUInt64 >>> ((Int32.ofInt 8).toInt64.toUInt64 &&& Int64.toUInt64 63)).toInt64)) + ((((((((x0 - (((x0.toUInt64 >>> ((Int32.ofInt 1).toInt64.toUInt64 &&& Int64.toUInt64 63)).toInt64) &&& (Int64.ofInt 6148914691236517205))) &&& (Int64.ofInt 3689348814741910323)) + ((((x0 - (((x0.toUInt64 >>> ((Int32.ofInt 1).toInt64.toUInt64 &&& Int64.toUInt64 63)).toInt64) &&& (Int64.ofInt 6148914691236517205))).toUInt64 >>> ((Int32.ofInt 2).toInt64.toUInt64 &&& Int64.toUInt64 63)).toInt64) &&& (Int64.ofInt 3689348814741910323))) + (((((x0 - (((x0.toUInt64 >>> ((Int32.ofInt 1).toInt64.toUInt64 &&& Int64.toUInt64 63)).toInt64) &&& (Int64.ofInt 6148914691236517205))) &&& (Int64.ofInt 3689348814741910323)) + ((((x0 - (((x0.toUInt64 >>> ((Int32.ofInt 1).toInt64.toUInt64 &&& Int64.toUInt64 63)).toInt64) &&& (Int64.ofInt 6148914691236517205))).toUInt64 >>> ((Int32.ofInt 2).toInt64.toUInt64 &&& Int64.toUInt64 63)).toInt64) &&& (Int64.ofInt 3689348814741910323))).toUInt64 >>> ((Int32.ofInt 4).toInt64.toUInt64 &&& Int64.toUInt64 63)).toInt64)) &&& (Int64.ofInt 1085102592571150095)) + (((((((x0 - (((x0.toUInt64 >>> ((Int32.ofInt 1).toInt64.toUInt64 &&& Int64.toUInt64 63)).toInt64) &&& (Int64.ofInt 6148914691236517205))) &&& (Int64.ofInt 3689348814741910323)) + ((((x0 - (((x0.toUInt64 >>> ((Int32.ofInt 1).toInt64.toUInt64 &&& Int64.toUInt64 63)).toInt64) &&& (Int64.ofInt 6148914691236517205))).toUInt64 >>> ((Int32.ofInt 2).toInt64.toUInt64 &&& Int64.toUInt64 63)).toInt64) &&& (Int64.ofInt 3689348814741910323))) + (((((x0 - (((x0.toUInt64 >>> ((Int32.ofInt 1).toInt64.toUInt64 &&& Int64.toUInt64 63)).toInt64) &&& (Int64.ofInt 6148914691236517205))) &&& (Int64.ofInt 3689348814741910323)) + ((((x0 - (((x0.toUInt64 >>> ((Int32.ofInt 1).toInt64.toUInt64 &&& Int64.toUInt64 63)).toInt64) &&& (Int64.ofInt 6148914691236517205))).toUInt64 >>> ((Int32.ofInt 2).toInt64.toUInt64 &&& Int64.toUInt64 63)).toInt64) &&& (Int64.ofInt 3689348814741910323))).toUInt64 >>> ((Int32.ofInt 4).toInt64.toUInt64 &&& Int64.toUInt64 63)).toInt64)) &&& (Int64.ofInt 1085102592571150095)).toUInt64 >>> ((Int32.ofInt 8).toInt64.toUInt64 &&& Int64.toUInt64 63)).toInt64)).toUInt64 >>> ((Int32.ofInt 16).toInt64.toUInt64 &&& Int64.toUInt64 63)).toInt64)) + (((((((((x0 - (((x0.toUInt64 >>> ((Int32.ofInt 1).toInt64.toUInt64 &&& Int64.toUInt64 63)).toInt64) &&& (Int64.ofInt 6148914691236517205))) &&& (Int64.ofInt 3689348814741910323)) + ((((x0 - (((x0.toUInt64 >>> ((Int32.ofInt 1).toInt64.toUInt64 &&& Int64.toUInt64 63)).toInt64) &&& (Int64.ofInt 6148914691236517205))).toUInt64 >>> ((Int32.ofInt 2).toInt64.toUInt64 &&& Int64.toUInt64 63)).toInt64) &&& (Int64.ofInt 3689348814741910323))) + (((((x0 - (((x0.toUInt64 >>> ((Int32.ofInt 1).toInt64.toUInt64 &&& Int64.toUInt64 63)).toInt64) &&& (Int64.ofInt 6148914691236517205))) &&& (Int64.ofInt 3689348814741910323)) + ((((x0 - (((x0.toUInt64 >>> ((Int32.ofInt 1).toInt64.toUInt64 &&& Int64.toUInt64 63)).toInt64) &&& (Int64.ofInt 6148914691236517205))).toUInt64 >>> ((Int32.ofInt 2).toInt64.toUInt64 &&& Int64.toUInt64 63)).toInt64) &&& (Int64.ofInt 3689348814741910323))).toUInt64 >>> ((Int32.ofInt 4).toInt64.toUInt64 &&& Int64.toUInt64 63)).toInt64)) &&& (Int64.ofInt 1085102592571150095)) + (((((((x0 - (((x0.toUInt64 >>> ((Int32.ofInt 1).toInt64.toUInt64 &&& Int64.toUInt64 63)).toInt64) &&& (Int64.ofInt 6148914691236517205))) &&& (Int64.ofInt 3689348814741910323)) + ((((x0 - (((x0.toUInt64 >>> ((Int32.ofInt 1).toInt64.toUInt64 &&& Int64.toUInt64 63)).toInt64) &&& (Int64.ofInt 6148914691236517205))).toUInt64 >>> ((Int32.ofInt 2).toInt64.toUInt64 &&& Int64.toUInt64 63)).toInt64) &&& (Int64.ofInt 3689348814741910323))) + (((((x0 - (((x0.toUInt64 >>> ((Int32.ofInt 1).toInt64.toUInt64 &&& Int64.toUInt64 63)).toInt64) &&& (Int64.ofInt 6148914691236517205))) &&& (Int64.ofInt 3689348814741910323)) + ((((x0 - (((x0.toUInt64 >>> ((Int32.ofInt 1).toInt64.toUInt64 &&& Int64.toUInt64 63)).toInt64) &&& (Int64.ofInt 6148914691236517205))).toUInt64 >>> ((Int32.ofInt 2).toInt64.toUInt64 &&& Int64.toUInt64 63)).toInt64) &&& (Int64.ofInt 3689348814741910323))).toUInt64 >>> ((Int32.ofInt 4).toInt64.toUInt64 &&& Int64.toUInt64 63)).toInt64)) &&& (Int64.ofInt 1085102592571150095)).toUInt64 >>> ((Int32.ofInt 8).toInt64.toUInt64 &&& Int64.toUInt64 63)).toInt64)) + ((((((((x0 - (((x0.toUInt64 >>> ((Int32.ofInt 1).toInt64.toUInt64 &&& Int64.toUInt64 63)).toInt64) &&& (Int64.ofInt 6148914691236517205))) &&& (Int64.ofInt 3689348814741910323)) + ((((x0 - (((x0.toUInt64 >>> ((Int32.ofInt 1).toInt64.toUInt64 &&& Int64.toUInt64 63)).toInt64) &&& (Int64.ofInt 6148914691236517205))).toUInt64 >>> ((Int32.ofInt 2).toInt64.toUInt64 &&& Int64.toUInt64 63)).toInt64) &&& (Int64.ofInt 3689348814741910323))) + (((((x0 - (((x0.toUInt64 >>> ((Int32.ofInt 1).toInt64.toUInt64 &&& Int64.toUInt64 63)).toInt64) &&& (Int64.ofInt 6148914691236517205))) &&& (Int64.ofInt 3689348814741910323)) + ((((x0 - (((x0.toUInt64 >>> ((Int32.ofInt 1).toInt64.toUInt64 &&& Int64.toUInt64 63)).toInt64) &&& (Int64.ofInt 6148914691236517205))).toUInt64 >>> ((Int32.ofInt 2).toInt64.toUInt64 &&& Int64.toUInt64 63)).toInt64) &&& (Int64.ofInt 3689348814741910323))).toUInt64 >>> ((Int32.ofInt 4).toInt64.toUInt64 &&& Int64.toUInt64 63)).toInt64)) &&& (Int64.ofInt 1085102592571150095)) + (((((((x0 - (((x0.toUInt64 >>> ((Int32.ofInt 1).toInt64.toUInt64 &&& Int64.toUInt64 63)).toInt64) &&& (Int64.ofInt 6148914691236517205))) &&& (Int64.ofInt 3689348814741910323)) + ((((x0 - (((x0.toUInt64 >>> ((Int32.ofInt 1).toInt64.toUInt64 &&& Int64.toUInt64 63)).toInt64) &&& (Int64.ofInt 6148914691236517205))).toUInt64 >>> ((Int32.ofInt 2).toInt64.toUInt64 &&& Int64.toUInt64 63)).toInt64) &&& (Int64.ofInt 3689348814741910323))) + (((((x0 - (((x0.toUInt64 >>> ((Int32.ofInt 1).toInt64.toUInt64 &&& Int64.toUInt64 63)).toInt64) &&& (Int64.ofInt 6148914691236517205))) &&& (Int64.ofInt 3689348814741910323)) + ((((x0 - (((x0.toUInt64 >>> ((Int32.ofInt 1).toInt64.toUInt64 &&& Int64.toUInt64 63)).toInt64) &&& (Int64.ofInt 6148914691236517205))).toUInt64 >>> ((Int32.ofInt 2).toInt64.toUInt64 &&& Int64.toUInt64 63)).toInt64) &&& (Int64.ofInt 3689348814741910323))).toUInt64 >>> ((Int32.ofInt 4).toInt64.toUInt64 &&& Int64.toUInt64 63)).toInt64)) &&& (Int64.ofInt 1085102592571150095)).toUInt64 >>> ((Int32.ofInt 8).toInt64.toUInt64 &&& Int64.toUInt64 63)).toInt64)).toUInt64 >>> ((Int32.ofInt 16).toInt64.toUInt64 &&& Int64.toUInt64 63)).toInt64)).toUInt64 >>> ((Int32.ofInt 32).toInt64.toUInt64 &&& Int64.toUInt64 63)).toInt64)).toInt32) &&& (Int32.ofInt 127))
theorem x_415 {Z : AmZ} {d : Nat} {ws : va_W} {X : AmX} {x0 : Int64} (hd : 1 ≤ d) : GC Z d 415 [.long x0] ws 0 0 (fun v u => v = some (.int (bcL x0)) ∧ u = ws) X := by
  intro post xp hP hX
  refine g_enter2 (k := 415) (N := 200) (by omega) rfl (Nat.le_of_ble_eq_true rfl) ?_
  refine g_lload_n 1 (gd rfl) rfl rfl ?_
  refine g_lload_n 2 (gd rfl) rfl rfl ?_
  refine g_iconst 1 3 (gd rfl) rfl rfl ?_
  refine g_lushr 4 (gd rfl) rfl (fun z1 e1 => ?_)
  refine g_ldc2_w 6148914691236517205 7 (gd rfl) rfl rfl ?_
  refine g_land 8 (gd rfl) rfl (fun z2 e2 => ?_)
  refine g_lsub 9 (gd rfl) rfl (fun z3 e3 => ?_)
  refine g_lstore_n 10 (gd rfl) rfl (Nat.le_of_ble_eq_true rfl) ?_
  refine g_lload_n 11 (gd rfl) rfl rfl ?_
  refine g_ldc2_w 3689348814741910323 14 (gd rfl) rfl rfl ?_
  refine g_land 15 (gd rfl) rfl (fun z4 e4 => ?_)
  refine g_lload_n 16 (gd rfl) rfl rfl ?_
  refine g_iconst 2 17 (gd rfl) rfl rfl ?_
  refine g_lushr 18 (gd rfl) rfl (fun z5 e5 => ?_)
  refine g_ldc2_w 3689348814741910323 21 (gd rfl) rfl rfl ?_
  refine g_land 22 (gd rfl) rfl (fun z6 e6 => ?_)
  refine g_ladd 23 (gd rfl) rfl (fun z7 e7 => ?_)
  refine g_lstore_n 24 (gd rfl) rfl (Nat.le_of_ble_eq_true rfl) ?_
  refine g_lload_n 25 (gd rfl) rfl rfl ?_
  refine g_lload_n 26 (gd rfl) rfl rfl ?_
  refine g_iconst 4 27 (gd rfl) rfl rfl ?_
  refine g_lushr 28 (gd rfl) rfl (fun z8 e8 => ?_)
  refine g_ladd 29 (gd rfl) rfl (fun z9 e9 => ?_)
  refine g_ldc2_w 1085102592571150095 32 (gd rfl) rfl rfl ?_
  refine g_land 33 (gd rfl) rfl (fun z10 e10 => ?_)
  refine g_lstore_n 34 (gd rfl) rfl (Nat.le_of_ble_eq_true rfl) ?_
  refine g_lload_n 35 (gd rfl) rfl rfl ?_
  refine g_lload_n 36 (gd rfl) rfl rfl ?_
  refine g_bipush 8 38 (gd rfl) rfl rfl ?_
  refine g_lushr 39 (gd rfl) rfl (fun z11 e11 => ?_)
  refine g_ladd 40 (gd rfl) rfl (fun z12 e12 => ?_)
  refine g_lstore_n 41 (gd rfl) rfl (Nat.le_of_ble_eq_true rfl) ?_
  refine g_lload_n 42 (gd rfl) rfl rfl ?_
  refine g_lload_n 43 (gd rfl) rfl rfl ?_
  refine g_bipush 16 45 (gd rfl) rfl rfl ?_
  refine g_lushr 46 (gd rfl) rfl (fun z13 e13 => ?_)
  refine g_ladd 47 (gd rfl) rfl (fun z14 e14 => ?_)
  refine g_lstore_n 48 (gd rfl) rfl (Nat.le_of_ble_eq_true rfl) ?_
  refine g_lload_n 49 (gd rfl) rfl rfl ?_
  refine g_lload_n 50 (gd rfl) rfl rfl ?_
  refine g_bipush 32 52 (gd rfl) rfl rfl ?_
  refine g_lushr 53 (gd rfl) rfl (fun z15 e15 => ?_)
  refine g_ladd 54 (gd rfl) rfl (fun z16 e16 => ?_)
  refine g_lstore_n 55 (gd rfl) rfl (Nat.le_of_ble_eq_true rfl) ?_
  refine g_lload_n 56 (gd rfl) rfl rfl ?_
  refine g_l2i 57 (gd rfl) rfl (fun z17 e17 => ?_)
  refine g_bipush 127 59 (gd rfl) rfl rfl ?_
  refine g_iand 60 (gd rfl) rfl (fun z18 e18 => ?_)
  exact g_ireturn (gd rfl) rfl rfl (hP _ _ ⟨by subst e1 e2 e3 e4 e5 e6 e7 e8 e9 e10 e11 e12 e13 e14 e15 e16 e17 e18; rfl, rfl⟩)
theorem ex_least (p : Nat → Bool) : ∀ n, p n = true → ∃ k, p k = true ∧ ∀ j, j < k → p j = false := by
  intro n
  induction n using Nat.strongRecOn with
  | ind n ih =>
    intro h
    by_cases hj : ∃ j, j < n ∧ p j = true
    · obtain ⟨j, a, b⟩ := hj
      exact ih j a b
    · refine ⟨n, h, fun j hj2 => ?_⟩
      cases e : p j with
      | true => exact absurd ⟨j, hj2, e⟩ hj
      | false => rfl
theorem bv_low {w : Nat} (x : BitVec w) (hx : x ≠ 0#w) : ∃ k, k < w ∧ x.getLsbD k = true ∧ x &&& -x = BitVec.twoPow w k := by
  have h1 : ∃ n, x.getLsbD n = true := by
    refine Classical.byContradiction fun hc => hx ?_
    refine BitVec.eq_of_getLsbD_eq fun i _ => ?_
    cases e : x.getLsbD i with
    | true => exact absurd ⟨i, e⟩ hc
    | false => simp
  obtain ⟨n, hn⟩ := h1
  obtain ⟨k, hk, hmin⟩ := ex_least (fun i => x.getLsbD i) n hn
  have hkw : k < w := BitVec.lt_of_getLsbD hk
  refine ⟨k, hkw, hk, ?_⟩
  refine BitVec.eq_of_getLsbD_eq fun i hi => ?_
  rw [BitVec.getLsbD_and, BitVec.getLsbD_neg, BitVec.getLsbD_twoPow]
  by_cases e : k = i
  · subst e
    have hno : ¬ ∃ j, j < k ∧ x.getLsbD j = true := fun ⟨j, a, b⟩ => by
      have h9 : x.getLsbD j = false := hmin j a
      rw [h9] at b
      cases b
    have hk : x.getLsbD k = true := hk
    simp [hk, hkw, hno]
  · have hr : (decide (k < w) && decide (k = i)) = false := by simp [e]
    rw [hr]
    rcases Nat.lt_or_ge i k with c | c
    · have h0 : x.getLsbD i = false := hmin i c
      rw [h0]
      rfl
    · have hex : ∃ j, j < i ∧ x.getLsbD j = true := ⟨k, by omega, hk⟩
      cases x.getLsbD i <;> simp [hex, hi]
theorem bc_all : ∀ k : Fin 32, (bc0 (Int32.ofBitVec (BitVec.twoPow 32 k.val) - Int32.ofInt 1)).toInt = (k.val : Int) := by decide +kernel
theorem bcL_all : ∀ k : Fin 64, (bcL (Int64.ofBitVec (BitVec.twoPow 64 k.val) - Int64.ofInt 1)).toInt = (k.val : Int) := by decide +kernel
/-- k is the lowest bit of x -/
def lowB (x : Int32) (k : Nat) : Prop := x &&& -x = Int32.ofBitVec (BitVec.twoPow 32 k)
theorem low32x {x : Int32} (hx : x.toInt ≠ 0) : ∃ k : Nat, k < 32 ∧ x.toBitVec.getLsbD k = true ∧ lowB x k ∧ (bc0 ((x &&& -x) - Int32.ofInt 1)).toInt = (k : Int) := by
  have hb : x.toBitVec ≠ 0#32 := fun e => hx (by
    show x.toBitVec.toInt = 0
    rw [e]
    rfl)
  obtain ⟨k, h1, h2, h3⟩ := bv_low x.toBitVec hb
  have e : x &&& -x = Int32.ofBitVec (BitVec.twoPow 32 k) := by
    rw [← h3]
    rfl
  refine ⟨k, h1, h2, e, ?_⟩
  rw [e]
  exact bc_all ⟨k, h1⟩
theorem low32 {x : Int32} (hx : x.toInt ≠ 0) : ∃ k : Nat, k < 32 ∧ x.toBitVec.getLsbD k = true ∧ (bc0 ((x &&& -x) - Int32.ofInt 1)).toInt = (k : Int) := by
  obtain ⟨k, a, b, _, c⟩ := low32x hx
  exact ⟨k, a, b, c⟩
theorem low64 {x : Int64} (hx : x.toInt ≠ 0) : ∃ k : Nat, k < 64 ∧ x.toBitVec.getLsbD k = true ∧ (bcL ((x &&& -x) - Int64.ofInt 1)).toInt = (k : Int) := by
  have hb : x.toBitVec ≠ 0#64 := fun e => hx (by
    show x.toBitVec.toInt = 0
    rw [e]
    rfl)
  obtain ⟨k, h1, h2, h3⟩ := bv_low x.toBitVec hb
  refine ⟨k, h1, h2, ?_⟩
  have e : x &&& -x = Int64.ofBitVec (BitVec.twoPow 64 k) := by
    rw [← h3]
    rfl
  rw [e]
  exact bcL_all ⟨k, h1⟩
def bt (x : Int32) (k : Nat) : Bool := x.toBitVec.getLsbD k
theorem clamp_eq {x : Int32} {k : Nat} (h : x.toInt = (k : Int)) : x.toNatClampNeg = k := by
  show x.toInt.toNat = k
  omega
section GB
variable {Z : AmZ} {d : Nat} {ws : va_W} {X : AmX}
theorem x_264 {x0 : Int32} (hd : 2 ≤ d) : GC Z d 264 [.int x0] ws 0 0 (fun v u => v = some (.int (bc0 ((x0 &&& -x0) - Int32.ofInt 1))) ∧ u = ws) X := by
  intro post xp hP hX
  refine g_enter2 (k := 264) (N := 50) (by omega) rfl (Nat.le_of_ble_eq_true rfl) ?_
  refine g_iload_n 1 (gd rfl) rfl rfl ?_
  refine g_iload_n 2 (gd rfl) rfl rfl ?_
  refine g_ineg 3 (gd rfl) rfl (fun z1 e1 => ?_)
  refine g_iand 4 (gd rfl) rfl (fun z2 e2 => ?_)
  refine g_iconst 1 5 (gd rfl) rfl rfl ?_
  refine g_isub 6 (gd rfl) rfl (fun z3 e3 => ?_)
  refine g_calls (As := [.int z3]) (r := []) 9 (gd rfl) rfl rfl rfl rfl rfl (Nat.le_of_ble_eq_true rfl) (Nat.zero_le _) (Nat.zero_le _) (x_414 (by omega)) (fun v u h => ?_)
  obtain ⟨rfl, rfl⟩ := h
  show GG _ _ _ _ _ _ _ _ [.int (bc0 z3)] _ _ _
  exact g_ireturn (gd rfl) rfl rfl (hP _ _ ⟨by rw [e3, e2, e1], rfl⟩)
theorem x_265 {x0 : Int64} (hd : 2 ≤ d) : GC Z d 265 [.long x0] ws 0 0 (fun v u => v = some (.int (bcL ((x0 &&& -x0) - Int64.ofInt 1))) ∧ u = ws) X := by
  intro post xp hP hX
  refine g_enter2 (k := 265) (N := 50) (by omega) rfl (Nat.le_of_ble_eq_true rfl) ?_
  refine g_lload_n 1 (gd rfl) rfl rfl ?_
  refine g_lload_n 2 (gd rfl) rfl rfl ?_
  refine g_lneg 3 (gd rfl) rfl (fun z1 e1 => ?_)
  refine g_land 4 (gd rfl) rfl (fun z2 e2 => ?_)
  refine g_lconst 1 5 (gd rfl) rfl rfl ?_
  refine g_lsub 6 (gd rfl) rfl (fun z3 e3 => ?_)
  refine g_calls (As := [.long z3]) (r := []) 9 (gd rfl) rfl rfl rfl rfl rfl (Nat.le_of_ble_eq_true rfl) (Nat.zero_le _) (Nat.zero_le _) (x_415 (by omega)) (fun v u h => ?_)
  obtain ⟨rfl, rfl⟩ := h
  show GG _ _ _ _ _ _ _ _ [.int (bcL z3)] _ _ _
  exact g_ireturn (gd rfl) rfl rfl (hP _ _ ⟨by rw [e3, e2, e1], rfl⟩)
theorem k_264n {x0 : Int32} (hd : 2 ≤ d) (hx : x0.toInt ≠ 0) : GC Z d 264 [.int x0] ws 0 0 (fun v u => ∃ z : Int32, v = some (.int z) ∧ u = ws ∧ In z 0 31 ∧ bt x0 z.toNatClampNeg = true ∧ lowB x0 z.toNatClampNeg) X := by
  intro post xp hP hX
  obtain ⟨k, h1, h2, h4, h3⟩ := low32x hx
  exact x_264 hd post xp (fun v u h => hP v u ⟨_, h.1, h.2, ⟨by omega, by omega⟩, by rw [clamp_eq h3]; exact h2, by rw [clamp_eq h3]; exact h4⟩) hX
theorem k_264 {x0 : Int32} (hd : 2 ≤ d) : GC Z d 264 [.int x0] ws 0 0 (fun v u => ∃ z : Int32, v = some (.int z) ∧ u = ws ∧ In z 0 32 ∧ (x0.toInt ≠ 0 → In z 0 31 ∧ bt x0 z.toNatClampNeg = true ∧ lowB x0 z.toNatClampNeg)) X := by
  intro post xp hP hX
  by_cases hx : x0.toInt = 0
  · have e : x0 = 0 := Int32.toInt_inj.mp hx
    refine x_264 hd post xp (fun v u h => hP v u ⟨_, h.1, h.2, ?_, fun z => absurd hx z⟩) hX
    rw [e]
    exact ⟨by decide, by decide⟩
  · exact k_264n hd hx post xp (fun v u ⟨z, a, b, c, e, g⟩ => hP v u ⟨z, a, b, in_w 0 32 c rfl, fun _ => ⟨c, e, g⟩⟩) hX
/-- of a row of bits below j -/
theorem k_265n {x0 : Int64} (j : Nat) (hd : 2 ≤ d) (hx : x0.toInt ≠ 0) (hj : j ≤ 63) (h0 : InL x0 0 (2 ^ j - 1)) : GC Z d 265 [.long x0] ws 0 0 (fun v u => ∃ z : Int32, v = some (.int z) ∧ u = ws ∧ In z 0 (j - 1) ∧ x0.toBitVec.getLsbD z.toNatClampNeg = true) X := by
  intro post xp hP hX
  obtain ⟨k, h1, h2, h3⟩ := low64 hx
  refine x_265 hd post xp (fun v u h => hP v u ⟨_, h.1, h.2, ⟨by omega, ?_⟩, by rw [clamp_eq h3]; exact h2⟩) hX
  rw [h3]
  have hge : 2 ^ k ≤ x0.toBitVec.toNat := Nat.ge_two_pow_of_testBit h2
  have hlt : x0.toBitVec.toNat < 2 ^ j := by
    obtain ⟨g1, g2⟩ := h0
    have g1 : 0 ≤ x0.toBitVec.toInt := g1
    have g2 : x0.toBitVec.toInt ≤ 2 ^ j - 1 := g2
    have hl : 2 * x0.toBitVec.toNat < 2 ^ 64 := by
      rw [BitVec.toInt_eq_toNat_cond] at g1
      split at g1
      · assumption
      · have := x0.toBitVec.isLt
        omega
    rw [BitVec.toInt_eq_toNat_of_lt hl] at g2
    have : ((2 ^ j : Nat) : Int) = 2 ^ j := by norm_cast
    omega
  have hkj : k < j := by
    refine Nat.lt_of_not_le fun c => ?_
    have := Nat.pow_le_pow_right (show 0 < 2 by decide) c
    omega
  omega
end GB
end
section
/-! Arrays.fill over any row of the world -/
theorem sA_self (s : GS) (q : Nat) : sA s q (s.1 q) = s := by
  unfold sA
  congr 1
  funext p
  by_cases e : p = q
  · rw [if_pos e, e]
  · rw [if_neg e]
theorem sI_sA (s : GS) (q j : Nat) (g : Nat → Int32) (x : Int32) : sI (sA s q g) q j x = sA s q (upd g j x) := by
  unfold sI sA
  congr 1
  funext p
  by_cases e : p = q
  · simp [e]
  · simp [e]
theorem sB_self (s : GS) (q : Nat) : sB s q (s.2.1 q) = s := by
  unfold sB
  have e : (fun p => if p = q then s.2.1 q else s.2.1 p) = s.2.1 := by
    funext p
    by_cases e : p = q
    · rw [if_pos e, e]
    · rw [if_neg e]
  rw [e]
theorem sL_sB (s : GS) (q j : Nat) (g : Nat → Int64) (x : Int64) : sL (sB s q g) q j x = sB s q (vp_updL g j x) := by
  unfold sL sB
  have e : (fun p => if p = q then vp_updL (if q = q then g else s.2.1 q) j x else if p = q then g else s.2.1 p) = (fun p => if p = q then vp_updL g j x else s.2.1 p) := by
    funext p
    by_cases e : p = q
    · simp [e]
    · simp [e]
  exact congrArg (fun z => (s.1, z, s.2.2)) e
theorem x_417 {Z : AmZ} {A : Nat → Nat} {s : GS} {ex : va_W} {d : Nat} {X : AmX} {q n : Nat} {x1 : Int32} (hd : 1 ≤ d) (hw : wak q 0 n = true) (hn : n ≤ 100000) : GC Z d 417 [.ref (A q), .int x1] (WW Z A s ++ ex) 0 0 (fun v u => ∃ g, v = none ∧ u = WW Z A (sA s q g) ++ ex ∧ ∀ j, j < n → g j = x1) X := by
  intro post xp hP hX
  have en : (Int32.ofInt (n : Int)).toInt = (n : Int) := Int32.toInt_ofInt_of_le (by omega) (by omega)
  have hc : Int32.ofNat n = Int32.ofInt (n : Int) := by
    apply Int32.toInt_inj.mp
    rw [en]
    exact Int32.toInt_ofNat_of_lt (by omega)
  have ct : ∀ (k : Nat) (g : Nat → Int32) (y : Int32), 0 ≤ y.toInt → y.toInt ≤ (n : Int) → (∀ j : Nat, (j : Int) < y.toInt → g j = x1) → (n : Int) - y.toInt < (k : Int) → GG Z (d - 1) 417 post (gx xp) (10 + k * 20) 5 (fun j => xlook j [(0, .ref (A q)), (1, .int x1), (2, .int y), (3, .int (Int32.ofInt (n : Int)))]) [] (WW Z A (sA s q g) ++ ex) 0 0 := by
    intro k
    induction k with
    | zero => intro g y h0 h1 hg hm; omega
    | succ k ih =>
      intro g y h0 h1 hg hm
      refine gg_w (M := 10 + k * 20 + 20) (by omega) ?_
      refine g_iload_n 6 (gd rfl) rfl rfl ?_
      refine g_iload_n 7 (gd rfl) rfl rfl ?_
      refine g_cmp_ge 10 20 (gd rfl) rfl rfl (fun c => ?_) (fun c => ?_)
      · exact g_return (gd rfl) rfl (hP _ _ ⟨g, rfl, rfl, fun j hj => hg j (by omega)⟩)
      · have hin : vp_in y n := in_ix (lo := 0) (hi := (n : Int) - 1) ⟨h0, by omega⟩ (decide_eq_true ⟨by omega, by omega⟩)
        refine g_aload_n 11 (gd rfl) rfl rfl ?_
        refine g_iload_n 12 (gd rfl) rfl rfl ?_
        refine g_iload_n 13 (gd rfl) rfl rfl ?_
        refine g_iastore 14 (gd rfl) rfl hw hin ?_
        rw [sI_sA]
        refine g_iinc 17 (gd rfl) rfl rfl (Nat.le_of_ble_eq_true rfl) (fun z e => ?_)
        refine g_goto 5 (gd rfl) rfl ?_
        have ez : z.toInt = y.toInt + 1 := by
          rw [e, Int32.toInt_add]
          have e1 : (Int32.ofInt 1).toInt = 1 := rfl
          rw [e1]
          exact Int.bmod_eq_of_le (by omega) (by omega)
        refine gg_w (by omega) (gg_f (gf_cons rfl (gf_cons rfl (gf_cons rfl (gf_cons rfl gf_nil)))) (ih _ z (by omega) (by omega) (fun j hj => ?_) (by omega)))
        unfold upd
        by_cases ej : j = y.toNatClampNeg
        · rw [if_pos ej]
        · rw [if_neg ej]
          refine hg j ?_
          have e2 : (y.toNatClampNeg : Int) = y.toInt := by
            show ((y.toInt.toNat : Nat) : Int) = y.toInt
            omega
          omega
  refine g_enter2 (k := 417) (N := 30 + (n + 1) * 20) (by omega) rfl (Nat.le_of_ble_eq_true rfl) ?_
  refine gg_w (M := 10 + (n + 1) * 20 + 10) (by omega) ?_
  refine g_iconst 0 1 (gd rfl) rfl rfl ?_
  refine g_istore_n 2 (gd rfl) rfl (Nat.le_of_ble_eq_true rfl) ?_
  refine g_aload_n 3 (gd rfl) rfl rfl ?_
  refine g_alen (t := 0) (n : Int) 4 (gd rfl) rfl hw (by decide) hc ?_
  refine g_istore_n 5 (gd rfl) rfl (Nat.le_of_ble_eq_true rfl) ?_
  have e0 : (Int32.ofInt 0).toInt = 0 := rfl
  have g0 := ct (n + 1) (s.1 q) (Int32.ofInt 0) (by omega) (by omega) (fun j hj => by omega) (by omega)
  rw [sA_self] at g0
  exact gg_w (by omega) (gg_f (gf_cons rfl (gf_cons rfl (gf_cons rfl (gf_cons rfl gf_nil)))) g0)
theorem x_416 {Z : AmZ} {A : Nat → Nat} {s : GS} {ex : va_W} {d : Nat} {X : AmX} {q n : Nat} {x1 : Int64} (hd : 1 ≤ d) (hw : wak q 1 n = true) (hn : n ≤ 100000) : GC Z d 416 [.ref (A q), .long x1] (WW Z A s ++ ex) 0 0 (fun v u => ∃ g, v = none ∧ u = WW Z A (sB s q g) ++ ex ∧ ∀ j, j < n → g j = x1) X := by
  intro post xp hP hX
  have en : (Int32.ofInt (n : Int)).toInt = (n : Int) := Int32.toInt_ofInt_of_le (by omega) (by omega)
  have hc : Int32.ofNat n = Int32.ofInt (n : Int) := by
    apply Int32.toInt_inj.mp
    rw [en]
    exact Int32.toInt_ofNat_of_lt (by omega)
  have ct : ∀ (k : Nat) (g : Nat → Int64) (y : Int32), 0 ≤ y.toInt → y.toInt ≤ (n : Int) → (∀ j : Nat, (j : Int) < y.toInt → g j = x1) → (n : Int) - y.toInt < (k : Int) → GG Z (d - 1) 416 post (gx xp) (10 + k * 20) 6 (fun j => xlook j [(0, .ref (A q)), (1, .long x1), (3, .int y), (4, .int (Int32.ofInt (n : Int)))]) [] (WW Z A (sB s q g) ++ ex) 0 0 := by
    intro k
    induction k with
    | zero => intro g y h0 h1 hg hm; omega
    | succ k ih =>
      intro g y h0 h1 hg hm
      refine gg_w (M := 10 + k * 20 + 20) (by omega) ?_
      refine g_iload_n 7 (gd rfl) rfl rfl ?_
      refine g_iload 9 (gd rfl) rfl rfl ?_
      refine g_cmp_ge 12 22 (gd rfl) rfl rfl (fun c => ?_) (fun c => ?_)
      · exact g_return (gd rfl) rfl (hP _ _ ⟨g, rfl, rfl, fun j hj => hg j (by omega)⟩)
      · have hin : vp_in y n := in_ix (lo := 0) (hi := (n : Int) - 1) ⟨h0, by omega⟩ (decide_eq_true ⟨by omega, by omega⟩)
        refine g_aload_n 13 (gd rfl) rfl rfl ?_
        refine g_iload_n 14 (gd rfl) rfl rfl ?_
        refine g_lload_n 15 (gd rfl) rfl rfl ?_
        refine g_lastore 16 (gd rfl) rfl hw hin ?_
        rw [sL_sB]
        refine g_iinc 19 (gd rfl) rfl rfl (Nat.le_of_ble_eq_true rfl) (fun z e => ?_)
        refine g_goto 6 (gd rfl) rfl ?_
        have ez : z.toInt = y.toInt + 1 := by
          rw [e, Int32.toInt_add]
          have e1 : (Int32.ofInt 1).toInt = 1 := rfl
          rw [e1]
          exact Int.bmod_eq_of_le (by omega) (by omega)
        refine gg_w (by omega) (gg_f (gf_cons rfl (gf_cons rfl (gf_cons rfl (gf_cons rfl gf_nil)))) (ih _ z (by omega) (by omega) (fun j hj => ?_) (by omega)))
        unfold vp_updL
        by_cases ej : j = y.toNatClampNeg
        · rw [if_pos ej]
        · rw [if_neg ej]
          refine hg j ?_
          have e2 : (y.toNatClampNeg : Int) = y.toInt := by
            show ((y.toInt.toNat : Nat) : Int) = y.toInt
            omega
          omega
  refine g_enter2 (k := 416) (N := 30 + (n + 1) * 20) (by omega) rfl (Nat.le_of_ble_eq_true rfl) ?_
  refine gg_w (M := 10 + (n + 1) * 20 + 10) (by omega) ?_
  refine g_iconst 0 1 (gd rfl) rfl rfl ?_
  refine g_istore_n 2 (gd rfl) rfl (Nat.le_of_ble_eq_true rfl) ?_
  refine g_aload_n 3 (gd rfl) rfl rfl ?_
  refine g_alen (t := 1) (n : Int) 4 (gd rfl) rfl hw (by decide) hc ?_
  refine g_istore 6 (gd rfl) rfl (Nat.le_of_ble_eq_true rfl) ?_
  have e0 : (Int32.ofInt 0).toInt = 0 := rfl
  have g0 := ct (n + 1) (s.2.1 q) (Int32.ofInt 0) (by omega) (by omega) (fun j hj => by omega) (by omega)
  rw [sB_self] at g0
  exact gg_w (by omega) (gg_f (gf_cons rfl (gf_cons rfl (gf_cons rfl (gf_cons rfl gf_nil)))) g0)
theorem qI_self (q : Nat) : qI [q] q = false := by unfold qI; simp
theorem sA_q {s : GS} {q : Nat} {g : Nat → Int32} : (sA s q g).1 q = g := by simp [sA]
theorem sB_q {s : GS} {q : Nat} {g : Nat → Int64} : (sB s q g).2.1 q = g := by simp [sB]
theorem k_fillIr {Z : AmZ} {A : Nat → Nat} {s : GS} {ex : va_W} {d : Nat} {X : AmX} {n : Nat} {x1 : Int32} {a b lo hi : Int} (q : Nat) (hd : 1 ≤ d) (hI : Rng s) (hx : In x1 a b) (hw : wak q 0 n = true) (hn : decide (n ≤ 100000) = true) (hr : rI q = (lo, hi)) (hk : decide (lo ≤ a ∧ b ≤ hi) = true) : GC Z d 417 [.ref (A q), .int x1] (WW Z A s ++ ex) 0 0 (fun v u => ∃ t : GS, Rng t ∧ Fr ([q], [], [], []) s t ∧ v = none ∧ u = WW Z A t ++ ex ∧ ∀ j, j < n → t.1 q j = x1) X := by
  intro post xp hP hX
  refine x_417 hd hw (of_decide_eq_true hn) post xp (fun v u ⟨g, h1, h2, h3⟩ => hP v u ⟨_, rng_sA hI (fun i hi => ?_), fr_sA (L := ([q], [], [], [])) (qI_self q) fr_rf, h1, h2, fun j hj => by rw [sA_q]; exact h3 j hj⟩) hX
  rw [h3 i (by rw [← (wak_w hw).2.2]; exact hi), hr]
  exact in_w _ _ hx hk
theorem k_fillI {Z : AmZ} {A : Nat → Nat} {s : GS} {ex : va_W} {d : Nat} {X : AmX} {n : Nat} {x1 : Int32} {a b lo hi : Int} (q : Nat) (hd : 1 ≤ d) (hI : Inv s) (hx : In x1 a b) (hw : wak q 0 n = true) (hn : decide (n ≤ 100000) = true) (hr : rI q = (lo, hi)) (hk : decide (lo ≤ a ∧ b ≤ hi) = true) (hp : pI q = false := by rfl) : GC Z d 417 [.ref (A q), .int x1] (WW Z A s ++ ex) 0 0 (fun v u => ∃ t : GS, Inv t ∧ Fr ([q], [], [], []) s t ∧ v = none ∧ u = WW Z A t ++ ex ∧ ∀ j, j < n → t.1 q j = x1) X := by
  intro post xp hP hX
  refine x_417 hd hw (of_decide_eq_true hn) post xp (fun v u ⟨g, h1, h2, h3⟩ => hP v u ⟨_, inv_sA hI (fun i hi => ?_) hp, fr_sA (L := ([q], [], [], [])) (qI_self q) fr_rf, h1, h2, fun j hj => by rw [sA_q]; exact h3 j hj⟩) hX
  rw [h3 i (by rw [← (wak_w hw).2.2]; exact hi), hr]
  exact in_w _ _ hx hk
theorem k_fillL {Z : AmZ} {A : Nat → Nat} {s : GS} {ex : va_W} {d : Nat} {X : AmX} {n : Nat} {x1 : Int64} (q : Nat) (hd : 1 ≤ d) (hI : Inv s) (hw : wak q 1 n = true) (hn : decide (n ≤ 100000) = true) {lo hi : Int} (hr : rL q = (lo, hi)) (hx : InL x1 lo hi) : GC Z d 416 [.ref (A q), .long x1] (WW Z A s ++ ex) 0 0 (fun v u => ∃ t : GS, Inv t ∧ Fr ([], [q], [], []) s t ∧ v = none ∧ u = WW Z A t ++ ex ∧ ∀ j, j < n → t.2.1 q j = x1) X := by
  intro post xp hP hX
  exact x_416 hd hw (of_decide_eq_true hn) post xp (fun v u ⟨g, h1, h2, h3⟩ => hP v u ⟨_, inv_sB hI (fun i hi => by rw [hr, h3 i (by rw [← (wak_w hw).2.2]; exact hi)]; exact hx), fr_sB (L := ([], [q], [], [])) (qI_self q) fr_rf, h1, h2, fun j hj => by rw [sB_q]; exact h3 j hj⟩) hX
theorem g_cpI {Z : AmZ} {A : Nat → Nat} {s : GS} {ex : va_W} {d m N pc C S : Nat} {ret : AmR} {xp : GX} {f : Nat → Option Value} {r : List Value} {q i p0 q2 n0 n1 : Nat} {n dp sp : Int32} {a b lo hi : Int} (p : Nat) (hd : GD m pc (.invokestatic i) 3) (hp : pc + 3 = p) (hl : xlD (xo m) i = some (1001, 5, p0, 0)) (hw : wak q2 0 n0 = true) (hw2 : wak q 0 n1 = true) (hr : (r.map fun v => v.category).sum ≤ 8) (hsp : 0 ≤ sp.toInt) (hdp : 0 ≤ dp.toInt) (hn0 : 0 ≤ n.toInt) (h0 : sp.toInt + n.toInt ≤ (n0 : Int)) (h1 : dp.toInt + n.toInt ≤ (n1 : Int)) (hI : Inv s) (hr2 : rI q2 = (a, b)) (hr1 : rI q = (lo, hi)) (hk : decide (lo ≤ a ∧ b ≤ hi) = true) (hp9 : pI q = false)
    (h : ∀ t, Inv t → Fr ([q], [], [], []) s t → (∀ j, t.1 q j = va_cpy (s.1 q2) (s.1 q) sp.toNatClampNeg dp.toNatClampNeg n.toNatClampNeg j) → GG Z d m ret xp N p f r (WW Z A t ++ ex) C S) : GG Z d m ret xp (N + 1) pc f (.int n :: .int dp :: .ref (A q) :: .int sp :: .ref (A q2) :: r) (WW Z A s ++ ex) C S :=
  g_copyI p hd hp hl hw hw2 hr hsp hdp hn0 h0 h1 (h _ (inv_cpy hI hw hw2 (by
    show sp.toInt.toNat + n.toInt.toNat ≤ n0
    omega) hr2 hr1 hk hp9) (fr_sA (qI_self q) fr_rf) (fun j => by rw [sA_q]))
theorem g_cpL {Z : AmZ} {A : Nat → Nat} {s : GS} {ex : va_W} {d m N pc C S : Nat} {ret : AmR} {xp : GX} {f : Nat → Option Value} {r : List Value} {q i p0 q2 n0 n1 : Nat} {n dp sp : Int32} (p : Nat) (hd : GD m pc (.invokestatic i) 3) (hp : pc + 3 = p) (hl : xlD (xo m) i = some (1001, 5, p0, 0)) (hw : wak q2 1 n0 = true) (hw2 : wak q 1 n1 = true) (hr : (r.map fun v => v.category).sum ≤ 8) (hsp : 0 ≤ sp.toInt) (hdp : 0 ≤ dp.toInt) (hn0 : 0 ≤ n.toInt) (h0 : sp.toInt + n.toInt ≤ (n0 : Int)) (h1 : dp.toInt + n.toInt ≤ (n1 : Int)) (hI : Inv s) {a b lo hi : Int} (hr2 : rL q2 = (a, b)) (hr1 : rL q = (lo, hi)) (hk : decide (lo ≤ a ∧ b ≤ hi) = true)
    (h : ∀ t, Inv t → Fr ([], [q], [], []) s t → (∀ j, t.2.1 q j = va_cpy (s.2.1 q2) (s.2.1 q) sp.toNatClampNeg dp.toNatClampNeg n.toNatClampNeg j) → GG Z d m ret xp N p f r (WW Z A t ++ ex) C S) : GG Z d m ret xp (N + 1) pc f (.int n :: .int dp :: .ref (A q) :: .int sp :: .ref (A q2) :: r) (WW Z A s ++ ex) C S :=
  g_copyL p hd hp hl hw hw2 hr hsp hdp hn0 h0 h1 (h _ (inv_cpL hI hw (by
    show sp.toInt.toNat + n.toInt.toNat ≤ n0
    omega) hr2 hr1 hk) (fr_sB (qI_self q) fr_rf) (fun j => by rw [sB_q]))
theorem g_cpIr {Z : AmZ} {A : Nat → Nat} {s : GS} {ex : va_W} {d m N pc C S : Nat} {ret : AmR} {xp : GX} {f : Nat → Option Value} {r : List Value} {q i p0 q2 n0 n1 : Nat} {n dp sp : Int32} {a b lo hi : Int} (p : Nat) (hd : GD m pc (.invokestatic i) 3) (hp : pc + 3 = p) (hl : xlD (xo m) i = some (1001, 5, p0, 0)) (hw : wak q2 0 n0 = true) (hw2 : wak q 0 n1 = true) (hr : (r.map fun v => v.category).sum ≤ 8) (hsp : 0 ≤ sp.toInt) (hdp : 0 ≤ dp.toInt) (hn0 : 0 ≤ n.toInt) (h0 : sp.toInt + n.toInt ≤ (n0 : Int)) (h1 : dp.toInt + n.toInt ≤ (n1 : Int)) (hI : Rng s) (hr2 : rI q2 = (a, b)) (hr1 : rI q = (lo, hi)) (hk : decide (lo ≤ a ∧ b ≤ hi) = true)
    (h : ∀ t, Rng t → Fr ([q], [], [], []) s t → (∀ j, t.1 q j = va_cpy (s.1 q2) (s.1 q) sp.toNatClampNeg dp.toNatClampNeg n.toNatClampNeg j) → GG Z d m ret xp N p f r (WW Z A t ++ ex) C S) : GG Z d m ret xp (N + 1) pc f (.int n :: .int dp :: .ref (A q) :: .int sp :: .ref (A q2) :: r) (WW Z A s ++ ex) C S :=
  g_copyI p hd hp hl hw hw2 hr hsp hdp hn0 h0 h1 (h _ (rng_cpy hI hw hw2 (by
    show sp.toInt.toNat + n.toInt.toNat ≤ n0
    omega) hr2 hr1 hk) (fr_sA (qI_self q) fr_rf) (fun j => by rw [sA_q]))
end
section
/-! Graph.tie: counts, their sums, and the rows by them -/
/-- a place that is written, the others stay -/
theorem up_at {f : Nat → Int32} {j k : Nat} {x : Int32} : upd f j x k = if k = j then x else f k := rfl
theorem tp_at {w : Nat → Int32} {j : Nat} {x : Int32} : upd w j x j = x := by unfold upd; rw [if_pos rfl]
theorem tp_ne {w : Nat → Int32} {i j : Nat} {x : Int32} (h : i ≠ j) : upd w j x i = w i := by unfold upd; rw [if_neg h]
section TIEB
variable {x z z1 u : Int32} {k : Nat}
theorem tb_shl : ∀ k : Fin 32, (Int32.ofInt 1 <<< (Int32.ofNat k.val &&& 31) : Int32).toBitVec = BitVec.twoPow 32 k.val := by decide +kernel
theorem tb_set (e1 : z1 = Int32.ofInt 1 <<< (u &&& 31)) (e : z = x ||| z1) (hu : In u 0 31) : z.toBitVec.getLsbD k = (x.toBitVec.getLsbD k || decide (k = u.toNatClampNeg)) := by
  obtain ⟨h1, h2⟩ := hu
  have hj0 : u.toNatClampNeg < 32 := by show u.toInt.toNat < 32; omega
  have eu : u = Int32.ofNat u.toNatClampNeg := Int32.toInt_inj.mp (by rw [Int32.toInt_ofNat_of_lt (by omega)]; show u.toInt = ((u.toInt.toNat : Nat) : Int); omega)
  obtain ⟨j, hj, hu1, hu2⟩ : ∃ j : Nat, j < 32 ∧ u = Int32.ofNat j ∧ u.toNatClampNeg = j := ⟨u.toNatClampNeg, hj0, eu, rfl⟩
  rw [hu2, e, show (x ||| z1).toBitVec = x.toBitVec ||| z1.toBitVec from rfl, BitVec.getLsbD_or, e1, hu1, tb_shl ⟨j, hj⟩, BitVec.getLsbD_twoPow]
  congr 1
  by_cases c : j = k
  · subst c; simp [hj]
  · have c2 : ¬ k = j := fun w => c w.symm
    simp [c, c2]
end TIEB
theorem aj_0 {fr tt : Nat → Int32} {u v : Nat} : ¬ AJ fr tt 0 u v := fun ⟨p, h, _⟩ => absurd h (Nat.not_lt_zero p)
theorem aj_s {fr tt : Nat → Int32} {T u v : Nat} : AJ fr tt (T + 1) u v ↔ AJ fr tt T u v ∨ (gF fr T = (u : Int) ∧ gG fr tt T = (v : Int)) := by
  constructor
  · rintro ⟨p, h1, h2, h3⟩
    by_cases c : p = T
    · subst c; exact Or.inr ⟨h2, h3⟩
    · exact Or.inl ⟨p, by omega, h2, h3⟩
  · rintro (⟨p, h1, h2, h3⟩ | ⟨h2, h3⟩)
    · exact ⟨p, by omega, h2, h3⟩
    · exact ⟨T, by omega, h2, h3⟩
theorem msk_0 {fr tt ne ou nn : Nat → Int32} (h1 : ∀ j, j < 32 → ne j = Int32.ofInt 0) (h2 : ∀ j, j < 32 → ou j = Int32.ofInt 0) (h3 : ∀ j, j < 32 → nn j = Int32.ofInt 0) : MSK fr tt ne ou nn 0 := by
  intro u v hu hv
  have z : ∀ k, (Int32.ofInt 0).toBitVec.getLsbD k = false := fun k => by
    rw [show (Int32.ofInt 0).toBitVec = 0#32 from rfl]; exact BitVec.getLsbD_zero
  rw [h1 u hu, h2 u hu, h3 v hv, z, z]
  refine ⟨⟨fun h => (by cases h), fun h => absurd h aj_0⟩, ⟨fun h => (by cases h), fun h => absurd h aj_0⟩, ⟨fun h => (by cases h), fun h => ?_⟩⟩
  rcases h.2 with h | h
  · exact absurd h aj_0
  · exact absurd h aj_0
theorem msk_n {fr tt ne ou nn : Nat → Int32} {T : Nat} (h : MSK fr tt ne ou nn T) (hF : gF fr T = -1) : MSK fr tt ne ou nn (T + 1) := by
  intro u v hu hv
  have e : ∀ a b : Nat, AJ fr tt (T + 1) a b ↔ AJ fr tt T a b := fun a b => by
    rw [aj_s]
    exact ⟨fun q => q.elim id (fun r => by have := r.1; omega), Or.inl⟩
  rw [e, e]
  exact h u v hu hv
/-- what tieEnds does to the masks -/
def TEN (s t : GS) (ne ou nn : Nat) (a b : Int32) : Prop := (∃ y : Int32, t.1 ou = upd (s.1 ou) a.toNatClampNeg y ∧ ∀ k, y.toBitVec.getLsbD k = ((s.1 ou a.toNatClampNeg).toBitVec.getLsbD k || decide (k = b.toNatClampNeg))) ∧ (∃ y : Int32, t.1 nn = upd (s.1 nn) b.toNatClampNeg y ∧ ∀ k, y.toBitVec.getLsbD k = ((s.1 nn b.toNatClampNeg).toBitVec.getLsbD k || decide (k = a.toNatClampNeg))) ∧ (a.toInt = b.toInt → t.1 ne = s.1 ne) ∧ (a.toInt ≠ b.toInt → ∃ y z : Int32, t.1 ne = upd (upd (s.1 ne) a.toNatClampNeg y) b.toNatClampNeg z ∧ (∀ k, y.toBitVec.getLsbD k = ((s.1 ne a.toNatClampNeg).toBitVec.getLsbD k || decide (k = b.toNatClampNeg))) ∧ ∀ k, z.toBitVec.getLsbD k = ((s.1 ne b.toNatClampNeg).toBitVec.getLsbD k || decide (k = a.toNatClampNeg)))
theorem msk_s {s t : GS} {fr tt : Nat → Int32} {ne ou nn T w x : Nat} {a b : Int32} (h : MSK fr tt (s.1 ne) (s.1 ou) (s.1 nn) T) (hF : gF fr T = (w : Int)) (hG : gG fr tt T = (x : Int)) (ha : a.toInt = (w : Int)) (hb : b.toInt = (x : Int)) (hw : w < 32) (hx : x < 32) (g : TEN s t ne ou nn a b) : MSK fr tt (t.1 ne) (t.1 ou) (t.1 nn) (T + 1) := by
  have ea : a.toNatClampNeg = w := by show a.toInt.toNat = w; omega
  have eb : b.toNatClampNeg = x := by show b.toInt.toNat = x; omega
  obtain ⟨⟨y1, o1, o2⟩, ⟨y2, n1, n2⟩, g1, g2⟩ := g
  rw [ea] at o1 o2 n2
  rw [eb] at o2 n1 n2
  intro u v hu hv
  obtain ⟨m1, m2, m3⟩ := h u v hu hv
  have st : ∀ c d : Nat, AJ fr tt (T + 1) c d ↔ AJ fr tt T c d ∨ (c = w ∧ d = x) := fun c d => by
    rw [aj_s, hF, hG]
    exact ⟨fun q => q.imp id (fun r => ⟨by have := r.1; omega, by have := r.2; omega⟩), fun q => q.imp id (fun r => ⟨by rw [r.1], by rw [r.2]⟩)⟩
  refine ⟨?_, ?_, ?_⟩
  · rw [o1, st, ← m1]
    by_cases c : u = w
    · rw [c, tp_at, o2 v, Bool.or_eq_true, decide_eq_true_iff]
      exact ⟨fun q => q.imp id (fun r => ⟨rfl, r⟩), fun q => q.imp id (fun r => r.2)⟩
    · rw [tp_ne c]
      exact ⟨Or.inl, fun q => q.elim id (fun r => absurd r.1 c)⟩
  · rw [n1, st, ← m2]
    by_cases c : v = x
    · rw [c, tp_at, n2 u, Bool.or_eq_true, decide_eq_true_iff]
      exact ⟨fun q => q.imp id (fun r => ⟨r, rfl⟩), fun q => q.imp id (fun r => r.1)⟩
    · rw [tp_ne c]
      exact ⟨Or.inl, fun q => q.elim id (fun r => absurd r.2 c)⟩
  · rw [st, st]
    by_cases z : w = x
    · rw [g1 (by omega), m3]
      constructor
      · rintro ⟨q1, q2⟩
        exact ⟨q1, q2.imp Or.inl Or.inl⟩
      · rintro ⟨q1, (q2 | q2) | (q2 | q2)⟩
        · exact ⟨q1, Or.inl q2⟩
        · exact absurd (q2.1.trans (z.trans q2.2.symm)) q1
        · exact ⟨q1, Or.inr q2⟩
        · exact absurd (q2.2.trans (z.symm.trans q2.1.symm)) q1
    · obtain ⟨y, y', e1, e2, e3⟩ := g2 (by omega)
      rw [ea, eb] at e1 e2 e3
      rw [e1]
      by_cases c : u = x
      · have c2 : ¬ u = w := fun r => z (r.symm.trans c)
        rw [c, tp_at, e3 v, Bool.or_eq_true, decide_eq_true_iff, ← c, m3]
        constructor
        · rintro (⟨q1, q2⟩ | q)
          · exact ⟨q1, q2.imp Or.inl Or.inl⟩
          · exact ⟨by omega, Or.inr (Or.inr ⟨q, rfl⟩)⟩
        · rintro ⟨q1, (q2 | q2) | (q2 | q2)⟩
          · exact Or.inl ⟨q1, Or.inl q2⟩
          · exact absurd q2.1 c2
          · exact Or.inl ⟨q1, Or.inr q2⟩
          · exact Or.inr q2.1
      · rw [tp_ne c]
        by_cases c2 : u = w
        · rw [c2, tp_at, e2 v, Bool.or_eq_true, decide_eq_true_iff, ← c2, m3]
          constructor
          · rintro (⟨q1, q2⟩ | q)
            · exact ⟨q1, q2.imp Or.inl Or.inl⟩
            · exact ⟨by omega, Or.inl (Or.inr ⟨rfl, q⟩)⟩
          · rintro ⟨q1, (q2 | q2) | (q2 | q2)⟩
            · exact Or.inl ⟨q1, Or.inl q2⟩
            · exact Or.inr q2.2
            · exact Or.inl ⟨q1, Or.inr q2⟩
            · exact absurd q2.2 c
        · rw [tp_ne c2, m3]
          constructor
          · rintro ⟨q1, q2⟩
            exact ⟨q1, q2.imp Or.inl Or.inl⟩
          · rintro ⟨q1, (q2 | q2) | (q2 | q2)⟩
            · exact ⟨q1, Or.inl q2⟩
            · exact absurd q2.1 c2
            · exact ⟨q1, Or.inr q2⟩
            · exact absurd q2.2 c
theorem pr_cn (F : Nat → Int) {T u p : Nat} (h : p < T) (hF : F p = (u : Int)) : pr F T u + cn F (u : Int) p < pr F T (u + 1) := by
  have e : pr F T (u + 1) = pr F T u + cn F (u : Int) T := rfl
  have a := cn_mono F (u : Int) (show p + 1 ≤ T by omega)
  rw [cn_hit hF] at a
  omega
/-- a further place of the rows is written -/
theorem rws_s {F : Nat → Int} {T p w : Nat} {os os2 : Nat → Int32} {i : Nat} {y : Int32} (h : RWS F T os (p + 1)) (hp : p < T) (hF : F p = (w : Int)) (hi : (i : Int) = pr F T w + cn F (w : Int) p) (hy : y.toInt = (p : Int)) (ho : os2 = upd os i y) : RWS F T os2 p := by
  intro q u h1 h2 h3 h4
  rw [ho]
  by_cases c : q = p
  · subst c
    have e : u = w := by omega
    subst e
    rw [← hi, Int.toNat_natCast, tp_at]; exact hy
  · have a := pr_cn F hp hF
    have b := pr_cn F h2 h4
    have p0 := pr_0 F T u
    have p1 := cn_0 F (u : Int) q
    have ne : (pr F T u + cn F (u : Int) q).toNat ≠ i := by
      intro e
      have e2 : pr F T u + cn F (u : Int) q = pr F T w + cn F (w : Int) p := by omega
      rcases Nat.lt_trichotomy u w with z | z | z
      · have := pr_up F T (show u + 1 ≤ w by omega)
        have := cn_0 F (w : Int) p
        omega
      · subst z
        have d := cn_mono F (u : Int) (show p + 1 ≤ q by omega)
        rw [cn_hit hF] at d
        omega
      · have := pr_up F T (show w + 1 ≤ u by omega)
        omega
    rw [tp_ne ne]
    exact h q u (by omega) h2 h3 h4
theorem rws_n {F : Nat → Int} {T p : Nat} {os : Nat → Int32} (h : RWS F T os (p + 1)) (hF : F p = -1) : RWS F T os p := by
  intro q u h1 h2 h3 h4
  by_cases c : q = p
  · subst c; omega
  · exact h q u (by omega) h2 h3 h4
theorem rws_e {F : Nat → Int} {T : Nat} {os : Nat → Int32} : RWS F T os T := fun q u h1 h2 _ _ => by omega
def fm_107_2 : FM := ([9, 10, 11, 12, 14], [], [], [])
/-- GraphHouse$Graph.tieEnds -/
theorem x_107_2 {Z : AmZ} {A : Nat → Nat} {s : GS} {ex : va_W} {d : Nat} {X : AmX} {x1 : Int32} {x2 : Int32} (hd : 1 ≤ d) (hI : Rng s) (h1 : In x1 0 31) (h2 : In x2 0 31) (g1 : In (s.1 12 x1.toNatClampNeg) 0 159) (g2 : In (s.1 14 x2.toNatClampNeg) 0 159) : GC Z d 107 [.ref (A 2), .int x1, .int x2] (WW Z A s ++ ex) 0 0 (fun v u => ∃ t : GS, Rng t ∧ Fr fm_107_2 s t ∧ v = none ∧ u = WW Z A t ++ ex ∧ t.1 4 = s.1 4 ∧ t.1 5 = s.1 5 ∧ t.2.2.1 = s.2.2.1 ∧ t.1 12 = upd (s.1 12) x1.toNatClampNeg (s.1 12 x1.toNatClampNeg + Int32.ofInt 1) ∧ t.1 14 = upd (s.1 14) x2.toNatClampNeg (s.1 14 x2.toNatClampNeg + Int32.ofInt 1) ∧ TEN s t 9 10 11 x1 x2) X := by
  intro post xp hP hX
  refine g_enter2 (k := 107) (N := 900) (by omega) rfl (Nat.le_of_ble_eq_true rfl) ?_
  refine g_aload_n 1 (gd rfl) rfl rfl ?_
  refine g_getA (q2 := 12) 4 (gd rfl) rfl rfl rfl rfl ?_
  refine g_iload_n 5 (gd rfl) rfl rfl ?_
  refine g_dup2 6 (gd rfl) rfl rfl rfl ?_
  refine g_iaload 7 (gd rfl) rfl (n := 33) rfl (in_ix h1 rfl) (fun z6 e6 => ?_)
  have i6 := (show In z6 0 159 by rw [e6]; exact g1)
  refine g_iconst 1 8 (gd rfl) rfl rfl ?_
  refine g_iadd 9 (gd rfl) rfl (fun z8 e8 => ?_)
  have i8 := in_add 1 160 e8 i6 (in_c 1 rfl) rfl rfl
  refine g_iastore 10 (gd rfl) rfl (n := 33) rfl (in_ix h1 rfl) ?_
  have hI9 := rng_sI (q := 12) (j := x1.toNatClampNeg) hI rfl (in_w 0 160 i8 rfl)
  refine g_aload_n 11 (gd rfl) rfl rfl ?_
  refine g_getA (q2 := 14) 14 (gd rfl) rfl rfl rfl rfl ?_
  refine g_iload_n 15 (gd rfl) rfl rfl ?_
  refine g_dup2 16 (gd rfl) rfl rfl rfl ?_
  refine g_iaload 17 (gd rfl) rfl (n := 33) rfl (in_ix h2 rfl) (fun z16 e16 => ?_)
  have i16 := (show In z16 0 159 by rw [e16]; exact g2)
  refine g_iconst 1 18 (gd rfl) rfl rfl ?_
  refine g_iadd 19 (gd rfl) rfl (fun z18 e18 => ?_)
  have i18 := in_add 1 160 e18 i16 (in_c 1 rfl) rfl rfl
  refine g_iastore 20 (gd rfl) rfl (n := 33) rfl (in_ix h2 rfl) ?_
  have hI19 := rng_sI (q := 14) (j := x2.toNatClampNeg) hI9 rfl (in_w 0 160 i18 rfl)
  refine g_aload_n 21 (gd rfl) rfl rfl ?_
  refine g_getA (q2 := 10) 24 (gd rfl) rfl rfl rfl rfl ?_
  refine g_iload_n 25 (gd rfl) rfl rfl ?_
  refine g_dup2 26 (gd rfl) rfl rfl rfl ?_
  refine g_iaload 27 (gd rfl) rfl (n := 32) rfl (in_ix h1 rfl) (fun z26 e26 => ?_)
  refine g_iconst 1 28 (gd rfl) rfl rfl ?_
  refine g_iload_n 29 (gd rfl) rfl rfl ?_
  refine g_ishl 30 (gd rfl) rfl (fun z29 e29 => ?_)
  refine g_ior 31 (gd rfl) rfl (fun z30 e30 => ?_)
  refine g_iastore 32 (gd rfl) rfl (n := 32) rfl (in_ix h1 rfl) ?_
  have hI31 := rng_sI (q := 10) (j := x1.toNatClampNeg) hI19 rfl (in_w (-2147483648) 2147483647 (i_rng z30) rfl)
  refine g_aload_n 33 (gd rfl) rfl rfl ?_
  refine g_getA (q2 := 11) 36 (gd rfl) rfl rfl rfl rfl ?_
  refine g_iload_n 37 (gd rfl) rfl rfl ?_
  refine g_dup2 38 (gd rfl) rfl rfl rfl ?_
  refine g_iaload 39 (gd rfl) rfl (n := 32) rfl (in_ix h2 rfl) (fun z38 e38 => ?_)
  refine g_iconst 1 40 (gd rfl) rfl rfl ?_
  refine g_iload_n 41 (gd rfl) rfl rfl ?_
  refine g_ishl 42 (gd rfl) rfl (fun z41 e41 => ?_)
  refine g_ior 43 (gd rfl) rfl (fun z42 e42 => ?_)
  refine g_iastore 44 (gd rfl) rfl (n := 32) rfl (in_ix h2 rfl) ?_
  have hI43 := rng_sI (q := 11) (j := x2.toNatClampNeg) hI31 rfl (in_w (-2147483648) 2147483647 (i_rng z42) rfl)
  refine g_iload_n 45 (gd rfl) rfl rfl ?_
  refine g_iload_n 46 (gd rfl) rfl rfl ?_
  refine g_cmp_eq 49 73 (gd rfl) rfl rfl (fun c46 => ?_) (fun c46 => ?_)
  · skip
    exact g_return (gd rfl) rfl (hP _ _ ⟨(sI (sI (sI (sI s 12 x1.toNatClampNeg z8) 14 x2.toNatClampNeg z18) 10 x1.toNatClampNeg z30) 11 x2.toNatClampNeg z42), hI43, (fr_sI rfl (fr_sI rfl (fr_sI rfl (fr_sI rfl fr_rf)))), rfl, rfl, rfl, rfl, rfl, by rw [← e6, ← e8]; rfl, by rw [← (show z16 = s.1 14 x2.toNatClampNeg from e16), ← e18]; rfl, ⟨⟨z30, by simp [sI], fun k => by rw [tb_set e29 e30 h2, show z26 = s.1 10 x1.toNatClampNeg from e26]⟩, ⟨z42, by simp [sI], fun k => by rw [tb_set e41 e42 h1, show z38 = s.1 11 x2.toNatClampNeg from e38]⟩, fun _ => by simp [sI], fun h => absurd c46 h⟩⟩)
  · skip
    refine g_aload_n 50 (gd rfl) rfl rfl ?_
    refine g_getA (q2 := 9) 53 (gd rfl) rfl rfl rfl rfl ?_
    refine g_iload_n 54 (gd rfl) rfl rfl ?_
    refine g_dup2 55 (gd rfl) rfl rfl rfl ?_
    refine g_iaload 56 (gd rfl) rfl (n := 32) rfl (in_ix h1 rfl) (fun z55 e55 => ?_)
    refine g_iconst 1 57 (gd rfl) rfl rfl ?_
    refine g_iload_n 58 (gd rfl) rfl rfl ?_
    refine g_ishl 59 (gd rfl) rfl (fun z58 e58 => ?_)
    refine g_ior 60 (gd rfl) rfl (fun z59 e59 => ?_)
    refine g_iastore 61 (gd rfl) rfl (n := 32) rfl (in_ix h1 rfl) ?_
    have hI60 := rng_sI (q := 9) (j := x1.toNatClampNeg) hI43 rfl (in_w (-2147483648) 2147483647 (i_rng z59) rfl)
    refine g_aload_n 62 (gd rfl) rfl rfl ?_
    refine g_getA (q2 := 9) 65 (gd rfl) rfl rfl rfl rfl ?_
    refine g_iload_n 66 (gd rfl) rfl rfl ?_
    refine g_dup2 67 (gd rfl) rfl rfl rfl ?_
    refine g_iaload 68 (gd rfl) rfl (n := 32) rfl (in_ix h2 rfl) (fun z67 e67 => ?_)
    refine g_iconst 1 69 (gd rfl) rfl rfl ?_
    refine g_iload_n 70 (gd rfl) rfl rfl ?_
    refine g_ishl 71 (gd rfl) rfl (fun z70 e70 => ?_)
    refine g_ior 72 (gd rfl) rfl (fun z71 e71 => ?_)
    refine g_iastore 73 (gd rfl) rfl (n := 32) rfl (in_ix h2 rfl) ?_
    have hI72 := rng_sI (q := 9) (j := x2.toNatClampNeg) hI60 rfl (in_w (-2147483648) 2147483647 (i_rng z71) rfl)
    exact g_return (gd rfl) rfl (hP _ _ ⟨(sI (sI (sI (sI (sI (sI s 12 x1.toNatClampNeg z8) 14 x2.toNatClampNeg z18) 10 x1.toNatClampNeg z30) 11 x2.toNatClampNeg z42) 9 x1.toNatClampNeg z59) 9 x2.toNatClampNeg z71), hI72, (fr_sI rfl (fr_sI rfl (fr_sI rfl (fr_sI rfl (fr_sI rfl (fr_sI rfl fr_rf)))))), rfl, rfl, rfl, rfl, rfl, by rw [← e6, ← e8]; rfl, by rw [← (show z16 = s.1 14 x2.toNatClampNeg from e16), ← e18]; rfl, ⟨⟨z30, by simp [sI], fun k => by rw [tb_set e29 e30 h2, show z26 = s.1 10 x1.toNatClampNeg from e26]⟩, ⟨z42, by simp [sI], fun k => by rw [tb_set e41 e42 h1, show z38 = s.1 11 x2.toNatClampNeg from e38]⟩, fun h => absurd h c46, fun hne => ⟨z59, z71, by simp [sI], fun k => by rw [tb_set e58 e59 h2, show z55 = s.1 9 x1.toNatClampNeg from e55], fun k => by rw [tb_set e70 e71 h1, show z67 = s.1 9 x2.toNatClampNeg from (e67.trans (by show upd (s.1 9) x1.toNatClampNeg z59 x2.toNatClampNeg = _; exact tp_ne (fun q => hne (by have a1 := h1; have a2 := h2; unfold In at a1 a2; have q1 : x1.toNatClampNeg = x1.toInt.toNat := rfl; have q2 : x2.toNatClampNeg = x2.toInt.toNat := rfl; omega))))]⟩⟩⟩)
def fm_107_32 : FM := ([39, 40, 41, 42, 44], [], [], [])
/-- GraphHouse$Graph.tieEnds -/
theorem x_107_32 {Z : AmZ} {A : Nat → Nat} {s : GS} {ex : va_W} {d : Nat} {X : AmX} {x1 : Int32} {x2 : Int32} (hd : 1 ≤ d) (hI : Rng s) (h1 : In x1 0 31) (h2 : In x2 0 31) (g1 : In (s.1 42 x1.toNatClampNeg) 0 159) (g2 : In (s.1 44 x2.toNatClampNeg) 0 159) : GC Z d 107 [.ref (A 32), .int x1, .int x2] (WW Z A s ++ ex) 0 0 (fun v u => ∃ t : GS, Rng t ∧ Fr fm_107_32 s t ∧ v = none ∧ u = WW Z A t ++ ex ∧ t.1 34 = s.1 34 ∧ t.1 35 = s.1 35 ∧ t.2.2.1 = s.2.2.1 ∧ t.1 42 = upd (s.1 42) x1.toNatClampNeg (s.1 42 x1.toNatClampNeg + Int32.ofInt 1) ∧ t.1 44 = upd (s.1 44) x2.toNatClampNeg (s.1 44 x2.toNatClampNeg + Int32.ofInt 1) ∧ TEN s t 39 40 41 x1 x2) X := by
  intro post xp hP hX
  refine g_enter2 (k := 107) (N := 900) (by omega) rfl (Nat.le_of_ble_eq_true rfl) ?_
  refine g_aload_n 1 (gd rfl) rfl rfl ?_
  refine g_getA (q2 := 42) 4 (gd rfl) rfl rfl rfl rfl ?_
  refine g_iload_n 5 (gd rfl) rfl rfl ?_
  refine g_dup2 6 (gd rfl) rfl rfl rfl ?_
  refine g_iaload 7 (gd rfl) rfl (n := 33) rfl (in_ix h1 rfl) (fun z6 e6 => ?_)
  have i6 := (show In z6 0 159 by rw [e6]; exact g1)
  refine g_iconst 1 8 (gd rfl) rfl rfl ?_
  refine g_iadd 9 (gd rfl) rfl (fun z8 e8 => ?_)
  have i8 := in_add 1 160 e8 i6 (in_c 1 rfl) rfl rfl
  refine g_iastore 10 (gd rfl) rfl (n := 33) rfl (in_ix h1 rfl) ?_
  have hI9 := rng_sI (q := 42) (j := x1.toNatClampNeg) hI rfl (in_w 0 160 i8 rfl)
  refine g_aload_n 11 (gd rfl) rfl rfl ?_
  refine g_getA (q2 := 44) 14 (gd rfl) rfl rfl rfl rfl ?_
  refine g_iload_n 15 (gd rfl) rfl rfl ?_
  refine g_dup2 16 (gd rfl) rfl rfl rfl ?_
  refine g_iaload 17 (gd rfl) rfl (n := 33) rfl (in_ix h2 rfl) (fun z16 e16 => ?_)
  have i16 := (show In z16 0 159 by rw [e16]; exact g2)
  refine g_iconst 1 18 (gd rfl) rfl rfl ?_
  refine g_iadd 19 (gd rfl) rfl (fun z18 e18 => ?_)
  have i18 := in_add 1 160 e18 i16 (in_c 1 rfl) rfl rfl
  refine g_iastore 20 (gd rfl) rfl (n := 33) rfl (in_ix h2 rfl) ?_
  have hI19 := rng_sI (q := 44) (j := x2.toNatClampNeg) hI9 rfl (in_w 0 160 i18 rfl)
  refine g_aload_n 21 (gd rfl) rfl rfl ?_
  refine g_getA (q2 := 40) 24 (gd rfl) rfl rfl rfl rfl ?_
  refine g_iload_n 25 (gd rfl) rfl rfl ?_
  refine g_dup2 26 (gd rfl) rfl rfl rfl ?_
  refine g_iaload 27 (gd rfl) rfl (n := 32) rfl (in_ix h1 rfl) (fun z26 e26 => ?_)
  refine g_iconst 1 28 (gd rfl) rfl rfl ?_
  refine g_iload_n 29 (gd rfl) rfl rfl ?_
  refine g_ishl 30 (gd rfl) rfl (fun z29 e29 => ?_)
  refine g_ior 31 (gd rfl) rfl (fun z30 e30 => ?_)
  refine g_iastore 32 (gd rfl) rfl (n := 32) rfl (in_ix h1 rfl) ?_
  have hI31 := rng_sI (q := 40) (j := x1.toNatClampNeg) hI19 rfl (in_w (-2147483648) 2147483647 (i_rng z30) rfl)
  refine g_aload_n 33 (gd rfl) rfl rfl ?_
  refine g_getA (q2 := 41) 36 (gd rfl) rfl rfl rfl rfl ?_
  refine g_iload_n 37 (gd rfl) rfl rfl ?_
  refine g_dup2 38 (gd rfl) rfl rfl rfl ?_
  refine g_iaload 39 (gd rfl) rfl (n := 32) rfl (in_ix h2 rfl) (fun z38 e38 => ?_)
  refine g_iconst 1 40 (gd rfl) rfl rfl ?_
  refine g_iload_n 41 (gd rfl) rfl rfl ?_
  refine g_ishl 42 (gd rfl) rfl (fun z41 e41 => ?_)
  refine g_ior 43 (gd rfl) rfl (fun z42 e42 => ?_)
  refine g_iastore 44 (gd rfl) rfl (n := 32) rfl (in_ix h2 rfl) ?_
  have hI43 := rng_sI (q := 41) (j := x2.toNatClampNeg) hI31 rfl (in_w (-2147483648) 2147483647 (i_rng z42) rfl)
  refine g_iload_n 45 (gd rfl) rfl rfl ?_
  refine g_iload_n 46 (gd rfl) rfl rfl ?_
  refine g_cmp_eq 49 73 (gd rfl) rfl rfl (fun c46 => ?_) (fun c46 => ?_)
  · skip
    exact g_return (gd rfl) rfl (hP _ _ ⟨(sI (sI (sI (sI s 42 x1.toNatClampNeg z8) 44 x2.toNatClampNeg z18) 40 x1.toNatClampNeg z30) 41 x2.toNatClampNeg z42), hI43, (fr_sI rfl (fr_sI rfl (fr_sI rfl (fr_sI rfl fr_rf)))), rfl, rfl, rfl, rfl, rfl, by rw [← e6, ← e8]; rfl, by rw [← (show z16 = s.1 44 x2.toNatClampNeg from e16), ← e18]; rfl, ⟨⟨z30, by simp [sI], fun k => by rw [tb_set e29 e30 h2, show z26 = s.1 40 x1.toNatClampNeg from e26]⟩, ⟨z42, by simp [sI], fun k => by rw [tb_set e41 e42 h1, show z38 = s.1 41 x2.toNatClampNeg from e38]⟩, fun _ => by simp [sI], fun h => absurd c46 h⟩⟩)
  · skip
    refine g_aload_n 50 (gd rfl) rfl rfl ?_
    refine g_getA (q2 := 39) 53 (gd rfl) rfl rfl rfl rfl ?_
    refine g_iload_n 54 (gd rfl) rfl rfl ?_
    refine g_dup2 55 (gd rfl) rfl rfl rfl ?_
    refine g_iaload 56 (gd rfl) rfl (n := 32) rfl (in_ix h1 rfl) (fun z55 e55 => ?_)
    refine g_iconst 1 57 (gd rfl) rfl rfl ?_
    refine g_iload_n 58 (gd rfl) rfl rfl ?_
    refine g_ishl 59 (gd rfl) rfl (fun z58 e58 => ?_)
    refine g_ior 60 (gd rfl) rfl (fun z59 e59 => ?_)
    refine g_iastore 61 (gd rfl) rfl (n := 32) rfl (in_ix h1 rfl) ?_
    have hI60 := rng_sI (q := 39) (j := x1.toNatClampNeg) hI43 rfl (in_w (-2147483648) 2147483647 (i_rng z59) rfl)
    refine g_aload_n 62 (gd rfl) rfl rfl ?_
    refine g_getA (q2 := 39) 65 (gd rfl) rfl rfl rfl rfl ?_
    refine g_iload_n 66 (gd rfl) rfl rfl ?_
    refine g_dup2 67 (gd rfl) rfl rfl rfl ?_
    refine g_iaload 68 (gd rfl) rfl (n := 32) rfl (in_ix h2 rfl) (fun z67 e67 => ?_)
    refine g_iconst 1 69 (gd rfl) rfl rfl ?_
    refine g_iload_n 70 (gd rfl) rfl rfl ?_
    refine g_ishl 71 (gd rfl) rfl (fun z70 e70 => ?_)
    refine g_ior 72 (gd rfl) rfl (fun z71 e71 => ?_)
    refine g_iastore 73 (gd rfl) rfl (n := 32) rfl (in_ix h2 rfl) ?_
    have hI72 := rng_sI (q := 39) (j := x2.toNatClampNeg) hI60 rfl (in_w (-2147483648) 2147483647 (i_rng z71) rfl)
    exact g_return (gd rfl) rfl (hP _ _ ⟨(sI (sI (sI (sI (sI (sI s 42 x1.toNatClampNeg z8) 44 x2.toNatClampNeg z18) 40 x1.toNatClampNeg z30) 41 x2.toNatClampNeg z42) 39 x1.toNatClampNeg z59) 39 x2.toNatClampNeg z71), hI72, (fr_sI rfl (fr_sI rfl (fr_sI rfl (fr_sI rfl (fr_sI rfl (fr_sI rfl fr_rf)))))), rfl, rfl, rfl, rfl, rfl, by rw [← e6, ← e8]; rfl, by rw [← (show z16 = s.1 44 x2.toNatClampNeg from e16), ← e18]; rfl, ⟨⟨z30, by simp [sI], fun k => by rw [tb_set e29 e30 h2, show z26 = s.1 40 x1.toNatClampNeg from e26]⟩, ⟨z42, by simp [sI], fun k => by rw [tb_set e41 e42 h1, show z38 = s.1 41 x2.toNatClampNeg from e38]⟩, fun h => absurd h c46, fun hne => ⟨z59, z71, by simp [sI], fun k => by rw [tb_set e58 e59 h2, show z55 = s.1 39 x1.toNatClampNeg from e55], fun k => by rw [tb_set e70 e71 h1, show z67 = s.1 39 x2.toNatClampNeg from (e67.trans (by show upd (s.1 39) x1.toNatClampNeg z59 x2.toNatClampNeg = _; exact tp_ne (fun q => hne (by have a1 := h1; have a2 := h2; unfold In at a1 a2; have q1 : x1.toNatClampNeg = x1.toInt.toNat := rfl; have q2 : x2.toNatClampNeg = x2.toInt.toNat := rfl; omega))))]⟩⟩⟩)
def fm_106_2 : FM := ([9, 10, 11, 12, 13, 14, 15], [], [(2, 4)], [])
theorem kk_t2 {s t : GS} (h : KK (mI s) (mF s)) (hF : Fr fm_106_2 s t) (hv : t.2.2.1 2 4 = t.2.2.1 2 0) (hT : TG (t.1 4) (t.1 5) (t.1 9) (t.1 10) (t.1 11) (t.1 12) (t.1 13) (t.1 14) (t.1 15) (t.2.2.1 2 3).toInt.toNat) : KK (mI t) (mF t) := by
  have hg : KG 2 (mI t) (mF t) := by
    refine ⟨?_, fun _ => ?_⟩
    · rw [mF_at rfl, mF_at rfl, hv]
      exact Int.le_refl _
    · rw [mI_at rfl, mI_at rfl, mI_at rfl, mI_at rfl, mI_at rfl, mI_at rfl, mI_at rfl, mI_at rfl, mI_at rfl, mF_at rfl]
      exact hT
  exact ⟨hg, kk_g h.2.1 hF rfl rfl rfl rfl rfl, kk_s h.2.2.1 hF rfl, kk_r h.2.2.2 hF rfl⟩
/-- GraphHouse$Graph.tie -/
theorem k_106_2 {Z : AmZ} {A : Nat → Nat} {s : GS} {ex : va_W} {d : Nat} {X : AmX} (hd : 3 ≤ d) (hI : Inv s) : GC Z d 106 [.ref (A 2)] (WW Z A s ++ ex) 0 0 (fun v u => ∃ t : GS, Inv t ∧ Fr fm_106_2 s t ∧ (t.2.2.1 2 4).toInt = (t.2.2.1 2 0).toInt ∧ v = none ∧ u = WW Z A t ++ ex) X := by
  intro post xp hP hX
  have hm1 : (Int32.ofInt (-1)).toInt = -1 := rfl
  have h01 : (Int32.ofInt 1).toInt = 1 := rfl
  have h00 : (Int32.ofInt 0).toInt = 0 := rfl
  have hz0 := inv_F hI (q := 2) (j := 3) 0 160 rfl rfl
  obtain ⟨T, hT⟩ : ∃ T : Nat, (s.2.2.1 2 3).toInt = (T : Int) := ⟨(s.2.2.1 2 3).toInt.toNat, by obtain ⟨a, b⟩ := hz0; omega⟩
  have hT2 : T ≤ 160 := by obtain ⟨a, b⟩ := hz0; omega
  have r4 : ∀ j, j < 160 → -1 ≤ (s.1 4 j).toInt ∧ (s.1 4 j).toInt ≤ 31 := fun j hj => hI.1.1 4 j hj
  have r5 : ∀ j, j < 160 → 0 ≤ (s.1 5 j).toInt ∧ (s.1 5 j).toInt ≤ 31 := fun j hj => hI.1.1 5 j hj
  have cl : ∀ y : Int32, 0 ≤ y.toInt → (y.toNatClampNeg : Int) = y.toInt := fun y hy => by
    show ((y.toInt.toNat : Nat) : Int) = y.toInt
    omega
  obtain ⟨f4, hf4⟩ : ∃ f, f = s.1 4 := ⟨_, rfl⟩
  obtain ⟨f5, hf5⟩ : ∃ f, f = s.1 5 := ⟨_, rfl⟩
  rw [← hf4] at r4
  rw [← hf5] at r5
  obtain ⟨F, hF⟩ : ∃ F, F = gF f4 := ⟨_, rfl⟩
  obtain ⟨G, hG⟩ : ∃ G, G = gG f4 f5 := ⟨_, rfl⟩
  have aF : ∀ j, j < 160 → F j = (f4 j).toInt := fun j hj => by rw [hF]; unfold gF; rw [if_pos hj]
  have aG : ∀ j, j < 160 → (f4 j).toInt ≠ -1 → G j = (f5 j).toInt := fun j hj h => by rw [hG]; unfold gG; rw [if_pos ⟨hj, h⟩]
  have bG : ∀ j, j < 160 → (f4 j).toInt = -1 → G j = -1 := fun j hj h => by rw [hG]; unfold gG; rw [if_neg (fun z => z.2 h)]
  have lF : ∀ j, F j < 32 := fun j => by
    rw [hF]
    unfold gF
    split
    · have := r4 j (by assumption)
      omega
    · omega
  have lG : ∀ j, G j < 32 := fun j => by
    rw [hG]
    unfold gG
    split
    · rename_i h
      have := r5 j h.1
      omega
    · omega
  have oF : cn F ((32 : Nat) : Int) T = 0 := cn_out F _ lF T
  have oG : cn G ((32 : Nat) : Int) T = 0 := cn_out G _ lG T
  -- the third loop
  have ct157 : ∀ (k : Nat) (t : GS) (y : Int32), Rng t → Fr fm_106_2 s t → t.2.2.1 2 4 = s.2.2.1 2 0 → t.1 4 = f4 → t.1 5 = f5 → -1 ≤ y.toInt → y.toInt < (T : Int) → (∀ u : Nat, u ≤ 32 → (t.1 12 u).toInt = pr F T u + cn F (u : Int) (y.toInt + 1).toNat ∧ (t.1 14 u).toInt = pr G T u + cn G (u : Int) (y.toInt + 1).toNat) → (t.2.2.1 2 3).toInt = (T : Int) → MSK f4 f5 (t.1 9) (t.1 10) (t.1 11) T → RWS F T (t.1 13) (y.toInt + 1).toNat → RWS G T (t.1 15) (y.toInt + 1).toNat → y.toInt + 1 < (k : Int) → GG Z (d - 1) 106 post (gx xp) (10 + k * 100) 157 (fun j => xlook j [(0, .ref (A 2)), (1, .int y)]) [] (WW Z A t ++ ex) 0 0 := by
    intro k
    induction k with
    | zero => intro t y hJ hK hV h4 h5 y0 y1 hu h3 hM hO hN hm; omega
    | succ k ih =>
      intro t y hJ hK hV h4 h5 y0 y1 hu h3 hM hO hN hm
      refine gg_w (M := 10 + k * 100 + 100) (by omega) ?_
      refine g_iload_n 158 (gd rfl) rfl rfl ?_
      refine g_if_lt 161 241 (gd rfl) rfl rfl (fun c => ?_) (fun c => ?_)
      · have ey : (y.toInt + 1).toNat = 0 := by omega
        rw [ey] at hu
        rw [ey] at hO hN
        have hTG : TG (t.1 4) (t.1 5) (t.1 9) (t.1 10) (t.1 11) (t.1 12) (t.1 13) (t.1 14) (t.1 15) (t.2.2.1 2 3).toInt.toNat := by
          have eT : (t.2.2.1 2 3).toInt.toNat = T := by omega
          rw [eT, h4, h5]
          refine ⟨fun v hv => ?_, by rw [← hF]; exact hO, by rw [← hG]; exact hN, hM⟩
          have h := hu v hv
          have h0 : cn F (v : Int) 0 = 0 := rfl
          have h1 : cn G (v : Int) 0 = 0 := rfl
          rw [h0, h1] at h
          rw [← hF, ← hG]
          exact ⟨by omega, by omega⟩
        have hV0 : t.2.2.1 2 0 = s.2.2.1 2 0 := hK.2.2.1 2 0 rfl
        have hin : Inv t := ⟨hJ, kk_t2 hI.2 hK (by rw [hV, hV0]) hTG⟩
        exact g_return (gd rfl) rfl (hP _ _ ⟨t, hin, hK, by rw [hV, hV0], rfl, rfl⟩)
      · have iy : In y 0 159 := ⟨c, by omega⟩
        obtain ⟨p, hp⟩ : ∃ p : Nat, y.toInt = (p : Int) := ⟨y.toInt.toNat, by omega⟩
        have hp1 : (y.toInt + 1).toNat = p + 1 := by omega
        have hpc : y.toNatClampNeg = p := by have := cl y c; omega
        have hp2 : p < 160 := by omega
        rw [hp1] at hu hO hN
        refine g_aload_n 162 (gd rfl) rfl rfl ?_
        refine g_getA (q2 := 4) 165 (gd rfl) rfl rfl rfl rfl ?_
        refine g_iload_n 166 (gd rfl) rfl rfl ?_
        refine g_iaload 167 (gd rfl) rfl (n := 160) rfl (in_ix iy rfl) (fun z1 e1 => ?_)
        rw [h4, hpc] at e1
        refine g_iconst (-1) 168 (gd rfl) rfl rfl ?_
        refine g_cmp_eq 171 235 (gd rfl) rfl rfl (fun c1 => ?_) (fun c1 => ?_)
        · have hneg : (f4 p).toInt = -1 := by rw [← e1]; exact c1
          have m1 : F p = -1 := by rw [aF p hp2]; exact hneg
          have m2 : G p = -1 := bG p hp2 hneg
          refine g_iinc 238 (gd rfl) rfl rfl (Nat.le_of_ble_eq_true rfl) (fun z e => ?_)
          refine g_goto 157 (gd rfl) rfl ?_
          have ez := t_add e iy (in_c (-1) rfl) rfl
          refine gg_w (by omega) (gg_f (gf_cons rfl (gf_cons rfl gf_nil)) (ih t z hJ hK hV h4 h5 (by omega) (by omega) (fun u hu2 => ?_) h3 hM (by rw [show (z.toInt + 1).toNat = p by omega]; exact rws_n hO m1) (by rw [show (z.toInt + 1).toNat = p by omega]; exact rws_n hN m2) (by omega)))
          have e9 : (z.toInt + 1).toNat = p := by omega
          have hu3 := hu u hu2
          rw [cn_miss (by omega), cn_miss (by omega)] at hu3
          rw [e9]
          exact hu3
        · have q1 := r4 p hp2
          have iz1 : In z1 0 31 := ⟨by rw [e1]; rw [e1] at c1; omega, by rw [e1]; omega⟩
          obtain ⟨w, hw⟩ : ∃ w : Nat, z1.toInt = (w : Int) := ⟨z1.toInt.toNat, by obtain ⟨a, b⟩ := iz1; omega⟩
          have hwc : z1.toNatClampNeg = w := by have := cl z1 iz1.1; omega
          have hw31 : w ≤ 31 := by obtain ⟨a, b⟩ := iz1; omega
          have hFp : F p = (w : Int) := by rw [aF p hp2, ← e1, hw]
          have hnn : (f4 p).toInt ≠ -1 := by rw [← e1]; rw [hm1] at c1; exact c1
          have q2 := r5 p hp2
          refine g_aload_n 172 (gd rfl) rfl rfl ?_
          refine g_getA (q2 := 12) 175 (gd rfl) rfl rfl rfl rfl ?_
          refine g_aload_n 176 (gd rfl) rfl rfl ?_
          refine g_getA (q2 := 4) 179 (gd rfl) rfl rfl rfl rfl ?_
          refine g_iload_n 180 (gd rfl) rfl rfl ?_
          refine g_iaload 181 (gd rfl) rfl (n := 160) rfl (in_ix iy rfl) (fun z2 e2 => ?_)
          rw [h4, hpc] at e2
          have e2 : z1 = z2 := e1.trans e2.symm
          subst e2
          refine g_dup2 182 (gd rfl) rfl rfl rfl ?_
          refine g_iaload 183 (gd rfl) rfl (n := 33) rfl (in_ix iz1 rfl) (fun z3 e3 => ?_)
          rw [hwc] at e3
          have k3 := (hu w (by omega)).1
          rw [cn_hit hFp, ← e3] at k3
          have p1 := pr_0 F T w
          have p2 := cn_0 F (w : Int) p
          have p3 := pr_le F T (w + 1)
          have p3' : pr F T (w + 1) = pr F T w + cn F (w : Int) T := rfl
          have p4 := cn_mono F (w : Int) (show p + 1 ≤ T by omega)
          rw [cn_hit hFp] at p4
          have iz3 : In z3 1 160 := ⟨by omega, by omega⟩
          refine g_iconst 1 184 (gd rfl) rfl rfl ?_
          refine g_isub 185 (gd rfl) rfl (fun z4 e4 => ?_)
          have t4 := t_sub e4 iz3 (in_c 1 rfl) rfl
          have iz4 := in_sub 0 159 e4 iz3 (in_c 1 rfl) rfl rfl
          refine g_iastore 186 (gd rfl) rfl (n := 33) rfl (in_ix iz1 rfl) ?_
          have hJ1 := rng_sI (q := 12) (j := z1.toNatClampNeg) hJ rfl (in_w 0 160 iz4 rfl)
          refine g_aload_n 187 (gd rfl) rfl rfl ?_
          refine g_getA (q2 := 13) 190 (gd rfl) rfl rfl rfl rfl ?_
          refine g_aload_n 191 (gd rfl) rfl rfl ?_
          refine g_getA (q2 := 12) 194 (gd rfl) rfl rfl rfl rfl ?_
          refine g_aload_n 195 (gd rfl) rfl rfl ?_
          refine g_getA (q2 := 4) 198 (gd rfl) rfl rfl rfl rfl ?_
          refine g_iload_n 199 (gd rfl) rfl rfl ?_
          refine g_iaload 200 (gd rfl) rfl (n := 160) rfl (in_ix iy rfl) (fun z5 e5 => ?_)
          have e5 : z5 = t.1 4 y.toNatClampNeg := e5
          rw [h4, hpc] at e5
          have e5 : z1 = z5 := e1.trans e5.symm
          subst e5
          refine g_iaload 201 (gd rfl) rfl (n := 33) rfl (in_ix iz1 rfl) (fun z6 e6 => ?_)
          have e6 : z4 = z6 := sI_get.trans e6.symm
          subst e6
          refine g_iload_n 202 (gd rfl) rfl rfl ?_
          refine g_iastore 203 (gd rfl) rfl (n := 160) rfl (in_ix iz4 rfl) ?_
          have hJ2 := rng_sI (q := 13) (j := z4.toNatClampNeg) hJ1 rfl iy
          refine g_aload_n 204 (gd rfl) rfl rfl ?_
          refine g_getA (q2 := 14) 207 (gd rfl) rfl rfl rfl rfl ?_
          refine g_aload_n 208 (gd rfl) rfl rfl ?_
          refine g_getA (q2 := 5) 211 (gd rfl) rfl rfl rfl rfl ?_
          refine g_iload_n 212 (gd rfl) rfl rfl ?_
          refine g_iaload 213 (gd rfl) rfl (n := 160) rfl (in_ix iy rfl) (fun z7 e7 => ?_)
          have e7 : z7 = t.1 5 y.toNatClampNeg := e7
          rw [h5, hpc] at e7
          have iz7 : In z7 0 31 := ⟨by rw [e7]; omega, by rw [e7]; omega⟩
          obtain ⟨x, hx⟩ : ∃ x : Nat, z7.toInt = (x : Int) := ⟨z7.toInt.toNat, by obtain ⟨a, b⟩ := iz7; omega⟩
          have hxc : z7.toNatClampNeg = x := by have := cl z7 iz7.1; omega
          have hx31 : x ≤ 31 := by obtain ⟨a, b⟩ := iz7; omega
          have hGp : G p = (x : Int) := by rw [aG p hp2 hnn, ← e7, hx]
          refine g_dup2 214 (gd rfl) rfl rfl rfl ?_
          refine g_iaload 215 (gd rfl) rfl (n := 33) rfl (in_ix iz7 rfl) (fun z8 e8 => ?_)
          have e8 : z8 = t.1 14 z7.toNatClampNeg := e8
          rw [hxc] at e8
          have k8 := (hu x (by omega)).2
          rw [cn_hit hGp, ← e8] at k8
          have s1 := pr_0 G T x
          have s2 := cn_0 G (x : Int) p
          have s3 := pr_le G T (x + 1)
          have s3' : pr G T (x + 1) = pr G T x + cn G (x : Int) T := rfl
          have s4 := cn_mono G (x : Int) (show p + 1 ≤ T by omega)
          rw [cn_hit hGp] at s4
          have iz8 : In z8 1 160 := ⟨by omega, by omega⟩
          refine g_iconst 1 216 (gd rfl) rfl rfl ?_
          refine g_isub 217 (gd rfl) rfl (fun z9 e9 => ?_)
          have t9 := t_sub e9 iz8 (in_c 1 rfl) rfl
          have iz9 := in_sub 0 159 e9 iz8 (in_c 1 rfl) rfl rfl
          refine g_iastore 218 (gd rfl) rfl (n := 33) rfl (in_ix iz7 rfl) ?_
          have hJ3 := rng_sI (q := 14) (j := z7.toNatClampNeg) hJ2 rfl (in_w 0 160 iz9 rfl)
          refine g_aload_n 219 (gd rfl) rfl rfl ?_
          refine g_getA (q2 := 15) 222 (gd rfl) rfl rfl rfl rfl ?_
          refine g_aload_n 223 (gd rfl) rfl rfl ?_
          refine g_getA (q2 := 14) 226 (gd rfl) rfl rfl rfl rfl ?_
          refine g_aload_n 227 (gd rfl) rfl rfl ?_
          refine g_getA (q2 := 5) 230 (gd rfl) rfl rfl rfl rfl ?_
          refine g_iload_n 231 (gd rfl) rfl rfl ?_
          refine g_iaload 232 (gd rfl) rfl (n := 160) rfl (in_ix iy rfl) (fun z10 e10 => ?_)
          have e10 : z10 = t.1 5 y.toNatClampNeg := e10
          rw [h5, hpc] at e10
          have e10 : z7 = z10 := e7.trans e10.symm
          subst e10
          refine g_iaload 233 (gd rfl) rfl (n := 33) rfl (in_ix iz7 rfl) (fun z11 e11 => ?_)
          have e11 : z9 = z11 := sI_get.trans e11.symm
          subst e11
          refine g_iload_n 234 (gd rfl) rfl rfl ?_
          refine g_iastore 235 (gd rfl) rfl (n := 160) rfl (in_ix iz9 rfl) ?_
          have hJ4 := rng_sI (q := 15) (j := z9.toNatClampNeg) hJ3 rfl iy
          have hz9 : (z9.toNatClampNeg : Int) = z9.toInt := cl z9 iz9.1
          have hz4 : (z4.toNatClampNeg : Int) = z4.toInt := cl z4 iz4.1
          have hO2 := rws_s (os2 := upd (t.1 13) z4.toNatClampNeg y) hO (by omega) hFp (by omega) hp rfl
          have hN2 := rws_s (os2 := upd (t.1 15) z9.toNatClampNeg y) hN (by omega) hGp (by omega) hp rfl
          refine g_iinc 238 (gd rfl) rfl rfl (Nat.le_of_ble_eq_true rfl) (fun z e => ?_)
          refine g_goto 157 (gd rfl) rfl ?_
          have ez := t_add e iy (in_c (-1) rfl) rfl
          refine gg_w (by omega) (gg_f (gf_cons rfl (gf_cons rfl gf_nil)) (ih _ z hJ4 (fr_sI rfl (fr_sI rfl (fr_sI rfl (fr_sI rfl hK)))) hV h4 h5 (by omega) (by omega) (fun u hu2 => ?_) h3 hM (by rw [show (z.toInt + 1).toNat = p by omega]; exact hO2) (by rw [show (z.toInt + 1).toNat = p by omega]; exact hN2) (by omega)))
          have e12 : (z.toInt + 1).toNat = p := by omega
          rw [e12]
          have hu3 := hu u hu2
          have g1 : (upd (t.1 12) z1.toNatClampNeg z4 u).toInt = pr F T u + cn F (u : Int) p := by
            rw [hwc, up_at]
            by_cases b : u = w
            · subst b
              rw [if_pos rfl]
              omega
            · rw [if_neg b, hu3.1, cn_miss (by rw [hFp]; omega)]
          have g2 : (upd (t.1 14) z7.toNatClampNeg z9 u).toInt = pr G T u + cn G (u : Int) p := by
            rw [hxc, up_at]
            by_cases b : u = x
            · subst b
              rw [if_pos rfl]
              omega
            · rw [if_neg b, hu3.2, cn_miss (by rw [hGp]; omega)]
          exact ⟨g1, g2⟩
  -- the second loop
  have ct104 : ∀ (k : Nat) (t : GS) (y : Int32), Rng t → Fr fm_106_2 s t → t.2.2.1 2 4 = s.2.2.1 2 0 → t.1 4 = f4 → t.1 5 = f5 → (t.2.2.1 2 3).toInt = (T : Int) → MSK f4 f5 (t.1 9) (t.1 10) (t.1 11) T → 1 ≤ y.toInt → y.toInt ≤ 33 → (∀ u : Nat, u ≤ 32 → (t.1 12 u).toInt = (if (u : Int) < y.toInt then pr F T (u + 1) else cn F (u : Int) T) ∧ (t.1 14 u).toInt = (if (u : Int) < y.toInt then pr G T (u + 1) else cn G (u : Int) T)) → 33 - y.toInt < (k : Int) → GG Z (d - 1) 106 post (gx xp) (20000 + k * 100) 104 (fun j => xlook j [(0, .ref (A 2)), (1, .int y)]) [] (WW Z A t ++ ex) 0 0 := by
    intro k
    induction k with
    | zero => intro t y hJ hK hV h4 h5 h3 hM y0 y1 hu hm; omega
    | succ k ih =>
      intro t y hJ hK hV h4 h5 h3 hM y0 y1 hu hm
      refine gg_w (M := 20000 + k * 100 + 100) (by omega) ?_
      refine g_iload_n 105 (gd rfl) rfl rfl ?_
      refine g_bipush 32 107 (gd rfl) rfl rfl ?_
      have h32 : (Int32.ofInt 32).toInt = 32 := rfl
      refine g_cmp_gt 110 150 (gd rfl) rfl rfl (fun c => ?_) (fun c => ?_)
      · refine g_aload_n 151 (gd rfl) rfl rfl ?_
        refine g_getI 154 (gd rfl) rfl rfl rfl (fun z1 e1 => ?_)
        refine g_iconst 1 155 (gd rfl) rfl rfl ?_
        refine g_isub 156 (gd rfl) rfl (fun z2 e2 => ?_)
        have iz1 : In z1 0 160 := ⟨by rw [e1]; omega, by rw [e1]; omega⟩
        have t2 := t_sub e2 iz1 (in_c 1 rfl) rfl
        rw [e1, h3] at t2
        refine g_istore_n 157 (gd rfl) rfl (Nat.le_of_ble_eq_true rfl) ?_
        refine gg_w (by omega) (gg_f (gf_cons rfl (gf_cons rfl gf_nil)) (ct157 162 t z2 hJ hK hV h4 h5 (by omega) (by omega) (fun u hu2 => ?_) h3 hM (by rw [show (z2.toInt + 1).toNat = T by omega]; exact rws_e) (by rw [show (z2.toInt + 1).toNat = T by omega]; exact rws_e) (by omega)))
        have e9 : (z2.toInt + 1).toNat = T := by omega
        have hu3 := hu u hu2
        rw [if_pos (by omega), if_pos (by omega)] at hu3
        rw [e9]
        exact hu3
      · obtain ⟨p, hp⟩ : ∃ p : Nat, y.toInt = ((p + 1 : Nat) : Int) := ⟨(y.toInt - 1).toNat, by omega⟩
        have hpc : y.toNatClampNeg = p + 1 := by have := cl y (by omega); omega
        have iy : In y 1 32 := ⟨y0, by omega⟩
        have ku := hu (p + 1) (by omega)
        have kv := hu p (by omega)
        rw [if_neg (by omega), if_neg (by omega)] at ku
        rw [if_pos (by omega), if_pos (by omega)] at kv
        have a1 := cn_0 F ((p + 1 : Nat) : Int) T
        have a2 := pr_0 F T (p + 1)
        have a3 := pr_le F T (p + 1 + 1)
        have a4 : pr F T (p + 1 + 1) = pr F T (p + 1) + cn F ((p + 1 : Nat) : Int) T := rfl
        have b1 := cn_0 G ((p + 1 : Nat) : Int) T
        have b2 := pr_0 G T (p + 1)
        have b3 := pr_le G T (p + 1 + 1)
        have b4 : pr G T (p + 1 + 1) = pr G T (p + 1) + cn G ((p + 1 : Nat) : Int) T := rfl
        refine g_aload_n 111 (gd rfl) rfl rfl ?_
        refine g_getA (q2 := 12) 114 (gd rfl) rfl rfl rfl rfl ?_
        refine g_iload_n 115 (gd rfl) rfl rfl ?_
        refine g_dup2 116 (gd rfl) rfl rfl rfl ?_
        refine g_iaload 117 (gd rfl) rfl (n := 33) rfl (in_ix iy rfl) (fun z1 e1 => ?_)
        rw [hpc] at e1
        refine g_aload_n 118 (gd rfl) rfl rfl ?_
        refine g_getA (q2 := 12) 121 (gd rfl) rfl rfl rfl rfl ?_
        refine g_iload_n 122 (gd rfl) rfl rfl ?_
        refine g_iconst 1 123 (gd rfl) rfl rfl ?_
        refine g_isub 124 (gd rfl) rfl (fun z2 e2 => ?_)
        have t2 := t_sub e2 iy (in_c 1 rfl) rfl
        have iz2 := in_sub 0 31 e2 iy (in_c 1 rfl) rfl rfl
        have hzc : z2.toNatClampNeg = p := by have := cl z2 iz2.1; omega
        refine g_iaload 125 (gd rfl) rfl (n := 33) rfl (in_ix iz2 rfl) (fun z3 e3 => ?_)
        rw [hzc] at e3
        rw [← e1] at ku
        rw [← e3] at kv
        have iz1 : In z1 0 160 := ⟨by omega, by omega⟩
        have iz3 : In z3 0 160 := ⟨by omega, by omega⟩
        refine g_iadd 126 (gd rfl) rfl (fun z4 e4 => ?_)
        have t4 := t_add e4 iz1 iz3 rfl
        have iz4 : In z4 0 160 := ⟨by omega, by omega⟩
        refine g_iastore 127 (gd rfl) rfl (n := 33) rfl (in_ix iy rfl) ?_
        have hJ1 := rng_sI (q := 12) (j := y.toNatClampNeg) hJ rfl iz4
        refine g_aload_n 128 (gd rfl) rfl rfl ?_
        refine g_getA (q2 := 14) 131 (gd rfl) rfl rfl rfl rfl ?_
        refine g_iload_n 132 (gd rfl) rfl rfl ?_
        refine g_dup2 133 (gd rfl) rfl rfl rfl ?_
        refine g_iaload 134 (gd rfl) rfl (n := 33) rfl (in_ix iy rfl) (fun z5 e5 => ?_)
        have e5 : z5 = t.1 14 y.toNatClampNeg := e5
        rw [hpc] at e5
        refine g_aload_n 135 (gd rfl) rfl rfl ?_
        refine g_getA (q2 := 14) 138 (gd rfl) rfl rfl rfl rfl ?_
        refine g_iload_n 139 (gd rfl) rfl rfl ?_
        refine g_iconst 1 140 (gd rfl) rfl rfl ?_
        refine g_isub 141 (gd rfl) rfl (fun z6 e6 => ?_)
        have t6 := t_sub e6 iy (in_c 1 rfl) rfl
        have iz6 := in_sub 0 31 e6 iy (in_c 1 rfl) rfl rfl
        have hzc6 : z6.toNatClampNeg = p := by have := cl z6 iz6.1; omega
        refine g_iaload 142 (gd rfl) rfl (n := 33) rfl (in_ix iz6 rfl) (fun z7 e7 => ?_)
        have e7 : z7 = t.1 14 z6.toNatClampNeg := e7
        rw [hzc6] at e7
        rw [← e5] at ku
        rw [← e7] at kv
        have iz5 : In z5 0 160 := ⟨by omega, by omega⟩
        have iz7 : In z7 0 160 := ⟨by omega, by omega⟩
        refine g_iadd 143 (gd rfl) rfl (fun z8 e8 => ?_)
        have t8 := t_add e8 iz5 iz7 rfl
        have iz8 : In z8 0 160 := ⟨by omega, by omega⟩
        refine g_iastore 144 (gd rfl) rfl (n := 33) rfl (in_ix iy rfl) ?_
        have hJ2 := rng_sI (q := 14) (j := y.toNatClampNeg) hJ1 rfl iz8
        refine g_iinc 147 (gd rfl) rfl rfl (Nat.le_of_ble_eq_true rfl) (fun z e => ?_)
        refine g_goto 104 (gd rfl) rfl ?_
        have ez := t_add e iy (in_c 1 rfl) rfl
        refine gg_w (by omega) (gg_f (gf_cons rfl (gf_cons rfl gf_nil)) (ih _ z hJ2 (fr_sI rfl (fr_sI rfl hK)) hV h4 h5 h3 hM (by omega) (by omega) (fun u hu2 => ?_) (by omega)))
        have hu3 := hu u hu2
        have g1 : (upd (t.1 12) y.toNatClampNeg z4 u).toInt = (if (u : Int) < z.toInt then pr F T (u + 1) else cn F (u : Int) T) := by
          rw [hpc, up_at]
          by_cases b : u = p + 1
          · subst b
            rw [if_pos rfl, if_pos (by omega)]
            omega
          · rw [if_neg b, hu3.1]
            by_cases b2 : (u : Int) < y.toInt
            · rw [if_pos b2, if_pos (by omega)]
            · rw [if_neg b2, if_neg (by omega)]
        have g2 : (upd (t.1 14) y.toNatClampNeg z8 u).toInt = (if (u : Int) < z.toInt then pr G T (u + 1) else cn G (u : Int) T) := by
          rw [hpc, up_at]
          by_cases b : u = p + 1
          · subst b
            rw [if_pos rfl, if_pos (by omega)]
            omega
          · rw [if_neg b, hu3.2]
            by_cases b2 : (u : Int) < y.toInt
            · rw [if_pos b2, if_pos (by omega)]
            · rw [if_neg b2, if_neg (by omega)]
        exact ⟨g1, g2⟩
  -- the first loop
  have ct62 : ∀ (k : Nat) (t : GS) (y : Int32), Rng t → Fr fm_106_2 s t → t.2.2.1 2 4 = s.2.2.1 2 0 → t.1 4 = f4 → t.1 5 = f5 → (t.2.2.1 2 3).toInt = (T : Int) → MSK f4 f5 (t.1 9) (t.1 10) (t.1 11) y.toInt.toNat → 0 ≤ y.toInt → y.toInt ≤ (T : Int) → (∀ u : Nat, u ≤ 32 → (t.1 12 u).toInt = cn F (u : Int) y.toInt.toNat ∧ (t.1 14 u).toInt = cn G (u : Int) y.toInt.toNat) → (T : Int) - y.toInt < (k : Int) → GG Z (d - 1) 106 post (gx xp) (30000 + k * 100) 62 (fun j => xlook j [(0, .ref (A 2)), (1, .int y)]) [] (WW Z A t ++ ex) 0 0 := by
    intro k
    induction k with
    | zero => intro t y hJ hK hV h4 h5 h3 hM y0 y1 hu hm; omega
    | succ k ih =>
      intro t y hJ hK hV h4 h5 h3 hM y0 y1 hu hm
      refine gg_w (M := 30000 + k * 100 + 100) (by omega) ?_
      refine g_iload_n 63 (gd rfl) rfl rfl ?_
      refine g_aload_n 64 (gd rfl) rfl rfl ?_
      refine g_getI 67 (gd rfl) rfl rfl rfl (fun z0 e0 => ?_)
      rw [← e0] at h3
      refine g_cmp_ge 70 102 (gd rfl) rfl rfl (fun c => ?_) (fun c => ?_)
      · have ey : y.toInt.toNat = T := by omega
        rw [ey] at hu hM
        refine g_iconst 1 103 (gd rfl) rfl rfl ?_
        refine g_istore_n 104 (gd rfl) rfl (Nat.le_of_ble_eq_true rfl) ?_
        refine gg_w (by omega) (gg_f (gf_cons rfl (gf_cons rfl gf_nil)) (ct104 33 t (Int32.ofInt 1) hJ hK hV h4 h5 (by rw [← e0]; exact h3) hM (by omega) (by omega) (fun u hu2 => ?_) (by omega)))
        have hu3 := hu u hu2
        rw [h01]
        by_cases b : (u : Int) < 1
        · have b0 : u = 0 := by omega
          subst b0
          rw [if_pos b, if_pos b]
          have d1 : pr F T (0 + 1) = 0 + cn F ((0 : Nat) : Int) T := rfl
          have d2 : pr G T (0 + 1) = 0 + cn G ((0 : Nat) : Int) T := rfl
          rw [d1, d2]
          exact ⟨by omega, by omega⟩
        · rw [if_neg b, if_neg b]
          exact hu3
      · have iy : In y 0 159 := ⟨y0, by omega⟩
        obtain ⟨p, hp⟩ : ∃ p : Nat, y.toInt = (p : Int) := ⟨y.toInt.toNat, by omega⟩
        have hp1 : y.toInt.toNat = p := by omega
        have hpc : y.toNatClampNeg = p := by have := cl y y0; omega
        have hp2 : p < 160 := by omega
        rw [hp1] at hu hM
        refine g_aload_n 71 (gd rfl) rfl rfl ?_
        refine g_getA (q2 := 4) 74 (gd rfl) rfl rfl rfl rfl ?_
        refine g_iload_n 75 (gd rfl) rfl rfl ?_
        refine g_iaload 76 (gd rfl) rfl (n := 160) rfl (in_ix iy rfl) (fun z1 e1 => ?_)
        rw [h4, hpc] at e1
        refine g_iconst (-1) 77 (gd rfl) rfl rfl ?_
        refine g_cmp_eq 80 96 (gd rfl) rfl rfl (fun c1 => ?_) (fun c1 => ?_)
        · have hneg : (f4 p).toInt = -1 := by rw [← e1]; exact c1
          have m1 : F p = -1 := by rw [aF p hp2]; exact hneg
          have m2 : G p = -1 := bG p hp2 hneg
          refine g_iinc 99 (gd rfl) rfl rfl (Nat.le_of_ble_eq_true rfl) (fun z e => ?_)
          refine g_goto 62 (gd rfl) rfl ?_
          have ez := t_add e iy (in_c 1 rfl) rfl
          refine gg_w (by omega) (gg_f (gf_cons rfl (gf_cons rfl gf_nil)) (ih t z hJ hK hV h4 h5 (by rw [← e0]; exact h3) (by rw [show z.toInt.toNat = p + 1 by omega]; exact msk_n hM (by rw [← hF]; exact m1)) (by omega) (by omega) (fun u hu2 => ?_) (by omega)))
          have e9 : z.toInt.toNat = p + 1 := by omega
          have hu3 := hu u hu2
          rw [e9, cn_miss (by omega), cn_miss (by omega)]
          exact hu3
        · have q1 := r4 p hp2
          have q2 := r5 p hp2
          have iz1 : In z1 0 31 := ⟨by rw [e1]; rw [e1] at c1; omega, by rw [e1]; omega⟩
          obtain ⟨w, hw⟩ : ∃ w : Nat, z1.toInt = (w : Int) := ⟨z1.toInt.toNat, by obtain ⟨a, b⟩ := iz1; omega⟩
          have hwc : z1.toNatClampNeg = w := by have := cl z1 iz1.1; omega
          have hw31 : w ≤ 31 := by obtain ⟨a, b⟩ := iz1; omega
          have hFp : F p = (w : Int) := by rw [aF p hp2, ← e1, hw]
          have hnn : (f4 p).toInt ≠ -1 := by rw [← e1]; rw [hm1] at c1; exact c1
          refine g_aload_n 81 (gd rfl) rfl rfl ?_
          refine g_aload_n 82 (gd rfl) rfl rfl ?_
          refine g_getA (q2 := 4) 85 (gd rfl) rfl rfl rfl rfl ?_
          refine g_iload_n 86 (gd rfl) rfl rfl ?_
          refine g_iaload 87 (gd rfl) rfl (n := 160) rfl (in_ix iy rfl) (fun z2 e2 => ?_)
          rw [h4, hpc] at e2
          have e2 : z1 = z2 := e1.trans e2.symm
          subst e2
          refine g_aload_n 88 (gd rfl) rfl rfl ?_
          refine g_getA (q2 := 5) 91 (gd rfl) rfl rfl rfl rfl ?_
          refine g_iload_n 92 (gd rfl) rfl rfl ?_
          refine g_iaload 93 (gd rfl) rfl (n := 160) rfl (in_ix iy rfl) (fun z3 e3 => ?_)
          rw [h5, hpc] at e3
          have iz3 : In z3 0 31 := ⟨by rw [e3]; omega, by rw [e3]; omega⟩
          obtain ⟨x, hx⟩ : ∃ x : Nat, z3.toInt = (x : Int) := ⟨z3.toInt.toNat, by obtain ⟨a, b⟩ := iz3; omega⟩
          have hxc : z3.toNatClampNeg = x := by have := cl z3 iz3.1; omega
          have hx31 : x ≤ 31 := by obtain ⟨a, b⟩ := iz3; omega
          have hGp : G p = (x : Int) := by rw [aG p hp2 hnn, ← e3, hx]
          have a1 := (hu w (by omega)).1
          have a2 := cn_le F (w : Int) p
          have a3 := cn_0 F (w : Int) p
          have b1 := (hu x (by omega)).2
          have b2 := cn_le G (x : Int) p
          have b3 := cn_0 G (x : Int) p
          refine g_callv (X := _) (As := [.int z1, .int z3]) (r := []) (b := A 2) (q := 2) 96 (gd rfl) rfl rfl rfl rfl rfl (ww_o rfl) (Nat.le_of_ble_eq_true rfl) (Nat.zero_le _) (Nat.zero_le _) (x_107_2 (by omega) hJ iz1 iz3 (by rw [hwc]; exact ⟨by omega, by omega⟩) (by rw [hxc]; exact ⟨by omega, by omega⟩)) (fun e u h => h) (fun v u h => ?_)
          obtain ⟨t2, hJ2, uF, rfl, rfl, u4, u5, u3, uo, ui, ute⟩ := h
          show GG _ _ _ _ _ _ _ _ [] _ _ _
          refine g_iinc 99 (gd rfl) rfl rfl (Nat.le_of_ble_eq_true rfl) (fun z e => ?_)
          refine g_goto 62 (gd rfl) rfl ?_
          have ez := t_add e iy (in_c 1 rfl) rfl
          refine gg_w (by omega) (gg_f (gf_cons rfl (gf_cons rfl gf_nil)) (ih t2 z hJ2 (fr_tr rfl hK uF) (by rw [u3]; exact hV) (by rw [u4, h4]) (by rw [u5, h5]) (by rw [u3, ← e0]; exact h3) (by rw [show z.toInt.toNat = p + 1 by omega]; exact msk_s hM (by rw [← hF]; exact hFp) (by rw [← hG]; exact hGp) hw hx (by omega) (by omega) ute) (by omega) (by omega) (fun u hu2 => ?_) (by omega)))
          have e9 : z.toInt.toNat = p + 1 := by omega
          have hu3 := hu u hu2
          rw [e9, uo, ui, hwc, hxc, up_at, up_at]
          have tw : (t.1 12 w + Int32.ofInt 1).toInt = (t.1 12 w).toInt + 1 := by
            have := t_add (x := t.1 12 w) (y := Int32.ofInt 1) rfl (a := 0) (b := 159) ⟨by omega, by omega⟩ (in_c 1 rfl) rfl
            rw [this, h01]
          have tx : (t.1 14 x + Int32.ofInt 1).toInt = (t.1 14 x).toInt + 1 := by
            have := t_add (x := t.1 14 x) (y := Int32.ofInt 1) rfl (a := 0) (b := 159) ⟨by omega, by omega⟩ (in_c 1 rfl) rfl
            rw [this, h01]
          constructor
          · by_cases b : u = w
            · subst b
              rw [if_pos rfl, tw, cn_hit hFp]
              omega
            · rw [if_neg b, hu3.1, cn_miss (by rw [hFp]; omega)]
          · by_cases b : u = x
            · subst b
              rw [if_pos rfl, tx, cn_hit hGp]
              omega
            · rw [if_neg b, hu3.2, cn_miss (by rw [hGp]; omega)]
  refine g_enter2 (k := 106) (N := 60000) (by omega) rfl (Nat.le_of_ble_eq_true rfl) ?_
  refine g_aload_n 1 (gd rfl) rfl rfl ?_
  refine g_getI 4 (gd rfl) rfl rfl rfl (fun z1 e1 => ?_)
  refine g_aload_n 5 (gd rfl) rfl rfl ?_
  refine g_getI 8 (gd rfl) rfl rfl rfl (fun z2 e2 => ?_)
  have i2 := inv_F hI 0 4000 rfl e2
  refine g_cmp_ne 11 12 (gd rfl) rfl rfl (fun c => ?_) (fun c => ?_)
  · refine g_aload_n 13 (gd rfl) rfl rfl ?_
    refine g_aload_n 14 (gd rfl) rfl rfl ?_
    refine g_getI 17 (gd rfl) rfl rfl rfl (fun z3 e3 => ?_)
    have i3 := inv_F hI 0 4000 rfl e3
    refine g_putI 20 (gd rfl) rfl rfl rfl rfl ?_
    have hI1 := rng_sF (q := 2) (j := 4) hI.1 rfl (in_w (-1) 4000 i3 rfl)
    refine g_aload_n 21 (gd rfl) rfl rfl ?_
    refine g_getA (q2 := 9) 24 (gd rfl) rfl rfl rfl rfl ?_
    refine g_iconst 0 25 (gd rfl) rfl rfl ?_
    refine g_calls (As := [.ref (A 9), .int (Int32.ofInt 0)]) (r := []) 28 (gd rfl) rfl rfl rfl rfl rfl (Nat.le_of_ble_eq_true rfl) (Nat.zero_le _) (Nat.zero_le _) (x_417 (q := 9) (n := 32) (by omega) rfl (by decide)) (fun v u h => ?_)
    obtain ⟨g1, rfl, rfl, hg1⟩ := h
    show GG _ _ _ _ _ _ _ _ [] _ _ _
    have hI2 := rng_sA (q := 9) (g := g1) hI1 (fun i hi => by rw [hg1 i hi]; exact (in_w (-2147483648) 2147483647 (in_c 0 rfl) rfl : In (Int32.ofInt 0) (-2147483648) 2147483647))
    refine g_aload_n 29 (gd rfl) rfl rfl ?_
    refine g_getA (q2 := 10) 32 (gd rfl) rfl rfl rfl rfl ?_
    refine g_iconst 0 33 (gd rfl) rfl rfl ?_
    refine g_calls (As := [.ref (A 10), .int (Int32.ofInt 0)]) (r := []) 36 (gd rfl) rfl rfl rfl rfl rfl (Nat.le_of_ble_eq_true rfl) (Nat.zero_le _) (Nat.zero_le _) (x_417 (q := 10) (n := 32) (by omega) rfl (by decide)) (fun v u h => ?_)
    obtain ⟨g2, rfl, rfl, hg2⟩ := h
    show GG _ _ _ _ _ _ _ _ [] _ _ _
    have hI3 := rng_sA (q := 10) (g := g2) hI2 (fun i hi => by rw [hg2 i hi]; exact (in_w (-2147483648) 2147483647 (in_c 0 rfl) rfl : In (Int32.ofInt 0) (-2147483648) 2147483647))
    refine g_aload_n 37 (gd rfl) rfl rfl ?_
    refine g_getA (q2 := 11) 40 (gd rfl) rfl rfl rfl rfl ?_
    refine g_iconst 0 41 (gd rfl) rfl rfl ?_
    refine g_calls (As := [.ref (A 11), .int (Int32.ofInt 0)]) (r := []) 44 (gd rfl) rfl rfl rfl rfl rfl (Nat.le_of_ble_eq_true rfl) (Nat.zero_le _) (Nat.zero_le _) (x_417 (q := 11) (n := 32) (by omega) rfl (by decide)) (fun v u h => ?_)
    obtain ⟨g3, rfl, rfl, hg3⟩ := h
    show GG _ _ _ _ _ _ _ _ [] _ _ _
    have hI4 := rng_sA (q := 11) (g := g3) hI3 (fun i hi => by rw [hg3 i hi]; exact (in_w (-2147483648) 2147483647 (in_c 0 rfl) rfl : In (Int32.ofInt 0) (-2147483648) 2147483647))
    refine g_aload_n 45 (gd rfl) rfl rfl ?_
    refine g_getA (q2 := 12) 48 (gd rfl) rfl rfl rfl rfl ?_
    refine g_iconst 0 49 (gd rfl) rfl rfl ?_
    refine g_calls (As := [.ref (A 12), .int (Int32.ofInt 0)]) (r := []) 52 (gd rfl) rfl rfl rfl rfl rfl (Nat.le_of_ble_eq_true rfl) (Nat.zero_le _) (Nat.zero_le _) (x_417 (q := 12) (n := 33) (by omega) rfl (by decide)) (fun v u h => ?_)
    obtain ⟨g4, rfl, rfl, hg4⟩ := h
    show GG _ _ _ _ _ _ _ _ [] _ _ _
    have hI5 := rng_sA (q := 12) (g := g4) hI4 (fun i hi => by rw [hg4 i hi]; exact (in_w 0 160 (in_c 0 rfl) rfl : In (Int32.ofInt 0) 0 160))
    refine g_aload_n 53 (gd rfl) rfl rfl ?_
    refine g_getA (q2 := 14) 56 (gd rfl) rfl rfl rfl rfl ?_
    refine g_iconst 0 57 (gd rfl) rfl rfl ?_
    refine g_calls (As := [.ref (A 14), .int (Int32.ofInt 0)]) (r := []) 60 (gd rfl) rfl rfl rfl rfl rfl (Nat.le_of_ble_eq_true rfl) (Nat.zero_le _) (Nat.zero_le _) (x_417 (q := 14) (n := 33) (by omega) rfl (by decide)) (fun v u h => ?_)
    obtain ⟨g5, rfl, rfl, hg5⟩ := h
    show GG _ _ _ _ _ _ _ _ [] _ _ _
    have hI6 := rng_sA (q := 14) (g := g5) hI5 (fun i hi => by rw [hg5 i hi]; exact (in_w 0 160 (in_c 0 rfl) rfl : In (Int32.ofInt 0) 0 160))
    have fz : ∀ (g : Nat → Int32), (∀ j, j < 33 → g j = Int32.ofInt 0) → ∀ u : Nat, u ≤ 32 → (g u).toInt = 0 := fun g hg u hu => by rw [hg u (by omega)]; rfl
    refine g_iconst 0 61 (gd rfl) rfl rfl ?_
    refine g_istore_n 62 (gd rfl) rfl (Nat.le_of_ble_eq_true rfl) ?_
    refine gg_w (by omega) (gg_f (gf_cons rfl (gf_cons rfl gf_nil)) (ct62 161 _ (Int32.ofInt 0) hI6 (fr_sA rfl (fr_sA rfl (fr_sA rfl (fr_sA rfl (fr_sA rfl (fr_sF rfl fr_rf)))))) ((sF_get (s := s) (q := 2) (j := 4) (x := z3)).symm.trans e3) hf4.symm hf5.symm hT (msk_0 hg1 hg2 hg3) (by omega) (by omega) (fun u hu2 => ?_) (by omega)))
    have o1 : (g4 u).toInt = cn F (u : Int) (Int32.ofInt 0).toInt.toNat := fz g4 hg4 u hu2
    have o2 : (g5 u).toInt = cn G (u : Int) (Int32.ofInt 0).toInt.toNat := fz g5 hg5 u hu2
    exact ⟨o1, o2⟩
  · exact g_return (gd rfl) rfl (hP _ _ ⟨s, hI, fr_rf, by rw [← e1, ← e2]; exact c, rfl, rfl⟩)
def fm_106_32 : FM := ([39, 40, 41, 42, 43, 44, 45], [], [(32, 4)], [])
theorem kk_t32 {s t : GS} (h : KK (mI s) (mF s)) (hF : Fr fm_106_32 s t) (hv : t.2.2.1 32 4 = t.2.2.1 32 0) (hT : TG (t.1 34) (t.1 35) (t.1 39) (t.1 40) (t.1 41) (t.1 42) (t.1 43) (t.1 44) (t.1 45) (t.2.2.1 32 3).toInt.toNat) : KK (mI t) (mF t) := by
  have hg : KG 32 (mI t) (mF t) := by
    refine ⟨?_, fun _ => ?_⟩
    · rw [mF_at rfl, mF_at rfl, hv]
      exact Int.le_refl _
    · rw [mI_at rfl, mI_at rfl, mI_at rfl, mI_at rfl, mI_at rfl, mI_at rfl, mI_at rfl, mI_at rfl, mI_at rfl, mF_at rfl]
      exact hT
  exact ⟨kk_g h.1 hF rfl rfl rfl rfl rfl, hg, kk_s h.2.2.1 hF rfl, kk_r h.2.2.2 hF rfl⟩
/-- GraphHouse$Graph.tie -/
theorem k_106_32 {Z : AmZ} {A : Nat → Nat} {s : GS} {ex : va_W} {d : Nat} {X : AmX} (hd : 3 ≤ d) (hI : Inv s) : GC Z d 106 [.ref (A 32)] (WW Z A s ++ ex) 0 0 (fun v u => ∃ t : GS, Inv t ∧ Fr fm_106_32 s t ∧ (t.2.2.1 32 4).toInt = (t.2.2.1 32 0).toInt ∧ v = none ∧ u = WW Z A t ++ ex) X := by
  intro post xp hP hX
  have hm1 : (Int32.ofInt (-1)).toInt = -1 := rfl
  have h01 : (Int32.ofInt 1).toInt = 1 := rfl
  have h00 : (Int32.ofInt 0).toInt = 0 := rfl
  have hz0 := inv_F hI (q := 32) (j := 3) 0 160 rfl rfl
  obtain ⟨T, hT⟩ : ∃ T : Nat, (s.2.2.1 32 3).toInt = (T : Int) := ⟨(s.2.2.1 32 3).toInt.toNat, by obtain ⟨a, b⟩ := hz0; omega⟩
  have hT2 : T ≤ 160 := by obtain ⟨a, b⟩ := hz0; omega
  have r4 : ∀ j, j < 160 → -1 ≤ (s.1 34 j).toInt ∧ (s.1 34 j).toInt ≤ 31 := fun j hj => hI.1.1 34 j hj
  have r5 : ∀ j, j < 160 → 0 ≤ (s.1 35 j).toInt ∧ (s.1 35 j).toInt ≤ 31 := fun j hj => hI.1.1 35 j hj
  have cl : ∀ y : Int32, 0 ≤ y.toInt → (y.toNatClampNeg : Int) = y.toInt := fun y hy => by
    show ((y.toInt.toNat : Nat) : Int) = y.toInt
    omega
  obtain ⟨f4, hf4⟩ : ∃ f, f = s.1 34 := ⟨_, rfl⟩
  obtain ⟨f5, hf5⟩ : ∃ f, f = s.1 35 := ⟨_, rfl⟩
  rw [← hf4] at r4
  rw [← hf5] at r5
  obtain ⟨F, hF⟩ : ∃ F, F = gF f4 := ⟨_, rfl⟩
  obtain ⟨G, hG⟩ : ∃ G, G = gG f4 f5 := ⟨_, rfl⟩
  have aF : ∀ j, j < 160 → F j = (f4 j).toInt := fun j hj => by rw [hF]; unfold gF; rw [if_pos hj]
  have aG : ∀ j, j < 160 → (f4 j).toInt ≠ -1 → G j = (f5 j).toInt := fun j hj h => by rw [hG]; unfold gG; rw [if_pos ⟨hj, h⟩]
  have bG : ∀ j, j < 160 → (f4 j).toInt = -1 → G j = -1 := fun j hj h => by rw [hG]; unfold gG; rw [if_neg (fun z => z.2 h)]
  have lF : ∀ j, F j < 32 := fun j => by
    rw [hF]
    unfold gF
    split
    · have := r4 j (by assumption)
      omega
    · omega
  have lG : ∀ j, G j < 32 := fun j => by
    rw [hG]
    unfold gG
    split
    · rename_i h
      have := r5 j h.1
      omega
    · omega
  have oF : cn F ((32 : Nat) : Int) T = 0 := cn_out F _ lF T
  have oG : cn G ((32 : Nat) : Int) T = 0 := cn_out G _ lG T
  -- the third loop
  have ct157 : ∀ (k : Nat) (t : GS) (y : Int32), Rng t → Fr fm_106_32 s t → t.2.2.1 32 4 = s.2.2.1 32 0 → t.1 34 = f4 → t.1 35 = f5 → -1 ≤ y.toInt → y.toInt < (T : Int) → (∀ u : Nat, u ≤ 32 → (t.1 42 u).toInt = pr F T u + cn F (u : Int) (y.toInt + 1).toNat ∧ (t.1 44 u).toInt = pr G T u + cn G (u : Int) (y.toInt + 1).toNat) → (t.2.2.1 32 3).toInt = (T : Int) → MSK f4 f5 (t.1 39) (t.1 40) (t.1 41) T → RWS F T (t.1 43) (y.toInt + 1).toNat → RWS G T (t.1 45) (y.toInt + 1).toNat → y.toInt + 1 < (k : Int) → GG Z (d - 1) 106 post (gx xp) (10 + k * 100) 157 (fun j => xlook j [(0, .ref (A 32)), (1, .int y)]) [] (WW Z A t ++ ex) 0 0 := by
    intro k
    induction k with
    | zero => intro t y hJ hK hV h4 h5 y0 y1 hu h3 hM hO hN hm; omega
    | succ k ih =>
      intro t y hJ hK hV h4 h5 y0 y1 hu h3 hM hO hN hm
      refine gg_w (M := 10 + k * 100 + 100) (by omega) ?_
      refine g_iload_n 158 (gd rfl) rfl rfl ?_
      refine g_if_lt 161 241 (gd rfl) rfl rfl (fun c => ?_) (fun c => ?_)
      · have ey : (y.toInt + 1).toNat = 0 := by omega
        rw [ey] at hu
        rw [ey] at hO hN
        have hTG : TG (t.1 34) (t.1 35) (t.1 39) (t.1 40) (t.1 41) (t.1 42) (t.1 43) (t.1 44) (t.1 45) (t.2.2.1 32 3).toInt.toNat := by
          have eT : (t.2.2.1 32 3).toInt.toNat = T := by omega
          rw [eT, h4, h5]
          refine ⟨fun v hv => ?_, by rw [← hF]; exact hO, by rw [← hG]; exact hN, hM⟩
          have h := hu v hv
          have h0 : cn F (v : Int) 0 = 0 := rfl
          have h1 : cn G (v : Int) 0 = 0 := rfl
          rw [h0, h1] at h
          rw [← hF, ← hG]
          exact ⟨by omega, by omega⟩
        have hV0 : t.2.2.1 32 0 = s.2.2.1 32 0 := hK.2.2.1 32 0 rfl
        have hin : Inv t := ⟨hJ, kk_t32 hI.2 hK (by rw [hV, hV0]) hTG⟩
        exact g_return (gd rfl) rfl (hP _ _ ⟨t, hin, hK, by rw [hV, hV0], rfl, rfl⟩)
      · have iy : In y 0 159 := ⟨c, by omega⟩
        obtain ⟨p, hp⟩ : ∃ p : Nat, y.toInt = (p : Int) := ⟨y.toInt.toNat, by omega⟩
        have hp1 : (y.toInt + 1).toNat = p + 1 := by omega
        have hpc : y.toNatClampNeg = p := by have := cl y c; omega
        have hp2 : p < 160 := by omega
        rw [hp1] at hu hO hN
        refine g_aload_n 162 (gd rfl) rfl rfl ?_
        refine g_getA (q2 := 34) 165 (gd rfl) rfl rfl rfl rfl ?_
        refine g_iload_n 166 (gd rfl) rfl rfl ?_
        refine g_iaload 167 (gd rfl) rfl (n := 160) rfl (in_ix iy rfl) (fun z1 e1 => ?_)
        rw [h4, hpc] at e1
        refine g_iconst (-1) 168 (gd rfl) rfl rfl ?_
        refine g_cmp_eq 171 235 (gd rfl) rfl rfl (fun c1 => ?_) (fun c1 => ?_)
        · have hneg : (f4 p).toInt = -1 := by rw [← e1]; exact c1
          have m1 : F p = -1 := by rw [aF p hp2]; exact hneg
          have m2 : G p = -1 := bG p hp2 hneg
          refine g_iinc 238 (gd rfl) rfl rfl (Nat.le_of_ble_eq_true rfl) (fun z e => ?_)
          refine g_goto 157 (gd rfl) rfl ?_
          have ez := t_add e iy (in_c (-1) rfl) rfl
          refine gg_w (by omega) (gg_f (gf_cons rfl (gf_cons rfl gf_nil)) (ih t z hJ hK hV h4 h5 (by omega) (by omega) (fun u hu2 => ?_) h3 hM (by rw [show (z.toInt + 1).toNat = p by omega]; exact rws_n hO m1) (by rw [show (z.toInt + 1).toNat = p by omega]; exact rws_n hN m2) (by omega)))
          have e9 : (z.toInt + 1).toNat = p := by omega
          have hu3 := hu u hu2
          rw [cn_miss (by omega), cn_miss (by omega)] at hu3
          rw [e9]
          exact hu3
        · have q1 := r4 p hp2
          have iz1 : In z1 0 31 := ⟨by rw [e1]; rw [e1] at c1; omega, by rw [e1]; omega⟩
          obtain ⟨w, hw⟩ : ∃ w : Nat, z1.toInt = (w : Int) := ⟨z1.toInt.toNat, by obtain ⟨a, b⟩ := iz1; omega⟩
          have hwc : z1.toNatClampNeg = w := by have := cl z1 iz1.1; omega
          have hw31 : w ≤ 31 := by obtain ⟨a, b⟩ := iz1; omega
          have hFp : F p = (w : Int) := by rw [aF p hp2, ← e1, hw]
          have hnn : (f4 p).toInt ≠ -1 := by rw [← e1]; rw [hm1] at c1; exact c1
          have q2 := r5 p hp2
          refine g_aload_n 172 (gd rfl) rfl rfl ?_
          refine g_getA (q2 := 42) 175 (gd rfl) rfl rfl rfl rfl ?_
          refine g_aload_n 176 (gd rfl) rfl rfl ?_
          refine g_getA (q2 := 34) 179 (gd rfl) rfl rfl rfl rfl ?_
          refine g_iload_n 180 (gd rfl) rfl rfl ?_
          refine g_iaload 181 (gd rfl) rfl (n := 160) rfl (in_ix iy rfl) (fun z2 e2 => ?_)
          rw [h4, hpc] at e2
          have e2 : z1 = z2 := e1.trans e2.symm
          subst e2
          refine g_dup2 182 (gd rfl) rfl rfl rfl ?_
          refine g_iaload 183 (gd rfl) rfl (n := 33) rfl (in_ix iz1 rfl) (fun z3 e3 => ?_)
          rw [hwc] at e3
          have k3 := (hu w (by omega)).1
          rw [cn_hit hFp, ← e3] at k3
          have p1 := pr_0 F T w
          have p2 := cn_0 F (w : Int) p
          have p3 := pr_le F T (w + 1)
          have p3' : pr F T (w + 1) = pr F T w + cn F (w : Int) T := rfl
          have p4 := cn_mono F (w : Int) (show p + 1 ≤ T by omega)
          rw [cn_hit hFp] at p4
          have iz3 : In z3 1 160 := ⟨by omega, by omega⟩
          refine g_iconst 1 184 (gd rfl) rfl rfl ?_
          refine g_isub 185 (gd rfl) rfl (fun z4 e4 => ?_)
          have t4 := t_sub e4 iz3 (in_c 1 rfl) rfl
          have iz4 := in_sub 0 159 e4 iz3 (in_c 1 rfl) rfl rfl
          refine g_iastore 186 (gd rfl) rfl (n := 33) rfl (in_ix iz1 rfl) ?_
          have hJ1 := rng_sI (q := 42) (j := z1.toNatClampNeg) hJ rfl (in_w 0 160 iz4 rfl)
          refine g_aload_n 187 (gd rfl) rfl rfl ?_
          refine g_getA (q2 := 43) 190 (gd rfl) rfl rfl rfl rfl ?_
          refine g_aload_n 191 (gd rfl) rfl rfl ?_
          refine g_getA (q2 := 42) 194 (gd rfl) rfl rfl rfl rfl ?_
          refine g_aload_n 195 (gd rfl) rfl rfl ?_
          refine g_getA (q2 := 34) 198 (gd rfl) rfl rfl rfl rfl ?_
          refine g_iload_n 199 (gd rfl) rfl rfl ?_
          refine g_iaload 200 (gd rfl) rfl (n := 160) rfl (in_ix iy rfl) (fun z5 e5 => ?_)
          have e5 : z5 = t.1 34 y.toNatClampNeg := e5
          rw [h4, hpc] at e5
          have e5 : z1 = z5 := e1.trans e5.symm
          subst e5
          refine g_iaload 201 (gd rfl) rfl (n := 33) rfl (in_ix iz1 rfl) (fun z6 e6 => ?_)
          have e6 : z4 = z6 := sI_get.trans e6.symm
          subst e6
          refine g_iload_n 202 (gd rfl) rfl rfl ?_
          refine g_iastore 203 (gd rfl) rfl (n := 160) rfl (in_ix iz4 rfl) ?_
          have hJ2 := rng_sI (q := 43) (j := z4.toNatClampNeg) hJ1 rfl iy
          refine g_aload_n 204 (gd rfl) rfl rfl ?_
          refine g_getA (q2 := 44) 207 (gd rfl) rfl rfl rfl rfl ?_
          refine g_aload_n 208 (gd rfl) rfl rfl ?_
          refine g_getA (q2 := 35) 211 (gd rfl) rfl rfl rfl rfl ?_
          refine g_iload_n 212 (gd rfl) rfl rfl ?_
          refine g_iaload 213 (gd rfl) rfl (n := 160) rfl (in_ix iy rfl) (fun z7 e7 => ?_)
          have e7 : z7 = t.1 35 y.toNatClampNeg := e7
          rw [h5, hpc] at e7
          have iz7 : In z7 0 31 := ⟨by rw [e7]; omega, by rw [e7]; omega⟩
          obtain ⟨x, hx⟩ : ∃ x : Nat, z7.toInt = (x : Int) := ⟨z7.toInt.toNat, by obtain ⟨a, b⟩ := iz7; omega⟩
          have hxc : z7.toNatClampNeg = x := by have := cl z7 iz7.1; omega
          have hx31 : x ≤ 31 := by obtain ⟨a, b⟩ := iz7; omega
          have hGp : G p = (x : Int) := by rw [aG p hp2 hnn, ← e7, hx]
          refine g_dup2 214 (gd rfl) rfl rfl rfl ?_
          refine g_iaload 215 (gd rfl) rfl (n := 33) rfl (in_ix iz7 rfl) (fun z8 e8 => ?_)
          have e8 : z8 = t.1 44 z7.toNatClampNeg := e8
          rw [hxc] at e8
          have k8 := (hu x (by omega)).2
          rw [cn_hit hGp, ← e8] at k8
          have s1 := pr_0 G T x
          have s2 := cn_0 G (x : Int) p
          have s3 := pr_le G T (x + 1)
          have s3' : pr G T (x + 1) = pr G T x + cn G (x : Int) T := rfl
          have s4 := cn_mono G (x : Int) (show p + 1 ≤ T by omega)
          rw [cn_hit hGp] at s4
          have iz8 : In z8 1 160 := ⟨by omega, by omega⟩
          refine g_iconst 1 216 (gd rfl) rfl rfl ?_
          refine g_isub 217 (gd rfl) rfl (fun z9 e9 => ?_)
          have t9 := t_sub e9 iz8 (in_c 1 rfl) rfl
          have iz9 := in_sub 0 159 e9 iz8 (in_c 1 rfl) rfl rfl
          refine g_iastore 218 (gd rfl) rfl (n := 33) rfl (in_ix iz7 rfl) ?_
          have hJ3 := rng_sI (q := 44) (j := z7.toNatClampNeg) hJ2 rfl (in_w 0 160 iz9 rfl)
          refine g_aload_n 219 (gd rfl) rfl rfl ?_
          refine g_getA (q2 := 45) 222 (gd rfl) rfl rfl rfl rfl ?_
          refine g_aload_n 223 (gd rfl) rfl rfl ?_
          refine g_getA (q2 := 44) 226 (gd rfl) rfl rfl rfl rfl ?_
          refine g_aload_n 227 (gd rfl) rfl rfl ?_
          refine g_getA (q2 := 35) 230 (gd rfl) rfl rfl rfl rfl ?_
          refine g_iload_n 231 (gd rfl) rfl rfl ?_
          refine g_iaload 232 (gd rfl) rfl (n := 160) rfl (in_ix iy rfl) (fun z10 e10 => ?_)
          have e10 : z10 = t.1 35 y.toNatClampNeg := e10
          rw [h5, hpc] at e10
          have e10 : z7 = z10 := e7.trans e10.symm
          subst e10
          refine g_iaload 233 (gd rfl) rfl (n := 33) rfl (in_ix iz7 rfl) (fun z11 e11 => ?_)
          have e11 : z9 = z11 := sI_get.trans e11.symm
          subst e11
          refine g_iload_n 234 (gd rfl) rfl rfl ?_
          refine g_iastore 235 (gd rfl) rfl (n := 160) rfl (in_ix iz9 rfl) ?_
          have hJ4 := rng_sI (q := 45) (j := z9.toNatClampNeg) hJ3 rfl iy
          have hz9 : (z9.toNatClampNeg : Int) = z9.toInt := cl z9 iz9.1
          have hz4 : (z4.toNatClampNeg : Int) = z4.toInt := cl z4 iz4.1
          have hO2 := rws_s (os2 := upd (t.1 43) z4.toNatClampNeg y) hO (by omega) hFp (by omega) hp rfl
          have hN2 := rws_s (os2 := upd (t.1 45) z9.toNatClampNeg y) hN (by omega) hGp (by omega) hp rfl
          refine g_iinc 238 (gd rfl) rfl rfl (Nat.le_of_ble_eq_true rfl) (fun z e => ?_)
          refine g_goto 157 (gd rfl) rfl ?_
          have ez := t_add e iy (in_c (-1) rfl) rfl
          refine gg_w (by omega) (gg_f (gf_cons rfl (gf_cons rfl gf_nil)) (ih _ z hJ4 (fr_sI rfl (fr_sI rfl (fr_sI rfl (fr_sI rfl hK)))) hV h4 h5 (by omega) (by omega) (fun u hu2 => ?_) h3 hM (by rw [show (z.toInt + 1).toNat = p by omega]; exact hO2) (by rw [show (z.toInt + 1).toNat = p by omega]; exact hN2) (by omega)))
          have e12 : (z.toInt + 1).toNat = p := by omega
          rw [e12]
          have hu3 := hu u hu2
          have g1 : (upd (t.1 42) z1.toNatClampNeg z4 u).toInt = pr F T u + cn F (u : Int) p := by
            rw [hwc, up_at]
            by_cases b : u = w
            · subst b
              rw [if_pos rfl]
              omega
            · rw [if_neg b, hu3.1, cn_miss (by rw [hFp]; omega)]
          have g2 : (upd (t.1 44) z7.toNatClampNeg z9 u).toInt = pr G T u + cn G (u : Int) p := by
            rw [hxc, up_at]
            by_cases b : u = x
            · subst b
              rw [if_pos rfl]
              omega
            · rw [if_neg b, hu3.2, cn_miss (by rw [hGp]; omega)]
          exact ⟨g1, g2⟩
  -- the second loop
  have ct104 : ∀ (k : Nat) (t : GS) (y : Int32), Rng t → Fr fm_106_32 s t → t.2.2.1 32 4 = s.2.2.1 32 0 → t.1 34 = f4 → t.1 35 = f5 → (t.2.2.1 32 3).toInt = (T : Int) → MSK f4 f5 (t.1 39) (t.1 40) (t.1 41) T → 1 ≤ y.toInt → y.toInt ≤ 33 → (∀ u : Nat, u ≤ 32 → (t.1 42 u).toInt = (if (u : Int) < y.toInt then pr F T (u + 1) else cn F (u : Int) T) ∧ (t.1 44 u).toInt = (if (u : Int) < y.toInt then pr G T (u + 1) else cn G (u : Int) T)) → 33 - y.toInt < (k : Int) → GG Z (d - 1) 106 post (gx xp) (20000 + k * 100) 104 (fun j => xlook j [(0, .ref (A 32)), (1, .int y)]) [] (WW Z A t ++ ex) 0 0 := by
    intro k
    induction k with
    | zero => intro t y hJ hK hV h4 h5 h3 hM y0 y1 hu hm; omega
    | succ k ih =>
      intro t y hJ hK hV h4 h5 h3 hM y0 y1 hu hm
      refine gg_w (M := 20000 + k * 100 + 100) (by omega) ?_
      refine g_iload_n 105 (gd rfl) rfl rfl ?_
      refine g_bipush 32 107 (gd rfl) rfl rfl ?_
      have h32 : (Int32.ofInt 32).toInt = 32 := rfl
      refine g_cmp_gt 110 150 (gd rfl) rfl rfl (fun c => ?_) (fun c => ?_)
      · refine g_aload_n 151 (gd rfl) rfl rfl ?_
        refine g_getI 154 (gd rfl) rfl rfl rfl (fun z1 e1 => ?_)
        refine g_iconst 1 155 (gd rfl) rfl rfl ?_
        refine g_isub 156 (gd rfl) rfl (fun z2 e2 => ?_)
        have iz1 : In z1 0 160 := ⟨by rw [e1]; omega, by rw [e1]; omega⟩
        have t2 := t_sub e2 iz1 (in_c 1 rfl) rfl
        rw [e1, h3] at t2
        refine g_istore_n 157 (gd rfl) rfl (Nat.le_of_ble_eq_true rfl) ?_
        refine gg_w (by omega) (gg_f (gf_cons rfl (gf_cons rfl gf_nil)) (ct157 162 t z2 hJ hK hV h4 h5 (by omega) (by omega) (fun u hu2 => ?_) h3 hM (by rw [show (z2.toInt + 1).toNat = T by omega]; exact rws_e) (by rw [show (z2.toInt + 1).toNat = T by omega]; exact rws_e) (by omega)))
        have e9 : (z2.toInt + 1).toNat = T := by omega
        have hu3 := hu u hu2
        rw [if_pos (by omega), if_pos (by omega)] at hu3
        rw [e9]
        exact hu3
      · obtain ⟨p, hp⟩ : ∃ p : Nat, y.toInt = ((p + 1 : Nat) : Int) := ⟨(y.toInt - 1).toNat, by omega⟩
        have hpc : y.toNatClampNeg = p + 1 := by have := cl y (by omega); omega
        have iy : In y 1 32 := ⟨y0, by omega⟩
        have ku := hu (p + 1) (by omega)
        have kv := hu p (by omega)
        rw [if_neg (by omega), if_neg (by omega)] at ku
        rw [if_pos (by omega), if_pos (by omega)] at kv
        have a1 := cn_0 F ((p + 1 : Nat) : Int) T
        have a2 := pr_0 F T (p + 1)
        have a3 := pr_le F T (p + 1 + 1)
        have a4 : pr F T (p + 1 + 1) = pr F T (p + 1) + cn F ((p + 1 : Nat) : Int) T := rfl
        have b1 := cn_0 G ((p + 1 : Nat) : Int) T
        have b2 := pr_0 G T (p + 1)
        have b3 := pr_le G T (p + 1 + 1)
        have b4 : pr G T (p + 1 + 1) = pr G T (p + 1) + cn G ((p + 1 : Nat) : Int) T := rfl
        refine g_aload_n 111 (gd rfl) rfl rfl ?_
        refine g_getA (q2 := 42) 114 (gd rfl) rfl rfl rfl rfl ?_
        refine g_iload_n 115 (gd rfl) rfl rfl ?_
        refine g_dup2 116 (gd rfl) rfl rfl rfl ?_
        refine g_iaload 117 (gd rfl) rfl (n := 33) rfl (in_ix iy rfl) (fun z1 e1 => ?_)
        rw [hpc] at e1
        refine g_aload_n 118 (gd rfl) rfl rfl ?_
        refine g_getA (q2 := 42) 121 (gd rfl) rfl rfl rfl rfl ?_
        refine g_iload_n 122 (gd rfl) rfl rfl ?_
        refine g_iconst 1 123 (gd rfl) rfl rfl ?_
        refine g_isub 124 (gd rfl) rfl (fun z2 e2 => ?_)
        have t2 := t_sub e2 iy (in_c 1 rfl) rfl
        have iz2 := in_sub 0 31 e2 iy (in_c 1 rfl) rfl rfl
        have hzc : z2.toNatClampNeg = p := by have := cl z2 iz2.1; omega
        refine g_iaload 125 (gd rfl) rfl (n := 33) rfl (in_ix iz2 rfl) (fun z3 e3 => ?_)
        rw [hzc] at e3
        rw [← e1] at ku
        rw [← e3] at kv
        have iz1 : In z1 0 160 := ⟨by omega, by omega⟩
        have iz3 : In z3 0 160 := ⟨by omega, by omega⟩
        refine g_iadd 126 (gd rfl) rfl (fun z4 e4 => ?_)
        have t4 := t_add e4 iz1 iz3 rfl
        have iz4 : In z4 0 160 := ⟨by omega, by omega⟩
        refine g_iastore 127 (gd rfl) rfl (n := 33) rfl (in_ix iy rfl) ?_
        have hJ1 := rng_sI (q := 42) (j := y.toNatClampNeg) hJ rfl iz4
        refine g_aload_n 128 (gd rfl) rfl rfl ?_
        refine g_getA (q2 := 44) 131 (gd rfl) rfl rfl rfl rfl ?_
        refine g_iload_n 132 (gd rfl) rfl rfl ?_
        refine g_dup2 133 (gd rfl) rfl rfl rfl ?_
        refine g_iaload 134 (gd rfl) rfl (n := 33) rfl (in_ix iy rfl) (fun z5 e5 => ?_)
        have e5 : z5 = t.1 44 y.toNatClampNeg := e5
        rw [hpc] at e5
        refine g_aload_n 135 (gd rfl) rfl rfl ?_
        refine g_getA (q2 := 44) 138 (gd rfl) rfl rfl rfl rfl ?_
        refine g_iload_n 139 (gd rfl) rfl rfl ?_
        refine g_iconst 1 140 (gd rfl) rfl rfl ?_
        refine g_isub 141 (gd rfl) rfl (fun z6 e6 => ?_)
        have t6 := t_sub e6 iy (in_c 1 rfl) rfl
        have iz6 := in_sub 0 31 e6 iy (in_c 1 rfl) rfl rfl
        have hzc6 : z6.toNatClampNeg = p := by have := cl z6 iz6.1; omega
        refine g_iaload 142 (gd rfl) rfl (n := 33) rfl (in_ix iz6 rfl) (fun z7 e7 => ?_)
        have e7 : z7 = t.1 44 z6.toNatClampNeg := e7
        rw [hzc6] at e7
        rw [← e5] at ku
        rw [← e7] at kv
        have iz5 : In z5 0 160 := ⟨by omega, by omega⟩
        have iz7 : In z7 0 160 := ⟨by omega, by omega⟩
        refine g_iadd 143 (gd rfl) rfl (fun z8 e8 => ?_)
        have t8 := t_add e8 iz5 iz7 rfl
        have iz8 : In z8 0 160 := ⟨by omega, by omega⟩
        refine g_iastore 144 (gd rfl) rfl (n := 33) rfl (in_ix iy rfl) ?_
        have hJ2 := rng_sI (q := 44) (j := y.toNatClampNeg) hJ1 rfl iz8
        refine g_iinc 147 (gd rfl) rfl rfl (Nat.le_of_ble_eq_true rfl) (fun z e => ?_)
        refine g_goto 104 (gd rfl) rfl ?_
        have ez := t_add e iy (in_c 1 rfl) rfl
        refine gg_w (by omega) (gg_f (gf_cons rfl (gf_cons rfl gf_nil)) (ih _ z hJ2 (fr_sI rfl (fr_sI rfl hK)) hV h4 h5 h3 hM (by omega) (by omega) (fun u hu2 => ?_) (by omega)))
        have hu3 := hu u hu2
        have g1 : (upd (t.1 42) y.toNatClampNeg z4 u).toInt = (if (u : Int) < z.toInt then pr F T (u + 1) else cn F (u : Int) T) := by
          rw [hpc, up_at]
          by_cases b : u = p + 1
          · subst b
            rw [if_pos rfl, if_pos (by omega)]
            omega
          · rw [if_neg b, hu3.1]
            by_cases b2 : (u : Int) < y.toInt
            · rw [if_pos b2, if_pos (by omega)]
            · rw [if_neg b2, if_neg (by omega)]
        have g2 : (upd (t.1 44) y.toNatClampNeg z8 u).toInt = (if (u : Int) < z.toInt then pr G T (u + 1) else cn G (u : Int) T) := by
          rw [hpc, up_at]
          by_cases b : u = p + 1
          · subst b
            rw [if_pos rfl, if_pos (by omega)]
            omega
          · rw [if_neg b, hu3.2]
            by_cases b2 : (u : Int) < y.toInt
            · rw [if_pos b2, if_pos (by omega)]
            · rw [if_neg b2, if_neg (by omega)]
        exact ⟨g1, g2⟩
  -- the first loop
  have ct62 : ∀ (k : Nat) (t : GS) (y : Int32), Rng t → Fr fm_106_32 s t → t.2.2.1 32 4 = s.2.2.1 32 0 → t.1 34 = f4 → t.1 35 = f5 → (t.2.2.1 32 3).toInt = (T : Int) → MSK f4 f5 (t.1 39) (t.1 40) (t.1 41) y.toInt.toNat → 0 ≤ y.toInt → y.toInt ≤ (T : Int) → (∀ u : Nat, u ≤ 32 → (t.1 42 u).toInt = cn F (u : Int) y.toInt.toNat ∧ (t.1 44 u).toInt = cn G (u : Int) y.toInt.toNat) → (T : Int) - y.toInt < (k : Int) → GG Z (d - 1) 106 post (gx xp) (30000 + k * 100) 62 (fun j => xlook j [(0, .ref (A 32)), (1, .int y)]) [] (WW Z A t ++ ex) 0 0 := by
    intro k
    induction k with
    | zero => intro t y hJ hK hV h4 h5 h3 hM y0 y1 hu hm; omega
    | succ k ih =>
      intro t y hJ hK hV h4 h5 h3 hM y0 y1 hu hm
      refine gg_w (M := 30000 + k * 100 + 100) (by omega) ?_
      refine g_iload_n 63 (gd rfl) rfl rfl ?_
      refine g_aload_n 64 (gd rfl) rfl rfl ?_
      refine g_getI 67 (gd rfl) rfl rfl rfl (fun z0 e0 => ?_)
      rw [← e0] at h3
      refine g_cmp_ge 70 102 (gd rfl) rfl rfl (fun c => ?_) (fun c => ?_)
      · have ey : y.toInt.toNat = T := by omega
        rw [ey] at hu hM
        refine g_iconst 1 103 (gd rfl) rfl rfl ?_
        refine g_istore_n 104 (gd rfl) rfl (Nat.le_of_ble_eq_true rfl) ?_
        refine gg_w (by omega) (gg_f (gf_cons rfl (gf_cons rfl gf_nil)) (ct104 33 t (Int32.ofInt 1) hJ hK hV h4 h5 (by rw [← e0]; exact h3) hM (by omega) (by omega) (fun u hu2 => ?_) (by omega)))
        have hu3 := hu u hu2
        rw [h01]
        by_cases b : (u : Int) < 1
        · have b0 : u = 0 := by omega
          subst b0
          rw [if_pos b, if_pos b]
          have d1 : pr F T (0 + 1) = 0 + cn F ((0 : Nat) : Int) T := rfl
          have d2 : pr G T (0 + 1) = 0 + cn G ((0 : Nat) : Int) T := rfl
          rw [d1, d2]
          exact ⟨by omega, by omega⟩
        · rw [if_neg b, if_neg b]
          exact hu3
      · have iy : In y 0 159 := ⟨y0, by omega⟩
        obtain ⟨p, hp⟩ : ∃ p : Nat, y.toInt = (p : Int) := ⟨y.toInt.toNat, by omega⟩
        have hp1 : y.toInt.toNat = p := by omega
        have hpc : y.toNatClampNeg = p := by have := cl y y0; omega
        have hp2 : p < 160 := by omega
        rw [hp1] at hu hM
        refine g_aload_n 71 (gd rfl) rfl rfl ?_
        refine g_getA (q2 := 34) 74 (gd rfl) rfl rfl rfl rfl ?_
        refine g_iload_n 75 (gd rfl) rfl rfl ?_
        refine g_iaload 76 (gd rfl) rfl (n := 160) rfl (in_ix iy rfl) (fun z1 e1 => ?_)
        rw [h4, hpc] at e1
        refine g_iconst (-1) 77 (gd rfl) rfl rfl ?_
        refine g_cmp_eq 80 96 (gd rfl) rfl rfl (fun c1 => ?_) (fun c1 => ?_)
        · have hneg : (f4 p).toInt = -1 := by rw [← e1]; exact c1
          have m1 : F p = -1 := by rw [aF p hp2]; exact hneg
          have m2 : G p = -1 := bG p hp2 hneg
          refine g_iinc 99 (gd rfl) rfl rfl (Nat.le_of_ble_eq_true rfl) (fun z e => ?_)
          refine g_goto 62 (gd rfl) rfl ?_
          have ez := t_add e iy (in_c 1 rfl) rfl
          refine gg_w (by omega) (gg_f (gf_cons rfl (gf_cons rfl gf_nil)) (ih t z hJ hK hV h4 h5 (by rw [← e0]; exact h3) (by rw [show z.toInt.toNat = p + 1 by omega]; exact msk_n hM (by rw [← hF]; exact m1)) (by omega) (by omega) (fun u hu2 => ?_) (by omega)))
          have e9 : z.toInt.toNat = p + 1 := by omega
          have hu3 := hu u hu2
          rw [e9, cn_miss (by omega), cn_miss (by omega)]
          exact hu3
        · have q1 := r4 p hp2
          have q2 := r5 p hp2
          have iz1 : In z1 0 31 := ⟨by rw [e1]; rw [e1] at c1; omega, by rw [e1]; omega⟩
          obtain ⟨w, hw⟩ : ∃ w : Nat, z1.toInt = (w : Int) := ⟨z1.toInt.toNat, by obtain ⟨a, b⟩ := iz1; omega⟩
          have hwc : z1.toNatClampNeg = w := by have := cl z1 iz1.1; omega
          have hw31 : w ≤ 31 := by obtain ⟨a, b⟩ := iz1; omega
          have hFp : F p = (w : Int) := by rw [aF p hp2, ← e1, hw]
          have hnn : (f4 p).toInt ≠ -1 := by rw [← e1]; rw [hm1] at c1; exact c1
          refine g_aload_n 81 (gd rfl) rfl rfl ?_
          refine g_aload_n 82 (gd rfl) rfl rfl ?_
          refine g_getA (q2 := 34) 85 (gd rfl) rfl rfl rfl rfl ?_
          refine g_iload_n 86 (gd rfl) rfl rfl ?_
          refine g_iaload 87 (gd rfl) rfl (n := 160) rfl (in_ix iy rfl) (fun z2 e2 => ?_)
          rw [h4, hpc] at e2
          have e2 : z1 = z2 := e1.trans e2.symm
          subst e2
          refine g_aload_n 88 (gd rfl) rfl rfl ?_
          refine g_getA (q2 := 35) 91 (gd rfl) rfl rfl rfl rfl ?_
          refine g_iload_n 92 (gd rfl) rfl rfl ?_
          refine g_iaload 93 (gd rfl) rfl (n := 160) rfl (in_ix iy rfl) (fun z3 e3 => ?_)
          rw [h5, hpc] at e3
          have iz3 : In z3 0 31 := ⟨by rw [e3]; omega, by rw [e3]; omega⟩
          obtain ⟨x, hx⟩ : ∃ x : Nat, z3.toInt = (x : Int) := ⟨z3.toInt.toNat, by obtain ⟨a, b⟩ := iz3; omega⟩
          have hxc : z3.toNatClampNeg = x := by have := cl z3 iz3.1; omega
          have hx31 : x ≤ 31 := by obtain ⟨a, b⟩ := iz3; omega
          have hGp : G p = (x : Int) := by rw [aG p hp2 hnn, ← e3, hx]
          have a1 := (hu w (by omega)).1
          have a2 := cn_le F (w : Int) p
          have a3 := cn_0 F (w : Int) p
          have b1 := (hu x (by omega)).2
          have b2 := cn_le G (x : Int) p
          have b3 := cn_0 G (x : Int) p
          refine g_callv (X := _) (As := [.int z1, .int z3]) (r := []) (b := A 32) (q := 32) 96 (gd rfl) rfl rfl rfl rfl rfl (ww_o rfl) (Nat.le_of_ble_eq_true rfl) (Nat.zero_le _) (Nat.zero_le _) (x_107_32 (by omega) hJ iz1 iz3 (by rw [hwc]; exact ⟨by omega, by omega⟩) (by rw [hxc]; exact ⟨by omega, by omega⟩)) (fun e u h => h) (fun v u h => ?_)
          obtain ⟨t2, hJ2, uF, rfl, rfl, u4, u5, u3, uo, ui, ute⟩ := h
          show GG _ _ _ _ _ _ _ _ [] _ _ _
          refine g_iinc 99 (gd rfl) rfl rfl (Nat.le_of_ble_eq_true rfl) (fun z e => ?_)
          refine g_goto 62 (gd rfl) rfl ?_
          have ez := t_add e iy (in_c 1 rfl) rfl
          refine gg_w (by omega) (gg_f (gf_cons rfl (gf_cons rfl gf_nil)) (ih t2 z hJ2 (fr_tr rfl hK uF) (by rw [u3]; exact hV) (by rw [u4, h4]) (by rw [u5, h5]) (by rw [u3, ← e0]; exact h3) (by rw [show z.toInt.toNat = p + 1 by omega]; exact msk_s hM (by rw [← hF]; exact hFp) (by rw [← hG]; exact hGp) hw hx (by omega) (by omega) ute) (by omega) (by omega) (fun u hu2 => ?_) (by omega)))
          have e9 : z.toInt.toNat = p + 1 := by omega
          have hu3 := hu u hu2
          rw [e9, uo, ui, hwc, hxc, up_at, up_at]
          have tw : (t.1 42 w + Int32.ofInt 1).toInt = (t.1 42 w).toInt + 1 := by
            have := t_add (x := t.1 42 w) (y := Int32.ofInt 1) rfl (a := 0) (b := 159) ⟨by omega, by omega⟩ (in_c 1 rfl) rfl
            rw [this, h01]
          have tx : (t.1 44 x + Int32.ofInt 1).toInt = (t.1 44 x).toInt + 1 := by
            have := t_add (x := t.1 44 x) (y := Int32.ofInt 1) rfl (a := 0) (b := 159) ⟨by omega, by omega⟩ (in_c 1 rfl) rfl
            rw [this, h01]
          constructor
          · by_cases b : u = w
            · subst b
              rw [if_pos rfl, tw, cn_hit hFp]
              omega
            · rw [if_neg b, hu3.1, cn_miss (by rw [hFp]; omega)]
          · by_cases b : u = x
            · subst b
              rw [if_pos rfl, tx, cn_hit hGp]
              omega
            · rw [if_neg b, hu3.2, cn_miss (by rw [hGp]; omega)]
  refine g_enter2 (k := 106) (N := 60000) (by omega) rfl (Nat.le_of_ble_eq_true rfl) ?_
  refine g_aload_n 1 (gd rfl) rfl rfl ?_
  refine g_getI 4 (gd rfl) rfl rfl rfl (fun z1 e1 => ?_)
  refine g_aload_n 5 (gd rfl) rfl rfl ?_
  refine g_getI 8 (gd rfl) rfl rfl rfl (fun z2 e2 => ?_)
  have i2 := inv_F hI 0 4000 rfl e2
  refine g_cmp_ne 11 12 (gd rfl) rfl rfl (fun c => ?_) (fun c => ?_)
  · refine g_aload_n 13 (gd rfl) rfl rfl ?_
    refine g_aload_n 14 (gd rfl) rfl rfl ?_
    refine g_getI 17 (gd rfl) rfl rfl rfl (fun z3 e3 => ?_)
    have i3 := inv_F hI 0 4000 rfl e3
    refine g_putI 20 (gd rfl) rfl rfl rfl rfl ?_
    have hI1 := rng_sF (q := 32) (j := 4) hI.1 rfl (in_w (-1) 4000 i3 rfl)
    refine g_aload_n 21 (gd rfl) rfl rfl ?_
    refine g_getA (q2 := 39) 24 (gd rfl) rfl rfl rfl rfl ?_
    refine g_iconst 0 25 (gd rfl) rfl rfl ?_
    refine g_calls (As := [.ref (A 39), .int (Int32.ofInt 0)]) (r := []) 28 (gd rfl) rfl rfl rfl rfl rfl (Nat.le_of_ble_eq_true rfl) (Nat.zero_le _) (Nat.zero_le _) (x_417 (q := 39) (n := 32) (by omega) rfl (by decide)) (fun v u h => ?_)
    obtain ⟨g1, rfl, rfl, hg1⟩ := h
    show GG _ _ _ _ _ _ _ _ [] _ _ _
    have hI2 := rng_sA (q := 39) (g := g1) hI1 (fun i hi => by rw [hg1 i hi]; exact (in_w (-2147483648) 2147483647 (in_c 0 rfl) rfl : In (Int32.ofInt 0) (-2147483648) 2147483647))
    refine g_aload_n 29 (gd rfl) rfl rfl ?_
    refine g_getA (q2 := 40) 32 (gd rfl) rfl rfl rfl rfl ?_
    refine g_iconst 0 33 (gd rfl) rfl rfl ?_
    refine g_calls (As := [.ref (A 40), .int (Int32.ofInt 0)]) (r := []) 36 (gd rfl) rfl rfl rfl rfl rfl (Nat.le_of_ble_eq_true rfl) (Nat.zero_le _) (Nat.zero_le _) (x_417 (q := 40) (n := 32) (by omega) rfl (by decide)) (fun v u h => ?_)
    obtain ⟨g2, rfl, rfl, hg2⟩ := h
    show GG _ _ _ _ _ _ _ _ [] _ _ _
    have hI3 := rng_sA (q := 40) (g := g2) hI2 (fun i hi => by rw [hg2 i hi]; exact (in_w (-2147483648) 2147483647 (in_c 0 rfl) rfl : In (Int32.ofInt 0) (-2147483648) 2147483647))
    refine g_aload_n 37 (gd rfl) rfl rfl ?_
    refine g_getA (q2 := 41) 40 (gd rfl) rfl rfl rfl rfl ?_
    refine g_iconst 0 41 (gd rfl) rfl rfl ?_
    refine g_calls (As := [.ref (A 41), .int (Int32.ofInt 0)]) (r := []) 44 (gd rfl) rfl rfl rfl rfl rfl (Nat.le_of_ble_eq_true rfl) (Nat.zero_le _) (Nat.zero_le _) (x_417 (q := 41) (n := 32) (by omega) rfl (by decide)) (fun v u h => ?_)
    obtain ⟨g3, rfl, rfl, hg3⟩ := h
    show GG _ _ _ _ _ _ _ _ [] _ _ _
    have hI4 := rng_sA (q := 41) (g := g3) hI3 (fun i hi => by rw [hg3 i hi]; exact (in_w (-2147483648) 2147483647 (in_c 0 rfl) rfl : In (Int32.ofInt 0) (-2147483648) 2147483647))
    refine g_aload_n 45 (gd rfl) rfl rfl ?_
    refine g_getA (q2 := 42) 48 (gd rfl) rfl rfl rfl rfl ?_
    refine g_iconst 0 49 (gd rfl) rfl rfl ?_
    refine g_calls (As := [.ref (A 42), .int (Int32.ofInt 0)]) (r := []) 52 (gd rfl) rfl rfl rfl rfl rfl (Nat.le_of_ble_eq_true rfl) (Nat.zero_le _) (Nat.zero_le _) (x_417 (q := 42) (n := 33) (by omega) rfl (by decide)) (fun v u h => ?_)
    obtain ⟨g4, rfl, rfl, hg4⟩ := h
    show GG _ _ _ _ _ _ _ _ [] _ _ _
    have hI5 := rng_sA (q := 42) (g := g4) hI4 (fun i hi => by rw [hg4 i hi]; exact (in_w 0 160 (in_c 0 rfl) rfl : In (Int32.ofInt 0) 0 160))
    refine g_aload_n 53 (gd rfl) rfl rfl ?_
    refine g_getA (q2 := 44) 56 (gd rfl) rfl rfl rfl rfl ?_
    refine g_iconst 0 57 (gd rfl) rfl rfl ?_
    refine g_calls (As := [.ref (A 44), .int (Int32.ofInt 0)]) (r := []) 60 (gd rfl) rfl rfl rfl rfl rfl (Nat.le_of_ble_eq_true rfl) (Nat.zero_le _) (Nat.zero_le _) (x_417 (q := 44) (n := 33) (by omega) rfl (by decide)) (fun v u h => ?_)
    obtain ⟨g5, rfl, rfl, hg5⟩ := h
    show GG _ _ _ _ _ _ _ _ [] _ _ _
    have hI6 := rng_sA (q := 44) (g := g5) hI5 (fun i hi => by rw [hg5 i hi]; exact (in_w 0 160 (in_c 0 rfl) rfl : In (Int32.ofInt 0) 0 160))
    have fz : ∀ (g : Nat → Int32), (∀ j, j < 33 → g j = Int32.ofInt 0) → ∀ u : Nat, u ≤ 32 → (g u).toInt = 0 := fun g hg u hu => by rw [hg u (by omega)]; rfl
    refine g_iconst 0 61 (gd rfl) rfl rfl ?_
    refine g_istore_n 62 (gd rfl) rfl (Nat.le_of_ble_eq_true rfl) ?_
    refine gg_w (by omega) (gg_f (gf_cons rfl (gf_cons rfl gf_nil)) (ct62 161 _ (Int32.ofInt 0) hI6 (fr_sA rfl (fr_sA rfl (fr_sA rfl (fr_sA rfl (fr_sA rfl (fr_sF rfl fr_rf)))))) ((sF_get (s := s) (q := 32) (j := 4) (x := z3)).symm.trans e3) hf4.symm hf5.symm hT (msk_0 hg1 hg2 hg3) (by omega) (by omega) (fun u hu2 => ?_) (by omega)))
    have o1 : (g4 u).toInt = cn F (u : Int) (Int32.ofInt 0).toInt.toNat := fz g4 hg4 u hu2
    have o2 : (g5 u).toInt = cn G (u : Int) (Int32.ofInt 0).toInt.toNat := fz g5 hg5 u hu2
    exact ⟨o1, o2⟩
  · exact g_return (gd rfl) rfl (hP _ _ ⟨s, hI, fr_rf, by rw [← e1, ← e2]; exact c, rfl, rfl⟩)
end
section
/-! a bit of a row, and the least one -/
def hasB (x y : Int32) : Prop := ((x >>> (y &&& 31)) &&& Int32.ofInt 1).toInt = 1
theorem sh_1 : ∀ k : Fin 32, (Int32.ofNat k.val &&& 31 : Int32) = Int32.ofNat k.val := by decide +kernel
theorem sh_2 : ∀ k : Fin 32, (Int32.ofNat k.val).toBitVec.smod 32#32 = BitVec.ofNat 32 k.val := by decide +kernel
theorem has_bit {x y : Int32} {k : Nat} (hy : y.toInt = (k : Int)) (hk : k < 32) : hasB x y ↔ x.toBitVec.getLsbD k = true := by
  have e : y = Int32.ofNat k := Int32.toInt_inj.mp (by rw [hy]; exact (Int32.toInt_ofNat_of_lt (by omega)).symm)
  have e1 : (y &&& 31 : Int32) = Int32.ofNat k := by rw [e]; exact sh_1 ⟨k, hk⟩
  unfold hasB
  rw [e1]
  have e2 : ((x >>> Int32.ofNat k) &&& Int32.ofInt 1).toBitVec = (x.toBitVec.sshiftRight k) &&& 1#32 := by
    show (x.toBitVec.sshiftRight' ((Int32.ofNat k).toBitVec.smod 32#32)) &&& (Int32.ofInt 1).toBitVec = _
    rw [sh_2 ⟨k, hk⟩, BitVec.sshiftRight_eq']
    have e3 : (BitVec.ofNat 32 k).toNat = k := by
      rw [BitVec.toNat_ofNat]
      exact Nat.mod_eq_of_lt (by omega)
    rw [e3]
    rfl
  have e4 : ((x >>> Int32.ofNat k) &&& Int32.ofInt 1).toInt = ((x.toBitVec.sshiftRight k) &&& 1#32).toInt := congrArg BitVec.toInt e2
  rw [e4, BitVec.and_one_eq_setWidth_ofBool_getLsbD, BitVec.getLsbD_sshiftRight]
  have e5 : (!decide (32 ≤ 0) && if k + 0 < 32 then x.toBitVec.getLsbD (k + 0) else x.toBitVec.msb) = x.toBitVec.getLsbD k := by
    rw [if_pos (by omega)]
    simp
  rw [e5]
  cases x.toBitVec.getLsbD k <;> decide
section GH
variable {Z : AmZ} {d : Nat} {ws : va_W} {X : AmX}
theorem x_311 {x0 x1 : Int32} (hd : 1 ≤ d) : GC Z d 311 [.int x0, .int x1] ws 0 0 (fun v u => u = ws ∧ ((hasB x0 x1 ∧ v = some (.int (Int32.ofInt 1))) ∨ (¬ hasB x0 x1 ∧ v = some (.int (Int32.ofInt 0))))) X := by
  intro post xp hP hX
  refine g_enter2 (k := 311) (N := 50) (by omega) rfl (Nat.le_of_ble_eq_true rfl) ?_
  refine g_iload_n 1 (gd rfl) rfl rfl ?_
  refine g_iload_n 2 (gd rfl) rfl rfl ?_
  refine g_ishr 3 (gd rfl) rfl (fun z1 e1 => ?_)
  refine g_iconst 1 4 (gd rfl) rfl rfl ?_
  refine g_iand 5 (gd rfl) rfl (fun z2 e2 => ?_)
  refine g_iconst 1 6 (gd rfl) rfl rfl ?_
  have e3 : z2.toInt = 1 ↔ hasB x0 x1 := by rw [e2, e1]; exact Iff.rfl
  refine g_cmp_ne 9 13 (gd rfl) rfl rfl (fun c => ?_) (fun c => ?_)
  · refine g_iconst 0 14 (gd rfl) rfl rfl ?_
    exact g_ireturn (gd rfl) rfl (nb01 (in_w 0 1 (in_c 0 rfl) rfl)) (hP _ _ ⟨rfl, Or.inr ⟨fun h => c (e3.mpr h), rfl⟩⟩)
  · refine g_iconst 1 10 (gd rfl) rfl rfl ?_
    refine g_goto 14 (gd rfl) rfl ?_
    exact g_ireturn (gd rfl) rfl (nb01 (in_w 0 1 (in_c 1 rfl) rfl)) (hP _ _ ⟨rfl, Or.inl ⟨e3.mp c, rfl⟩⟩)
theorem k_327n {x0 : Int32} (hd : 2 ≤ d) (hx : x0.toInt ≠ 0) : GC Z d 327 [.int x0] ws 0 0 (fun v u => ∃ z : Int32, v = some (.int z) ∧ u = ws ∧ In z 0 31 ∧ bt x0 z.toNatClampNeg = true) X := by
  intro post xp hP hX
  obtain ⟨w, hw, hb, -⟩ := low32 hx
  have ct : ∀ (k : Nat) (y : Int32), 0 ≤ y.toInt → y.toInt ≤ (w : Int) → (w : Int) - y.toInt < (k : Int) → GG Z (d - 1) 327 post (gx xp) (10 + k * 20) 2 (fun j => xlook j [(0, .int x0), (1, .int y)]) [] ws 0 0 := by
    intro k
    induction k with
    | zero => intro y h0 h1 hm; omega
    | succ k ih =>
      intro y h0 h1 hm
      refine gg_w (M := 10 + k * 20 + 20) (by omega) ?_
      refine g_iload_n 3 (gd rfl) rfl rfl ?_
      refine g_iload_n 4 (gd rfl) rfl rfl ?_
      refine g_calls (As := [.int x0, .int y]) (r := []) 7 (gd rfl) rfl rfl rfl rfl rfl (Nat.le_of_ble_eq_true rfl) (Nat.zero_le _) (Nat.zero_le _) (x_311 (by omega)) (fun v u h => ?_)
      obtain ⟨rfl, h⟩ := h
      rcases h with ⟨hh, rfl⟩ | ⟨hh, rfl⟩
      · show GG _ _ _ _ _ _ _ _ [.int (Int32.ofInt 1)] _ _ _
        refine g_if_ne 10 16 (gd rfl) rfl rfl (fun c => ?_) (fun c => ?_)
        · refine g_iload_n 17 (gd rfl) rfl rfl ?_
          exact g_ireturn (gd rfl) rfl rfl (hP _ _ ⟨y, rfl, rfl, ⟨h0, by omega⟩, by have hk : y.toInt = (y.toNatClampNeg : Int) := by { show y.toInt = ((y.toInt.toNat : Nat) : Int); omega }; exact (has_bit hk (by omega)).mp hh⟩)
        · exact zn_eq c (in_c 1 rfl) rfl
      · show GG _ _ _ _ _ _ _ _ [.int (Int32.ofInt 0)] _ _ _
        refine g_if_ne 10 16 (gd rfl) rfl rfl (fun c => ?_) (fun c => ?_)
        · exact zn_ne c (in_c 0 rfl) rfl
        · have hne : y.toInt ≠ (w : Int) := fun e => hh ((has_bit e hw).mpr hb)
          refine g_iinc 13 (gd rfl) rfl rfl (Nat.le_of_ble_eq_true rfl) (fun z e => ?_)
          refine g_goto 2 (gd rfl) rfl ?_
          have ez := t_add (a := 0) (b := 31) e ⟨h0, by omega⟩ (in_c 1 rfl) rfl
          have h01 : (Int32.ofInt 1).toInt = 1 := rfl
          exact gg_w (by omega) (gg_f (gf_cons rfl (gf_cons rfl gf_nil)) (ih z (by omega) (by omega) (by omega)))
  refine g_enter2 (k := 327) (N := 1000) (by omega) rfl (Nat.le_of_ble_eq_true rfl) ?_
  refine g_iconst 0 1 (gd rfl) rfl rfl ?_
  refine g_istore_n 2 (gd rfl) rfl (Nat.le_of_ble_eq_true rfl) ?_
  have h00 : (Int32.ofInt 0).toInt = 0 := rfl
  exact gg_w (by omega) (gg_f (gf_cons rfl (gf_cons rfl gf_nil)) (ct 33 (Int32.ofInt 0) (by omega) (by omega) (by omega)))
end GH
end
section
/-! rows of bits as sets of nodes: bt a bit, cb how many -/
def cbf (f : Nat → Bool) : Nat → Nat
  | 0 => 0
  | n + 1 => cbf f n + (f n).toNat
def cb (x : Int32) : Nat := cbf (bt x) 32
theorem cbf_le (f : Nat → Bool) : ∀ n, cbf f n ≤ n
  | 0 => Nat.le_refl 0
  | n + 1 => by
    have h := cbf_le f n
    have h2 := Bool.toNat_le (f n)
    show cbf f n + (f n).toNat ≤ n + 1
    omega
theorem cbf_out {f g : Nat → Bool} {n : Nat} (h : ∀ k, k < n → g k = f k) : cbf g n = cbf f n := by
  induction n with
  | zero => rfl
  | succ n ih =>
    show cbf g n + (g n).toNat = cbf f n + (f n).toNat
    rw [ih (fun k hk => h k (by omega)), h n (by omega)]
theorem cbf_clr {f g : Nat → Bool} {u : Nat} (hf : f u = true) (hu : g u = false) : ∀ {n}, u < n → (∀ k, k < n → k ≠ u → g k = f k) → cbf g n + 1 = cbf f n := by
  intro n
  induction n with
  | zero => intro h; omega
  | succ n ih =>
    intro h hg
    show cbf g n + (g n).toNat + 1 = cbf f n + (f n).toNat
    by_cases e : u = n
    · subst e
      rw [cbf_out (fun k hk => hg k (by omega) (by omega)), hf, hu]
      rfl
    · have := ih (by omega) (fun k hk => hg k (by omega))
      rw [hg n (by omega) (fun z => e z.symm)]
      omega
theorem cbf_pos {f : Nat → Bool} : ∀ {n}, 0 < cbf f n → ∃ k, k < n ∧ f k = true := by
  intro n
  induction n with
  | zero => intro h; exact absurd h (Nat.lt_irrefl 0)
  | succ n ih =>
    intro h
    cases e : f n with
    | true => exact ⟨n, by omega, e⟩
    | false =>
      have h : 0 < cbf f n + (f n).toNat := h
      rw [e] at h
      obtain ⟨k, a, b⟩ := ih h
      exact ⟨k, by omega, b⟩
theorem cbf_mono {f g : Nat → Bool} : ∀ {n}, (∀ k, k < n → f k = true → g k = true) → cbf f n ≤ cbf g n := by
  intro n
  induction n with
  | zero => intro _; exact Nat.le_refl 0
  | succ n ih =>
    intro h
    have h1 := ih (fun k hk => h k (by omega))
    show cbf f n + (f n).toNat ≤ cbf g n + (g n).toNat
    cases e : f n with
    | false => have : false.toNat = 0 := rfl; omega
    | true => rw [h n (by omega) e]; omega
section SETS
variable {x y z z1 z2 u : Int32} {k : Nat} {a b : Int}
theorem cb_le (x : Int32) : cb x ≤ 32 := cbf_le _ 32
theorem i_nat (hu : In u 0 31) : ∃ k : Nat, k < 32 ∧ u = Int32.ofNat k ∧ u.toNatClampNeg = k ∧ u.toInt = (k : Int) := by
  obtain ⟨h1, h2⟩ := hu
  refine ⟨u.toInt.toNat, by omega, ?_, rfl, by omega⟩
  exact Int32.toInt_inj.mp (by rw [Int32.toInt_ofNat_of_lt (by omega)]; omega)
theorem shl_all : ∀ k : Fin 32, (Int32.ofInt 1 <<< (Int32.ofNat k.val &&& 31) : Int32).toBitVec = BitVec.twoPow 32 k.val := by decide +kernel
theorem bt_one (e : z = Int32.ofInt 1 <<< (u &&& 31)) (hu : In u 0 31) : bt z k = decide (k = u.toNatClampNeg) := by
  obtain ⟨j, h1, h2, h3, -⟩ := i_nat hu
  unfold bt
  rw [h3, e, h2, shl_all ⟨j, h1⟩, BitVec.getLsbD_twoPow]
  by_cases c : j = k
  · subst c; simp [h1]
  · have c2 : ¬ k = j := fun w => c w.symm
    simp [c, c2]
theorem bt_lt (h : bt x k = true) : k < 32 := by
  unfold bt at h
  exact Nat.lt_of_not_le fun c => by rw [BitVec.getLsbD_of_ge _ _ c] at h; cases h
theorem bt_and (e : z = x &&& y) : bt z k = (bt x k && bt y k) := by
  unfold bt
  rw [e, show (x &&& y).toBitVec = x.toBitVec &&& y.toBitVec from rfl, BitVec.getLsbD_and]
theorem bt_or (e : z = x ||| y) : bt z k = (bt x k || bt y k) := by
  unfold bt
  rw [e, show (x ||| y).toBitVec = x.toBitVec ||| y.toBitVec from rfl, BitVec.getLsbD_or]
theorem bt_not (e : z = x ^^^ Int32.ofInt (-1)) (hk : k < 32) : bt z k = !(bt x k) := by
  unfold bt
  rw [e, show (x ^^^ Int32.ofInt (-1)).toBitVec = x.toBitVec ^^^ BitVec.allOnes 32 from rfl, BitVec.getLsbD_xor, BitVec.getLsbD_allOnes]
  simp [hk]
theorem bt_and1 (e : z = x &&& y) (h : bt z k = true) : bt x k = true := by
  rw [bt_and e, Bool.and_eq_true] at h
  exact h.1
theorem bt_and2 (e : z = x &&& y) (h : bt z k = true) : bt y k = true := by
  rw [bt_and e, Bool.and_eq_true] at h
  exact h.2
theorem bt_clr (e1 : z1 = Int32.ofInt 1 <<< (u &&& 31)) (e2 : z2 = z1 ^^^ Int32.ofInt (-1)) (e : z = x &&& z2) (hu : In u 0 31) (hk : k < 32) : bt z k = (bt x k && !(decide (k = u.toNatClampNeg))) := by
  rw [bt_and e, bt_not e2 hk, bt_one e1 hu]
theorem bt_set (e1 : z1 = Int32.ofInt 1 <<< (u &&& 31)) (e : z = x ||| z1) (hu : In u 0 31) : bt z k = (bt x k || decide (k = u.toNatClampNeg)) := by
  rw [bt_or e, bt_one e1 hu]
theorem cb_clr (e1 : z1 = Int32.ofInt 1 <<< (u &&& 31)) (e2 : z2 = z1 ^^^ Int32.ofInt (-1)) (e : z = x &&& z2) (hu : In u 0 31) (hx : bt x u.toNatClampNeg = true) : cb z + 1 = cb x := by
  have hl := bt_lt hx
  refine cbf_clr hx ?_ hl (fun k hk hne => ?_)
  · rw [bt_clr e1 e2 e hu hl]; simp
  · rw [bt_clr e1 e2 e hu hk]; simp [hne]
theorem cb_z : cb 0 = 0 := by decide +kernel
theorem cb_nz (h : 0 < cb x) : x.toInt ≠ 0 := fun e => by
  rw [Int32.toInt_inj.mp (show x.toInt = (0 : Int32).toInt from e), cb_z] at h
  exact Nat.lt_irrefl 0 h
theorem nz_cb (h : x.toInt ≠ 0) : 0 < cb x := by
  obtain ⟨k, h1, h2, -⟩ := low32 h
  have := cbf_clr (f := bt x) (g := fun j => bt x j && !(decide (j = k))) (u := k) h2 (by simp) h1 (fun j _ hne => by simp [hne])
  show 0 < cbf (bt x) 32
  omega
theorem cb_m1 : cb (Int32.ofInt (-1)) = 32 := by decide +kernel
theorem cb_all0 : ∀ k : Fin 32, cb ((Int32.ofInt 1 <<< (Int32.ofNat k.val &&& 31) : Int32) - Int32.ofInt 1) = k.val := by decide +kernel
theorem cb_all (e1 : z1 = Int32.ofInt 1 <<< (u &&& 31)) (e : z = z1 - Int32.ofInt 1) (hu : In u 0 31) : (cb z : Int) = u.toInt := by
  obtain ⟨j, h1, h2, -, h4⟩ := i_nat hu
  rw [h4, e, e1, h2, cb_all0 ⟨j, h1⟩]
theorem bt_m1 (hk : k < 32) : bt (Int32.ofInt (-1)) k = true := by
  unfold bt
  rw [show (Int32.ofInt (-1)).toBitVec = BitVec.allOnes 32 from rfl, BitVec.getLsbD_allOnes]
  simp [hk]
theorem bt_all0 : ∀ k j : Fin 32, bt ((Int32.ofInt 1 <<< (Int32.ofNat k.val &&& 31) : Int32) - Int32.ofInt 1) j.val = decide (j.val < k.val) := by decide +kernel
theorem bt_all (e1 : z1 = Int32.ofInt 1 <<< (u &&& 31)) (e : z = z1 - Int32.ofInt 1) (hu : In u 0 31) (hk : k < 32) : bt z k = decide ((k : Int) < u.toInt) := by
  obtain ⟨j, h1, h2, -, h4⟩ := i_nat hu
  rw [h4, e, e1, h2, bt_all0 ⟨j, h1⟩ ⟨k, hk⟩]
  simp
theorem bt_z : bt 0 k = false := by
  unfold bt
  rw [show (0 : Int32).toBitVec = 0#32 from rfl, BitVec.getLsbD_zero]
/-- a bit as the code asks for it: x >> u & 1 -/
theorem bt_ask (e1 : z1 = x >>> (u &&& 31)) (e : z = z1 &&& Int32.ofInt 1) (hu : In u 0 31) : z.toInt = if bt x u.toNatClampNeg then 1 else 0 := by
  obtain ⟨j, h1, h2, h3, h4⟩ := i_nat hu
  have hb := has_bit (x := x) (y := u) h4 h1
  unfold hasB at hb
  rw [h3]
  have h01 := in_and2 e (in_c 1 rfl) rfl
  rw [← e1, ← e] at hb
  unfold bt
  cases c : x.toBitVec.getLsbD j with
  | true => rw [if_pos rfl]; exact hb.mpr c
  | false =>
    rw [if_neg (by decide)]
    have : z.toInt ≠ 1 := fun w => by rw [hb.mp w] at c; cases c
    obtain ⟨a1, a2⟩ := h01
    omega
theorem bt_yes (e1 : z1 = x >>> (u &&& 31)) (e : z = z1 &&& Int32.ofInt 1) (hu : In u 0 31) (c : z.toInt = (Int32.ofInt 1).toInt) : bt x u.toNatClampNeg = true := by
  have h := bt_ask e1 e hu
  cases hb : bt x u.toNatClampNeg with
  | true => rfl
  | false =>
    rw [hb] at h
    rw [h] at c
    exact absurd c (by decide)
theorem bt_no (e1 : z1 = x >>> (u &&& 31)) (e : z = z1 &&& Int32.ofInt 1) (hu : In u 0 31) (c : z.toInt ≠ (Int32.ofInt 1).toInt) : bt x u.toNatClampNeg = false := by
  have h := bt_ask e1 e hu
  cases hb : bt x u.toNatClampNeg with
  | false => rfl
  | true =>
    rw [hb] at h
    exact absurd h c
theorem bt_ext (h : ∀ k, k < 32 → bt x k = bt y k) : x = y := by
  refine Int32.toBitVec_inj.mp (BitVec.eq_of_getLsbD_eq fun i hi => ?_)
  exact h i hi
theorem cb_ss (h : ∀ k, bt x k = true → bt y k = true) (hn : x ≠ y) : cb x < cb y := by
  refine Nat.lt_of_not_le fun c => hn ?_
  refine bt_ext fun k hk => ?_
  cases e : bt x k with
  | true => rw [h k e]
  | false =>
    cases e2 : bt y k with
    | false => rfl
    | true =>
      have h1 := cbf_clr (f := bt y) (g := fun j => bt y j && !(decide (j = k))) (u := k) e2 (by simp) hk (fun j _ hne => by simp [hne])
      have h2 : cb x ≤ cbf (fun j => bt y j && !(decide (j = k))) 32 := cbf_mono fun j _ hj => by
        have hne : j ≠ k := fun w => by rw [w, e] at hj; cases hj
        simp [h j hj, hne]
      have h3 : cb y = cbf (bt y) 32 := rfl
      omega
/-- a search by sets: what is still to be tried at a depth -/
def sW (f : Nat → Int32) : Nat → Nat
  | 0 => 0
  | n + 1 => sW f n + (2 ^ (cb (f n) + 1) - 1)
theorem sW_one (f : Nat → Int32) {n : Nat} (hn : n = 1) : sW f n < 1099511627776 := by
  subst hn
  have hc := cb_le (f 0)
  have h := Nat.pow_le_pow_right (n := 2) (by decide) (show cb (f 0) + 1 ≤ 33 by omega)
  have e : sW f 1 = 0 + (2 ^ (cb (f 0) + 1) - 1) := rfl
  rw [e]
  generalize 2 ^ (cb (f 0) + 1) = p at h ⊢
  have h2 : (2 : Nat) ^ 33 = 8589934592 := rfl
  omega
theorem sW_out {f g : Nat → Int32} {n : Nat} (h : ∀ k, k < n → g k = f k) : sW g n = sW f n := by
  induction n with
  | zero => rfl
  | succ n ih =>
    show sW g n + (2 ^ (cb (g n) + 1) - 1) = sW f n + (2 ^ (cb (f n) + 1) - 1)
    rw [ih (fun k hk => h k (by omega)), h n (by omega)]
theorem sW_pop (f : Nat → Int32) (n : Nat) : sW f n < sW f (n + 1) := by
  show sW f n < sW f n + (2 ^ (cb (f n) + 1) - 1)
  have := Nat.one_lt_two_pow (n := cb (f n) + 1) (by omega)
  omega
theorem sW_push {f g : Nat → Int32} {n : Nat} (h : ∀ k, k < n → g k = f k) (h1 : cb (g n) + 1 = cb (f n)) (h2 : cb (g (n + 1)) ≤ cb (g n)) : sW g (n + 2) < sW f (n + 1) := by
  show sW g n + (2 ^ (cb (g n) + 1) - 1) + (2 ^ (cb (g (n + 1)) + 1) - 1) < sW f n + (2 ^ (cb (f n) + 1) - 1)
  rw [sW_out h, ← h1]
  have a1 := Nat.pow_le_pow_right (show 0 < 2 by decide) (show cb (g (n + 1)) + 1 ≤ cb (g n) + 1 by omega)
  have a2 : 2 ^ (cb (g n) + 1 + 1) = 2 * 2 ^ (cb (g n) + 1) := by rw [Nat.pow_succ]; omega
  have a3 := Nat.one_lt_two_pow (n := cb (g (n + 1)) + 1) (by omega)
  omega
theorem bt_nz (h : bt x k = true) : x.toInt ≠ 0 := fun e => by
  rw [Int32.toInt_inj.mp (show x.toInt = (0 : Int32).toInt from e), bt_z] at h
  cases h
theorem sI_q {s : GS} {q j : Nat} {v : Int32} : (sI s q j v).1 q = upd (s.1 q) j v := by simp [sI]
theorem sI_p {s : GS} {p q j : Nat} {v : Int32} (h : Nat.beq p q = false) : (sI s q j v).1 p = s.1 p := by
  show (if p = q then upd (s.1 q) j v else s.1 p) = s.1 p
  rw [if_neg (Nat.ne_of_beq_eq_false h)]
theorem pt_up {f : Nat → Int32} {i : Nat} {v : Int32} {P : Nat → Int32 → Prop} {D : Nat → Prop} (hx : D i → P i v) (h : ∀ j, j ≠ i → D j → P j (f j)) : ∀ j, D j → P j (upd f i v j) := by
  intro j hj
  unfold upd
  by_cases e : j = i
  · rw [if_pos e]
    rw [e] at hj ⊢
    exact hx hj
  · rw [if_neg e]
    exact h j e hj
theorem bo_up {f : Nat → Int32} {D : Nat → Prop} {i : Nat} {v : Int32} (h : ∀ j, D j → bt (f j) j = true) (hx : x = f i) (hz : v = x ||| y) : ∀ j, D j → bt (upd f i v j) j = true :=
  pt_up (P := fun j v => bt v j = true) (fun hD => by rw [bt_or hz, hx, h i hD]; rfl) (fun j _ hD => h j hD)
theorem pt_ne {v : Int32} (hb : bt x u.toNatClampNeg = false) (hx : bt x v.toNatClampNeg = true) : u.toInt ≠ v.toInt := fun e => by
  rw [Int32.toInt_inj.mp e, hx] at hb
  cases hb
/-- the search for a clique: one node taken, one set more -/
theorem fc_ix {f : Nat → Int32} (hy : In y 0 b) (hd : ∀ d : Nat, (d : Int) ≤ y.toInt → cb (f d) + d ≤ 32) (hx : x = f y.toNatClampNeg) (hn : x.toInt ≠ 0) : In y 0 31 := by
  obtain ⟨h1, h2⟩ := hy
  have h := hd y.toNatClampNeg (by show ((y.toInt.toNat : Nat) : Int) ≤ y.toInt; omega)
  rw [← hx] at h
  have hp := nz_cb hn
  have e : y.toNatClampNeg = y.toInt.toNat := rfl
  exact ⟨h1, by omega⟩
theorem fc_push {f : Nat → Int32} {w c d : Int32} (hy : In y 0 31) (hd : ∀ d : Nat, (d : Int) ≤ y.toInt → cb (f d) + d ≤ 32) (hx : x = f y.toNatClampNeg) (hz : z.toInt = y.toInt + 1) (hw : w.toInt = y.toInt + 1) (h1 : cb c + 1 = cb x) (h2 : cb d ≤ cb c) :
    (∀ k : Nat, (k : Int) ≤ w.toInt → cb (upd (upd f y.toNatClampNeg c) z.toNatClampNeg d k) + k ≤ 32) ∧ sW (upd (upd f y.toNatClampNeg c) z.toNatClampNeg d) (w.toInt + 1).toNat < sW f (y.toInt + 1).toNat := by
  obtain ⟨y1, y2⟩ := hy
  have ey : (y.toNatClampNeg : Int) = y.toInt := by show ((y.toInt.toNat : Nat) : Int) = y.toInt; omega
  have ez : z.toNatClampNeg = y.toNatClampNeg + 1 := by show z.toInt.toNat = y.toInt.toNat + 1; omega
  have hc := hd y.toNatClampNeg (by omega)
  rw [← hx] at hc
  constructor
  · intro k hk
    unfold upd
    by_cases e : k = z.toNatClampNeg
    · rw [if_pos e]
      omega
    · rw [if_neg e]
      by_cases e2 : k = y.toNatClampNeg
      · rw [if_pos e2]
        omega
      · rw [if_neg e2]
        exact hd k (by omega)
  · have a1 : (w.toInt + 1).toNat = y.toNatClampNeg + 2 := by omega
    have a2 : (y.toInt + 1).toNat = y.toNatClampNeg + 1 := by omega
    rw [a1, a2]
    refine sW_push (fun k hk => ?_) ?_ ?_
    · unfold upd
      rw [if_neg (by omega), if_neg (by omega)]
    · unfold upd
      rw [if_neg (by omega), if_pos rfl, ← hx]
      exact h1
    · unfold upd
      rw [ez, if_pos rfl, if_neg (by omega), if_pos rfl]
      exact h2
theorem lowB_clr (h : lowB x k) (e1 : z1 = x - Int32.ofInt 1) (e : z = x &&& z1) {j : Nat} : bt z j = (bt x j && !(decide (j = k))) := by
  have hn : (-x).toBitVec = ~~~(x.toBitVec - 1#32) := by
    show -x.toBitVec = _
    rw [BitVec.not_sub_one_eq_not_add_one, BitVec.neg_eq_not_add]
  have h2 : x.toBitVec &&& ~~~(x.toBitVec - 1#32) = BitVec.twoPow 32 k := by
    rw [← hn]
    exact congrArg Int32.toBitVec h
  have h3 := congrArg (fun b => b.getLsbD j) h2
  simp only [BitVec.getLsbD_and, BitVec.getLsbD_not, BitVec.getLsbD_twoPow] at h3
  rw [bt_and e]
  have hz : bt z1 j = (x.toBitVec - 1#32).getLsbD j := by rw [e1]; rfl
  rw [hz]
  by_cases hj : j < 32
  · have hb : bt x j = x.toBitVec.getLsbD j := rfl
    rw [hb]
    by_cases c : j = k
    · subst c
      simp [hj] at h3 ⊢
      exact fun _ => h3.2
    · have c2 : ¬ k = j := fun w => c w.symm
      simp [hj, c2] at h3
      cases hx : x.toBitVec.getLsbD j with
      | false => simp
      | true =>
        have h4 : (x.toBitVec - 1#32).getLsbD j = true := by
          rw [BitVec.getLsbD_eq_getElem hj] at hx ⊢
          exact h3 hx
        simp [c, h4]
  · have hb : bt x j = false := by
      cases hq : bt x j with
      | false => rfl
      | true => exact absurd (bt_lt hq) hj
    rw [hb]
    simp
/-- ways back: from each node that was met but s one comes back to one that was met -/
def RV (f : Nat → Int32) (seen s : Int32) : Prop := ∀ j : Nat, bt seen j = true → (j : Int) ≠ s.toInt → In (f j) 0 31 ∧ bt seen (f j).toNatClampNeg = true
theorem rv_upd {f : Nat → Int32} {i : Nat} {v s : Int32} (h : RV f x s) (hi : bt x i = false) : RV (upd f i v) x s := by
  intro j hj hs
  have hne : j ≠ i := fun w => by rw [w, hi] at hj; cases hj
  unfold upd
  rw [if_neg hne]
  exact h j hj hs
theorem rv_or {f : Nat → Int32} {s : Int32} (h : RV f x s) (hy : ∀ j, bt y j = true → f j = u) (hu : In u 0 31) (hb : bt x u.toNatClampNeg = true) (e : z = x ||| y) : RV f z s := by
  intro j hj hs
  rw [bt_or e, Bool.or_eq_true] at hj
  rcases hj with hj | hj
  · have h1 := h j hj hs
    exact ⟨h1.1, by rw [bt_or e, h1.2]; rfl⟩
  · rw [hy j hj]
    exact ⟨hu, by rw [bt_or e, hb]; rfl⟩
theorem rv_1 {f : Nat → Int32} {s : Int32} (e : z = Int32.ofInt 1 <<< (s &&& 31)) (hs : In s 0 31) : RV f z s := by
  intro j hj hn
  rw [bt_one e hs] at hj
  have := of_decide_eq_true hj
  exfalso
  apply hn
  rw [this]
  obtain ⟨h1, h2⟩ := hs
  show ((s.toInt.toNat : Nat) : Int) = s.toInt
  omega
theorem bt_orl (e : z = x ||| y) (h : bt x k = true) : bt z k = true := by rw [bt_or e, h]; rfl
theorem bt_orr (e : z = x ||| y) (h : bt y k = true) : bt z k = true := by rw [bt_or e, h]; cases bt x k <;> rfl
theorem bt_andn (e2 : z2 = y ^^^ Int32.ofInt (-1)) (e : z = x &&& z2) (h : bt z k = true) : bt y k = false := by
  have h1 := bt_and2 e h
  rw [bt_not e2 (bt_lt h)] at h1
  cases hy : bt y k with
  | false => rfl
  | true => rw [hy] at h1; cases h1
theorem lsb_bit (hx : x.toInt ≠ 0) (e1 : z1 = -x) (e : z = x &&& z1) : ∃ k, bt z k = true := by
  obtain ⟨k, h1, -, h3, -⟩ := low32x hx
  refine ⟨k, ?_⟩
  unfold lowB at h3
  rw [e, e1, h3]
  show (BitVec.twoPow 32 k).getLsbD k = true
  rw [BitVec.getLsbD_twoPow]
  simp [h1]
theorem cb_and_le (e : z = x &&& y) : cb z ≤ cb x := cbf_mono (fun _ _ h => bt_and1 e h)
end SETS
end
section
/-! the reference's log and graphs -/
theorem cz_out {w v : Nat → Int32} {n : Nat} (h : ∀ k, k < n → v k = w k) : cz v n = cz w n := by
  induction n with
  | zero => rfl
  | succ n ih =>
    show cz v n + _ = cz w n + _
    rw [ih (fun k hk => h k (by omega)), h n (by omega)]
theorem cz_mono {w : Nat → Int32} {n m : Nat} (h : n ≤ m) : cz w n ≤ cz w m := by
  induction m with
  | zero =>
    obtain rfl : n = 0 := by omega
    exact Nat.le_refl _
  | succ m ih =>
    by_cases e : n = m + 1
    · rw [e]; exact Nat.le_refl _
    · have h1 := ih (by omega)
      show cz w n ≤ cz w m + (if (w m).toInt = 0 then 1 else 0)
      omega
/-- row k may be applied to graph g -/
def AQ (s : GS) (k g : Nat) : Prop := RW (s.1 118) (s.1 119) (s.1 120) (s.1 121) k ∧ (s.1 110 g).toInt = (cz (s.1 118) k : Int) ∧ ((s.1 118 k).toInt = 0 → (s.1 110 g).toInt ≤ 31) ∧ (s.1 110 g).toInt ≤ 32
/-- what applying row k to graph g does -/
def AP (s t : GS) (k g : Nat) : Prop := (t.1 110 g).toInt = (cz (s.1 118) (k + 1) : Int) ∧ (∀ j, j ≠ g → t.1 110 j = s.1 110 j) ∧ (KE (s.1 112) (s.1 113) (s.1 114) (s.1 110) g → KE (t.1 112) (t.1 113) (t.1 114) (t.1 110) g) ∧ ∀ i : Nat, (i < 160 * g ∨ 160 * g + 160 ≤ i) → t.1 112 i = s.1 112 i ∧ t.1 113 i = s.1 113 i ∧ t.1 114 i = s.1 114 i
section REF
variable {s t : GS} {k g : Nat} {x y z v : Int32} {a b : Int}
theorem aq_n (h : AQ s k g) (hk : (s.1 118 k).toInt = 0) : In (s.1 110 g) 0 31 := ⟨by rw [h.2.1]; omega, h.2.2.1 hk⟩
theorem cz_s0 (hk : (s.1 118 k).toInt = 0) : cz (s.1 118) (k + 1) = cz (s.1 118) k + 1 := by
  show cz (s.1 118) k + (if (s.1 118 k).toInt = 0 then 1 else 0) = _
  rw [if_pos hk]
theorem cz_s1 (hk : (s.1 118 k).toInt ≠ 0) : cz (s.1 118) (k + 1) = cz (s.1 118) k := by
  show cz (s.1 118) k + (if (s.1 118 k).toInt = 0 then 1 else 0) = _
  rw [if_neg hk, Nat.add_zero]
theorem ap_same (h : AQ s k g) (hk : (s.1 118 k).toInt ≠ 0) (e0 : t.1 110 = s.1 110) (e2 : t.1 112 = s.1 112) (e3 : t.1 113 = s.1 113) (e4 : t.1 114 = s.1 114) : AP s t k g := by
  unfold AP
  rw [e0, e2, e3, e4, cz_s1 hk]
  exact ⟨h.2.1, fun _ _ => rfl, fun h => h, fun _ _ => ⟨rfl, rfl, rfl⟩⟩
theorem ap_node (h : AQ s k g) (hk : (s.1 118 k).toInt = 0) (e0 : t.1 110 = upd (s.1 110) g v) (hv : v.toInt = (s.1 110 g).toInt + 1) (e2 : t.1 112 = s.1 112) (e3 : t.1 113 = s.1 113) (e4 : t.1 114 = s.1 114) : AP s t k g := by
  have hg : (upd (s.1 110) g v) g = v := by unfold upd; rw [if_pos rfl]
  unfold AP
  rw [e0, e2, e3, e4, cz_s0 hk, hg]
  refine ⟨by rw [hv, h.2.1]; omega, fun j hj => by unfold upd; rw [if_neg hj], fun hE a ha h1 => ?_, fun _ _ => ⟨rfl, rfl, rfl⟩⟩
  rw [hg]
  obtain ⟨p1, p2⟩ := hE a ha h1
  omega
theorem ap_take {i : Nat} (h : AQ s k g) (hk : (s.1 118 k).toInt ≠ 0) (e0 : t.1 110 = s.1 110) (e2 : t.1 112 = upd (s.1 112) i v) (hv : v.toInt = 0) (hi : 160 * g ≤ i ∧ i < 160 * g + 160) (e3 : t.1 113 = s.1 113) (e4 : t.1 114 = s.1 114) : AP s t k g := by
  unfold AP
  rw [e0, e2, e3, e4, cz_s1 hk]
  refine ⟨h.2.1, fun _ _ => rfl, fun hE a ha h1 => ?_, fun j hj => ⟨by unfold upd; rw [if_neg (by omega)], rfl, rfl⟩⟩
  unfold upd at h1
  by_cases e : 160 * g + a = i
  · rw [if_pos e] at h1; exact absurd hv h1
  · rw [if_neg e] at h1; exact hE a ha h1
theorem ap_arc {i : Nat} {b c d : Int32} (h : AQ s k g) (hk : (s.1 118 k).toInt = 1) (e0 : t.1 110 = s.1 110) (e2 : t.1 112 = upd (s.1 112) i b) (hi : 160 * g ≤ i ∧ i < 160 * g + 160) (e3 : t.1 113 = upd (s.1 113) i c) (e4 : t.1 114 = upd (s.1 114) i d) (hc : c = s.1 120 k) (hd : d = s.1 121 k) : AP s t k g := by
  obtain ⟨r1, r2, r3⟩ := h.1.2.1 hk
  unfold AP
  rw [e0, e2, e3, e4, cz_s1 (by omega)]
  refine ⟨h.2.1, fun _ _ => rfl, fun hE a ha h1 => ?_, fun j hj => ⟨by unfold upd; rw [if_neg (by omega)], by unfold upd; rw [if_neg (by omega)], by unfold upd; rw [if_neg (by omega)]⟩⟩
  unfold upd at h1 ⊢
  by_cases e : 160 * g + a = i
  · rw [if_pos e, if_pos e, hc, hd, h.2.1]; exact ⟨r1, r3⟩
  · rw [if_neg e] at h1; rw [if_neg e, if_neg e]; exact hE a ha h1
/-- what a change must be, of the newest graph -/
def MK (s : GS) (w a b c : Int32) : Prop := (w.toInt = 0 → a.toInt ≤ 25 ∧ (s.1 110 0).toInt ≤ 31) ∧ (w.toInt = 1 → b.toInt < (s.1 110 0).toInt ∧ 0 ≤ c.toInt ∧ c.toInt < (s.1 110 0).toInt) ∧ (w.toInt = 3 → b.toInt = 1 → 0 ≤ c.toInt) ∧ (w.toInt = 3 → b.toInt ≠ 0 → b.toInt ≠ 1 → 0 ≤ c.toInt ∧ c.toInt ≤ 25) ∧ (w.toInt = 4 → a.toInt < (s.1 110 0).toInt ∧ b.toInt ≤ 25)
/-- the row written, the rest as it was -/
theorem mk_aq {w a b c n : Int32} (hI : Inv s) (q : MK s w a b c) (hn : n = s.2.2.1 109 9) (h0 : t.1 110 = s.1 110) (hw : t.1 118 = upd (s.1 118) n.toNatClampNeg w) (ha : t.1 119 = upd (s.1 119) n.toNatClampNeg a) (hb : t.1 120 = upd (s.1 120) n.toNatClampNeg b) (hc : t.1 121 = upd (s.1 121) n.toNatClampNeg c) : AQ t n.toNatClampNeg 0 := by
  have hk := hI.2.2.2.2
  unfold KR at hk
  rw [mI_at rfl, mI_at rfl, mI_at rfl, mI_at rfl, mI_at rfl, mF_at rfl, ← hn] at hk
  obtain ⟨-, k2, ⟨k3, -⟩, -⟩ := hk
  have cw : cz (t.1 118) n.toNatClampNeg = cz (s.1 118) n.toNatClampNeg := cz_out (fun j hj => by rw [hw]; unfold upd; rw [if_neg (by omega)])
  have w1 : t.1 118 n.toNatClampNeg = w := by rw [hw]; unfold upd; rw [if_pos rfl]
  have a1 : t.1 119 n.toNatClampNeg = a := by rw [ha]; unfold upd; rw [if_pos rfl]
  have b1 : t.1 120 n.toNatClampNeg = b := by rw [hb]; unfold upd; rw [if_pos rfl]
  have c1 : t.1 121 n.toNatClampNeg = c := by rw [hc]; unfold upd; rw [if_pos rfl]
  have k2 : (s.1 110 0).toInt = (cz (s.1 118) n.toNatClampNeg : Int) := k2
  unfold AQ RW
  rw [w1, a1, b1, c1, cw, h0, ← k2]
  obtain ⟨q0, q1, q2, q3, q4⟩ := q
  exact ⟨⟨fun h => (q0 h).1, q1, q2, q3, q4⟩, rfl, fun h => (q0 h).2, k3.2⟩
/-- after a change -/
theorem mk_kr {u r : GS} {w a b c n m : Int32} (hI : Inv s) (hn : n = s.2.2.1 109 9) (hn4 : In n 0 3999) (hq : AQ t n.toNatClampNeg 0) (h0 : t.1 110 = s.1 110) (h2 : t.1 112 = s.1 112) (h3 : t.1 113 = s.1 113) (h4 : t.1 114 = s.1 114) (hw : t.1 118 = upd (s.1 118) n.toNatClampNeg w) (ha : t.1 119 = upd (s.1 119) n.toNatClampNeg a) (hb : t.1 120 = upd (s.1 120) n.toNatClampNeg b) (hc : t.1 121 = upd (s.1 121) n.toNatClampNeg c)
    (hp : AP t u n.toNatClampNeg 0) (u8 : u.1 118 = t.1 118) (u9 : u.1 119 = t.1 119) (u0 : u.1 120 = t.1 120) (u1 : u.1 121 = t.1 121) (r0 : r.1 = u.1) (rm : m = r.2.2.1 109 9) (hm : m.toInt = n.toInt + 1) (rl : (r.2.2.1 109 19).toInt = 160 * (r.2.2.1 109 18).toInt ∧ r.2.2.1 109 20 = r.1 110 (r.2.2.1 109 18).toNatClampNeg) : KR (mI r) (mF r) := by
  have hk := hI.2.2.2.2
  unfold KR at hk ⊢
  rw [mI_at rfl, mI_at rfl, mI_at rfl, mI_at rfl, mI_at rfl, mI_at rfl, mI_at rfl, mI_at rfl, mF_at rfl, mF_at rfl, mF_at rfl, mF_at rfl] at hk ⊢
  rw [← hn] at hk
  rw [← rm, r0]
  obtain ⟨k1, k2, ⟨k3, k4⟩, k5, k6, -⟩ := hk
  obtain ⟨p1, p2, p3, p4⟩ := hp
  obtain ⟨n1, n2⟩ := hn4
  have en : (n.toNatClampNeg : Int) = n.toInt := by show ((n.toInt.toNat : Nat) : Int) = n.toInt; omega
  have em : m.toInt.toNat = n.toNatClampNeg + 1 := by omega
  have cw : cz (t.1 118) n.toNatClampNeg = cz (s.1 118) n.toNatClampNeg := cz_out (fun j hj => by rw [hw]; unfold upd; rw [if_neg (by omega)])
  have hle : cz (t.1 118) (n.toNatClampNeg + 1) ≤ 32 := by
    show cz (t.1 118) n.toNatClampNeg + (if (t.1 118 n.toNatClampNeg).toInt = 0 then 1 else 0) ≤ 32
    by_cases e : (t.1 118 n.toNatClampNeg).toInt = 0
    · rw [if_pos e]
      have := hq.2.2.1 e
      have := hq.2.1
      omega
    · rw [if_neg e]
      have := hq.2.1
      have := hq.2.2.2
      omega
  refine ⟨fun j hj => ?_, ?_, ⟨?_, ?_⟩, p3 (by rw [h0, h2, h3, h4]; exact k5), ?_, rl.1, by rw [← r0]; exact rl.2⟩
  · rw [u8, u9, u0, u1]
    by_cases e : j = n.toNatClampNeg
    · rw [e]; exact hq.1
    · have hj2 := k1 j (by omega)
      have cj : cz (t.1 118) j = cz (s.1 118) j := cz_out (fun i hi => by rw [hw]; unfold upd; rw [if_neg (by omega)])
      unfold RW at hj2 ⊢
      rw [cj, hw, ha, hb, hc]
      unfold upd
      rw [if_neg e, if_neg e, if_neg e, if_neg e]
      exact hj2
  · rw [em, u8]; exact p1
  · exact ⟨by rw [p1]; omega, by rw [p1]; omega⟩
  · rw [p2 1 (by decide), h0]; exact k4
  · intro i hi h1
    obtain ⟨x1, x2, x3⟩ := p4 (160 * 1 + i) (Or.inr (by omega))
    rw [x1, h2] at h1
    rw [x2, x3, p2 1 (by decide), h0, h3, h4]
    exact k6 i hi h1
theorem kr_row (hI : Inv s) (hk : (k : Int) < (s.2.2.1 109 9).toInt) : RW (s.1 118) (s.1 119) (s.1 120) (s.1 121) k := by
  have h := hI.2.2.2.2.1 k
  rw [mI_at rfl, mI_at rfl, mI_at rfl, mI_at rfl, mF_at rfl] at h
  exact h hk
theorem kr_cz (hI : Inv s) (hk : (k : Int) ≤ (s.2.2.1 109 9).toInt) : (cz (s.1 118) k : Int) ≤ (s.1 110 0).toInt ∧ (s.1 110 0).toInt ≤ 32 := by
  have h := hI.2.2.2.2.2
  rw [mI_at rfl, mI_at rfl, mF_at rfl] at h
  have h1 := cz_mono (w := s.1 118) (show k ≤ (s.2.2.1 109 9).toInt.toNat by omega)
  exact ⟨by rw [h.1]; omega, h.2.1.1.2⟩
/-- while a version is made anew -/
theorem vw_aq {x : Int32} (hI : Inv s) (hx : In x 0 3999) (hc : x.toInt < (s.2.2.1 109 9).toInt) (e8 : t.1 118 = s.1 118) (e9 : t.1 119 = s.1 119) (e0 : t.1 120 = s.1 120) (e1 : t.1 121 = s.1 121) (hn : (t.1 110 1).toInt = (cz (s.1 118) x.toInt.toNat : Int)) : AQ t x.toNatClampNeg 1 := by
  obtain ⟨x1, x2⟩ := hx
  have hx : x.toNatClampNeg = x.toInt.toNat := rfl
  have a1 := kr_row hI (k := x.toNatClampNeg) (by omega)
  have a2 := kr_cz hI (k := x.toNatClampNeg) (by omega)
  have a3 := kr_cz hI (k := x.toNatClampNeg + 1) (by omega)
  unfold AQ
  rw [e8, e9, e0, e1, hn, hx]
  rw [hx] at a1 a2 a3
  refine ⟨a1, rfl, fun h => ?_, by omega⟩
  rw [cz_s0 h] at a3
  omega
theorem vw_kr {r : GS} {x : Int32} (hI : Inv s) (hx : In x 0 4000) (hc : x.toInt ≤ (s.2.2.1 109 9).toInt) (r8 : r.1 118 = s.1 118) (r9 : r.1 119 = s.1 119) (r0 : r.1 120 = s.1 120) (r1 : r.1 121 = s.1 121) (rc : r.2.2.1 109 9 = s.2.2.1 109 9) (hn : r.1 110 0 = s.1 110 0) (hn1 : (r.1 110 1).toInt = (cz (s.1 118) x.toInt.toNat : Int)) (hlow : ∀ i, i < 160 → r.1 112 i = s.1 112 i ∧ r.1 113 i = s.1 113 i ∧ r.1 114 i = s.1 114 i) (h1 : KE (r.1 112) (r.1 113) (r.1 114) (r.1 110) 1) (rl : (r.2.2.1 109 19).toInt = 160 * (r.2.2.1 109 18).toInt ∧ r.2.2.1 109 20 = r.1 110 (r.2.2.1 109 18).toNatClampNeg) : KR (mI r) (mF r) := by
  have hk := hI.2.2.2.2
  unfold KR at hk ⊢
  rw [mI_at rfl, mI_at rfl, mI_at rfl, mI_at rfl, mI_at rfl, mI_at rfl, mI_at rfl, mI_at rfl, mF_at rfl, mF_at rfl, mF_at rfl, mF_at rfl] at hk ⊢
  obtain ⟨k1, k2, ⟨k3, k4⟩, k5, k6, -⟩ := hk
  obtain ⟨x1, x2⟩ := hx
  have a2 := kr_cz hI (k := x.toInt.toNat) (by omega)
  rw [r8, r9, r0, r1, rc, hn]
  refine ⟨k1, k2, ⟨k3, ⟨by rw [hn1]; omega, by rw [hn1]; omega⟩⟩, fun i hi h => ?_, h1, rl⟩
  obtain ⟨l1, l2, l3⟩ := hlow (160 * 0 + i) (by omega)
  rw [l1] at h
  rw [l2, l3, hn]
  exact k5 i hi h
theorem kr_nn (hI : Inv s) : In (s.1 110 0) 0 32 ∧ In (s.1 110 1) 0 32 := by
  have hk := hI.2.2.2.2.2.2.1
  rw [mI_at rfl] at hk
  exact hk
theorem mk_nn {u : GS} (hI : Inv s) (hq : AQ t k 0) (hp : AP t u k 0) (h0 : t.1 110 = s.1 110) : In (u.1 110 0) 0 32 ∧ In (u.1 110 1) 0 32 := by
  refine ⟨?_, by rw [hp.2.1 1 (by decide), h0]; exact (kr_nn hI).2⟩
  have h1 := hq.2.1
  have h3 := hq.2.2.2
  have h4 := hp.1
  by_cases e : (t.1 118 k).toInt = 0
  · rw [cz_s0 e] at h4
    have := hq.2.2.1 e
    exact ⟨by omega, by omega⟩
  · rw [cz_s1 e] at h4
    exact ⟨by omega, by omega⟩
theorem vw_nn {x : Int32} (hI : Inv s) (hx : 0 ≤ x.toInt) (hc : x.toInt ≤ (s.2.2.1 109 9).toInt) (h0 : t.1 110 0 = s.1 110 0) (h1 : (t.1 110 1).toInt = (cz (s.1 118) x.toInt.toNat : Int)) : In (t.1 110 0) 0 32 ∧ In (t.1 110 1) 0 32 := by
  have a2 := kr_cz hI (k := x.toInt.toNat) (by omega)
  exact ⟨by rw [h0]; exact (kr_nn hI).1, ⟨by omega, by omega⟩⟩
theorem lk_kr {r : GS} (hI : Inv s) (r0 : r.1 = s.1) (rc : r.2.2.1 109 9 = s.2.2.1 109 9) (rl : (r.2.2.1 109 19).toInt = 160 * (r.2.2.1 109 18).toInt ∧ r.2.2.1 109 20 = r.1 110 (r.2.2.1 109 18).toNatClampNeg) : KR (mI r) (mF r) := by
  have hk := hI.2.2.2.2
  unfold KR at hk ⊢
  rw [mI_at rfl, mI_at rfl, mI_at rfl, mI_at rfl, mI_at rfl, mI_at rfl, mI_at rfl, mI_at rfl, mF_at rfl, mF_at rfl, mF_at rfl, mF_at rfl] at hk ⊢
  rw [rc, r0]
  obtain ⟨k1, k2, k3, k4, k5, -⟩ := hk
  exact ⟨k1, k2, k3, k4, k5, rl.1, by rw [← r0]; exact rl.2⟩
def kkok (L : FM) : Bool := krok L && ksok L && qG1 L 2 && qG2 L 2 && qG3 L 2 && qG4 L 2 && qG5 L 2 && qG1 L 32 && qG2 L 32 && qG3 L 32 && qG4 L 32 && qG5 L 32
theorem kk_all {L : FM} (h : KK (mI s) (mF s)) (hF : Fr L s t) (hk : kkok L = true) : KK (mI t) (mF t) := by
  unfold kkok at hk
  simp only [Bool.and_eq_true] at hk
  obtain ⟨⟨⟨⟨⟨⟨⟨⟨⟨⟨⟨a0, a1⟩, b1⟩, b2⟩, b3⟩, b4⟩, b5⟩, c1⟩, c2⟩, c3⟩, c4⟩, c5⟩ := hk
  exact ⟨kk_g h.1 hF b1 b2 b3 b4 b5, kk_g h.2.1 hF c1 c2 c3 c4 c5, kk_s h.2.2.1 hF a1, kk_r h.2.2.2 hF a0⟩
/-- the third graph, on trial: what is known speaks of the first two -/
theorem inv_n2 (h : Inv s) {j : Nat} (hj : 2 ≤ j) : Inv (sI s 110 j v) := by
  have hF : Fr ([110], [], [], []) s (sI s 110 j v) := fr_sI rfl fr_rf
  have hr : KR (mI (sI s 110 j v)) (mF (sI s 110 j v)) := by
    have hk := h.2.2.2.2
    have hg := h.1.2.1 109 18
    have hg : In (s.2.2.1 109 18) 0 1 := hg
    unfold KR KE at hk ⊢
    rw [mI_at rfl, mI_at rfl, mI_at rfl, mI_at rfl, mI_at rfl, mI_at rfl, mI_at rfl, mI_at rfl, mF_at rfl, mF_at rfl, mF_at rfl, mF_at rfl] at hk ⊢
    have e : ∀ i, i < 2 → (sI s 110 j v).1 110 i = s.1 110 i := fun i hi => by rw [sI_q]; unfold upd; rw [if_neg (by omega)]
    have eg : (s.2.2.1 109 18).toNatClampNeg < 2 := by
      show (s.2.2.1 109 18).toInt.toNat < 2
      obtain ⟨g1, g2⟩ := hg
      omega
    have e3 : (sI s 110 j v).1 110 ((sI s 110 j v).2.2.1 109 18).toNatClampNeg = s.1 110 (s.2.2.1 109 18).toNatClampNeg := e _ eg
    rw [e 0 (by decide), e 1 (by decide), e3]
    exact hk
  exact ⟨rng_sI h.1 rfl (i_rng v), kk_g h.2.1 hF rfl rfl rfl rfl rfl, kk_g h.2.2.1 hF rfl rfl rfl rfl rfl, kk_s h.2.2.2.1 hF rfl, hr⟩
theorem inv_t3 (h : Inv s) {j : Nat} (hj : 320 ≤ j) (hv : In v 0 1) : Inv (sI s 112 j v) := by
  have hF : Fr ([112], [], [], []) s (sI s 112 j v) := fr_sI rfl fr_rf
  have hr : KR (mI (sI s 112 j v)) (mF (sI s 112 j v)) := by
    have hk := h.2.2.2.2
    unfold KR KE at hk ⊢
    rw [mI_at rfl, mI_at rfl, mI_at rfl, mI_at rfl, mI_at rfl, mI_at rfl, mI_at rfl, mI_at rfl, mF_at rfl, mF_at rfl, mF_at rfl, mF_at rfl] at hk ⊢
    have e : ∀ i, i < 320 → (sI s 112 j v).1 112 i = s.1 112 i := fun i hi => by rw [sI_q]; unfold upd; rw [if_neg (by omega)]
    obtain ⟨k1, k2, k3, k4, k5, k6⟩ := hk
    refine ⟨k1, k2, k3, fun a ha h1 => ?_, fun a ha h1 => ?_, k6⟩
    · rw [e _ (by omega)] at h1; exact k4 a ha h1
    · rw [e _ (by omega)] at h1; exact k5 a ha h1
  exact ⟨rng_sI h.1 rfl hv, kk_g h.2.1 hF rfl rfl rfl rfl rfl, kk_g h.2.2.1 hF rfl rfl rfl rfl rfl, kk_s h.2.2.2.1 hF rfl, hr⟩
/-- an arc that is there: its ends are nodes of the graph that is looked at -/
theorem ke_n (hI : Inv s) {i : Nat} (h1 : (s.2.2.1 109 19).toInt ≤ (i : Int)) (h2 : (i : Int) < (s.2.2.1 109 19).toInt + 160) (ht : (s.1 112 i).toInt ≠ 0) : (s.1 113 i).toInt < (s.2.2.1 109 20).toInt ∧ (s.1 114 i).toInt < (s.2.2.1 109 20).toInt := by
  have hk := hI.2.2.2.2
  have hg := hI.1.2.1 109 18
  have hg : In (s.2.2.1 109 18) 0 1 := hg
  unfold KR KE at hk
  rw [mI_at rfl, mI_at rfl, mI_at rfl, mI_at rfl, mI_at rfl, mI_at rfl, mI_at rfl, mI_at rfl, mF_at rfl, mF_at rfl, mF_at rfl, mF_at rfl] at hk
  obtain ⟨-, -, -, k4, k5, k6, k7⟩ := hk
  obtain ⟨g1, g2⟩ := hg
  rw [k7]
  by_cases e : (s.2.2.1 109 18).toInt = 0
  · have e2 : (s.2.2.1 109 18).toNatClampNeg = 0 := by show (s.2.2.1 109 18).toInt.toNat = 0; omega
    rw [e2]
    have h := k4 i (by omega)
    rw [show 160 * 0 + i = i by omega] at h
    exact h ht
  · have e2 : (s.2.2.1 109 18).toNatClampNeg = 1 := by show (s.2.2.1 109 18).toInt.toNat = 1; omega
    rw [e2]
    have h := k5 (i - 160) (by omega)
    rw [show 160 * 1 + (i - 160) = i by omega] at h
    exact h ht
/-- of nodes in groups: how many are in one of the first -/
def cgr (f : Nat → Int32) (k : Int) : Nat := cbf (fun v => decide (0 ≤ (f v).toInt ∧ (f v).toInt < k)) 32
theorem cgr_s {f : Nat → Int32} {x y : Int32} (h0 : 0 ≤ x.toInt) (hy : y.toInt = x.toInt + 1) (hv : ∃ v : Nat, v < 32 ∧ f v = x) (h : x.toInt ≤ (cgr f x.toInt : Int)) : y.toInt ≤ (cgr f y.toInt : Int) := by
  obtain ⟨v, v1, v2⟩ := hv
  have h1 := cbf_clr (f := fun w => decide (0 ≤ (f w).toInt ∧ (f w).toInt < y.toInt)) (g := fun w => decide (0 ≤ (f w).toInt ∧ (f w).toInt < y.toInt) && !(decide (w = v))) (u := v) (by simp [v2]; omega) (by simp) v1 (fun w _ hne => by simp [hne])
  have h2 : cgr f x.toInt ≤ cbf (fun w => decide (0 ≤ (f w).toInt ∧ (f w).toInt < y.toInt) && !(decide (w = v))) 32 := cbf_mono fun w _ hw => by
    have hw := of_decide_eq_true hw
    have hne : w ≠ v := fun e => by rw [e, v2] at hw; omega
    simp [hne]
    omega
  have h3 : cgr f y.toInt = cbf (fun w => decide (0 ≤ (f w).toInt ∧ (f w).toInt < y.toInt)) 32 := rfl
  omega
theorem cgr_le (f : Nat → Int32) (k : Int) : cgr f k ≤ 32 := cbf_le _ 32
end REF
end
section
/-! bitCount answers at most 32: byte by byte -/
theorem land_split (q b m c : Nat) (hb : b < 256) (hc : c < 256) : (256 * q + b) &&& (256 * m + c) = 256 * (q &&& m) + (b &&& c) := by
  apply Nat.eq_of_testBit_eq
  intro i
  have hbc : b &&& c < 2 ^ 8 := Nat.lt_of_le_of_lt Nat.and_le_left hb
  have e1 := Nat.testBit_two_pow_mul_add q (i := 8) hb i
  have e2 := Nat.testBit_two_pow_mul_add m (i := 8) hc i
  have e3 := Nat.testBit_two_pow_mul_add (q &&& m) (i := 8) hbc i
  rw [Nat.testBit_and, show 256 * q + b = 2 ^ 8 * q + b from rfl, show 256 * m + c = 2 ^ 8 * m + c from rfl, show 256 * (q &&& m) + (b &&& c) = 2 ^ 8 * (q &&& m) + (b &&& c) from rfl, e1, e2, e3]
  by_cases h : i < 8
  · simp [h]
  · simp [h]
def PA (m n : Nat) : Nat := n - ((n / 2) &&& m)
def PB (m n : Nat) : Nat := (n &&& m) + ((n / 4) &&& m)
def PC (m n : Nat) : Nat := (n + n / 16) &&& m
theorem pa_0 : ∀ (e : Fin 2) (c : Fin 128), (128 * e.val + c.val) &&& 85 = c.val &&& 85 := by decide +kernel
theorem pb_0 : ∀ (e : Fin 4) (c : Fin 64), (64 * e.val + c.val) &&& 51 = c.val &&& 51 := by decide +kernel
theorem pb_1 : ∀ b : Fin 256, PA 85 b.val < 256 ∧ PB 51 (PA 85 b.val) ≤ 68 ∧ PB 51 (PA 85 b.val) % 16 ≤ 4 ∧ PC 15 (PB 51 (PA 85 b.val)) ≤ 8 := by decide +kernel
theorem pa_s (m q b : Nat) (hb : b < 256) : PA (256 * m + 85) (256 * q + b) = 256 * PA m q + PA 85 b := by
  unfold PA
  have e1 : (256 * q + b) / 2 = 256 * (q / 2) + (128 * (q % 2) + b / 2) := by omega
  rw [e1, land_split _ _ _ _ (by omega) (by decide), pa_0 ⟨q % 2, by omega⟩ ⟨b / 2, by omega⟩]
  have h1 : (q / 2) &&& m ≤ q / 2 := Nat.and_le_left
  have h2 : (b / 2) &&& 85 ≤ b / 2 := Nat.and_le_left
  show 256 * q + b - (256 * (q / 2 &&& m) + (b / 2 &&& 85)) = _
  omega
theorem pb_s (m q b : Nat) (hb : b < 256) : PB (256 * m + 51) (256 * q + b) = 256 * PB m q + PB 51 b := by
  unfold PB
  have e1 : (256 * q + b) / 4 = 256 * (q / 4) + (64 * (q % 4) + b / 4) := by omega
  have e2 := pb_0 ⟨q % 4, by omega⟩ ⟨b / 4, by omega⟩
  have e2 : (64 * (q % 4) + b / 4) &&& 51 = (b / 4) &&& 51 := e2
  rw [land_split q b m 51 hb (by decide), e1, land_split (q / 4) (64 * (q % 4) + b / 4) m 51 (by omega) (by decide), e2]
  show 256 * (q &&& m) + (b &&& 51) + (256 * (q / 4 &&& m) + (b / 4 &&& 51)) = _
  omega
theorem pc_s (m q b : Nat) (hb : b ≤ 68) (hq : q % 16 ≤ 4) : PC (256 * m + 15) (256 * q + b) = 256 * PC m q + PC 15 b := by
  unfold PC
  have e1 : 256 * q + b + (256 * q + b) / 16 = 256 * (q + q / 16) + (b + b / 16 + 16 * (q % 16)) := by omega
  rw [e1, land_split _ _ _ _ (by omega) (by decide)]
  have e2 : ∀ x : Nat, x &&& 15 = x % 16 := fun x => Nat.and_two_pow_sub_one_eq_mod x 4
  rw [e2, e2]
  omega
theorem pop_le (n : Nat) (hn : n < 4294967296) : PC 252645135 (PB 858993459 (PA 1431655765 n)) / 1 + 0 = PC 252645135 (PB 858993459 (PA 1431655765 n)) ∧ ∃ a b c d : Nat, a ≤ 8 ∧ b ≤ 8 ∧ c ≤ 8 ∧ d ≤ 8 ∧ PC 252645135 (PB 858993459 (PA 1431655765 n)) = a + 256 * (b + 256 * (c + 256 * d)) := by
  refine ⟨by omega, ?_⟩
  obtain ⟨b0, b1, b2, b3, h0, h1, h2, h3, rfl⟩ : ∃ b0 b1 b2 b3 : Nat, b0 < 256 ∧ b1 < 256 ∧ b2 < 256 ∧ b3 < 256 ∧ n = 256 * (256 * (256 * b3 + b2) + b1) + b0 := ⟨n % 256, n / 256 % 256, n / 65536 % 256, n / 16777216, by omega, by omega, by omega, by omega, by omega⟩
  have p0 : PA 85 b0 < 256 := (pb_1 ⟨b0, h0⟩).1
  have q0 : PB 51 (PA 85 b0) ≤ 68 := (pb_1 ⟨b0, h0⟩).2.1
  have r0 : PB 51 (PA 85 b0) % 16 ≤ 4 := (pb_1 ⟨b0, h0⟩).2.2.1
  have s0 : PC 15 (PB 51 (PA 85 b0)) ≤ 8 := (pb_1 ⟨b0, h0⟩).2.2.2
  have p1 : PA 85 b1 < 256 := (pb_1 ⟨b1, h1⟩).1
  have q1 : PB 51 (PA 85 b1) ≤ 68 := (pb_1 ⟨b1, h1⟩).2.1
  have r1 : PB 51 (PA 85 b1) % 16 ≤ 4 := (pb_1 ⟨b1, h1⟩).2.2.1
  have s1 : PC 15 (PB 51 (PA 85 b1)) ≤ 8 := (pb_1 ⟨b1, h1⟩).2.2.2
  have p2 : PA 85 b2 < 256 := (pb_1 ⟨b2, h2⟩).1
  have q2 : PB 51 (PA 85 b2) ≤ 68 := (pb_1 ⟨b2, h2⟩).2.1
  have r2 : PB 51 (PA 85 b2) % 16 ≤ 4 := (pb_1 ⟨b2, h2⟩).2.2.1
  have s2 : PC 15 (PB 51 (PA 85 b2)) ≤ 8 := (pb_1 ⟨b2, h2⟩).2.2.2
  have p3 : PA 85 b3 < 256 := (pb_1 ⟨b3, h3⟩).1
  have q3 : PB 51 (PA 85 b3) ≤ 68 := (pb_1 ⟨b3, h3⟩).2.1
  have r3 : PB 51 (PA 85 b3) % 16 ≤ 4 := (pb_1 ⟨b3, h3⟩).2.2.1
  have s3 : PC 15 (PB 51 (PA 85 b3)) ≤ 8 := (pb_1 ⟨b3, h3⟩).2.2.2
  have a1 : PA 1431655765 (256 * (256 * (256 * b3 + b2) + b1) + b0) = 256 * (256 * (256 * PA 85 b3 + PA 85 b2) + PA 85 b1) + PA 85 b0 := by
    rw [show (1431655765 : Nat) = 256 * 5592405 + 85 from rfl, pa_s _ _ _ h0, show (5592405 : Nat) = 256 * 21845 + 85 from rfl, pa_s _ _ _ h1, show (21845 : Nat) = 256 * 85 + 85 from rfl, pa_s _ _ _ h2]
  have a2 : PB 858993459 (256 * (256 * (256 * PA 85 b3 + PA 85 b2) + PA 85 b1) + PA 85 b0) = 256 * (256 * (256 * PB 51 (PA 85 b3) + PB 51 (PA 85 b2)) + PB 51 (PA 85 b1)) + PB 51 (PA 85 b0) := by
    rw [show (858993459 : Nat) = 256 * 3355443 + 51 from rfl, pb_s _ _ _ p0, show (3355443 : Nat) = 256 * 13107 + 51 from rfl, pb_s _ _ _ p1, show (13107 : Nat) = 256 * 51 + 51 from rfl, pb_s _ _ _ p2]
  refine ⟨PC 15 (PB 51 (PA 85 b0)), PC 15 (PB 51 (PA 85 b1)), PC 15 (PB 51 (PA 85 b2)), PC 15 (PB 51 (PA 85 b3)), s0, s1, s2, s3, ?_⟩
  have q1' : PB 51 (PA 85 b1) % 16 ≤ 4 := r1
  have q2' : PB 51 (PA 85 b2) % 16 ≤ 4 := r2
  have q3' : PB 51 (PA 85 b3) % 16 ≤ 4 := r3
  rw [a1, a2, show (252645135 : Nat) = 256 * 986895 + 15 from rfl, pc_s _ _ _ q0 (by omega), show (986895 : Nat) = 256 * 3855 + 15 from rfl, pc_s _ _ _ q1 (by omega), show (3855 : Nat) = 256 * 15 + 15 from rfl, pc_s _ _ _ q2 (by omega)]
  omega
theorem ush_n (x : Int32) : (x.toUInt32 >>> ((Int32.ofInt 1).toUInt32 &&& Int32.toUInt32 31)).toInt32.toBitVec.toNat = x.toBitVec.toNat / 2 ∧ (x.toUInt32 >>> ((Int32.ofInt 2).toUInt32 &&& Int32.toUInt32 31)).toInt32.toBitVec.toNat = x.toBitVec.toNat / 4 ∧ (x.toUInt32 >>> ((Int32.ofInt 4).toUInt32 &&& Int32.toUInt32 31)).toInt32.toBitVec.toNat = x.toBitVec.toNat / 16 ∧ (x.toUInt32 >>> ((Int32.ofInt 8).toUInt32 &&& Int32.toUInt32 31)).toInt32.toBitVec.toNat = x.toBitVec.toNat / 256 ∧ (x.toUInt32 >>> ((Int32.ofInt 16).toUInt32 &&& Int32.toUInt32 31)).toInt32.toBitVec.toNat = x.toBitVec.toNat / 65536 := by
  have h : ∀ k : Nat, (x.toBitVec >>> k).toNat = x.toBitVec.toNat / 2 ^ k := fun k => by rw [BitVec.toNat_ushiftRight, Nat.shiftRight_eq_div_pow]
  exact ⟨h 1, h 2, h 4, h 8, h 16⟩
theorem and_n (x y : Int32) : (x &&& y).toBitVec.toNat = x.toBitVec.toNat &&& y.toBitVec.toNat := BitVec.toNat_and _ _
theorem add_n (x y : Int32) (h : x.toBitVec.toNat + y.toBitVec.toNat < 4294967296) : (x + y).toBitVec.toNat = x.toBitVec.toNat + y.toBitVec.toNat := by
  show (x.toBitVec + y.toBitVec).toNat = _
  rw [BitVec.toNat_add]
  exact Nat.mod_eq_of_lt h
theorem sub_n (x y : Int32) (h : y.toBitVec.toNat ≤ x.toBitVec.toNat) : (x - y).toBitVec.toNat = x.toBitVec.toNat - y.toBitVec.toNat := by
  show (x.toBitVec - y.toBitVec).toNat = _
  exact BitVec.toNat_sub_of_le h
theorem bc_le (x : Int32) : In (bc0 x) 0 32 := by
  have hn := x.toBitVec.isLt
  have m5 : (Int32.ofInt 1431655765).toBitVec.toNat = 1431655765 := rfl
  have m3 : (Int32.ofInt 858993459).toBitVec.toNat = 858993459 := rfl
  have mf : (Int32.ofInt 252645135).toBitVec.toNat = 252645135 := rfl
  have m6 : (Int32.ofInt 63).toBitVec.toNat = 63 := rfl
  unfold bc0
  generalize e1 : x - ((x.toUInt32 >>> ((Int32.ofInt 1).toUInt32 &&& Int32.toUInt32 31)).toInt32 &&& Int32.ofInt 1431655765) = v1
  generalize e2 : (v1 &&& Int32.ofInt 858993459) + ((v1.toUInt32 >>> ((Int32.ofInt 2).toUInt32 &&& Int32.toUInt32 31)).toInt32 &&& Int32.ofInt 858993459) = v2
  generalize e3 : (v2 + (v2.toUInt32 >>> ((Int32.ofInt 4).toUInt32 &&& Int32.toUInt32 31)).toInt32) &&& Int32.ofInt 252645135 = v3
  generalize e4 : v3 + (v3.toUInt32 >>> ((Int32.ofInt 8).toUInt32 &&& Int32.toUInt32 31)).toInt32 = v4
  generalize e5 : v4 + (v4.toUInt32 >>> ((Int32.ofInt 16).toUInt32 &&& Int32.toUInt32 31)).toInt32 = v5
  have n1 : v1.toBitVec.toNat = PA 1431655765 x.toBitVec.toNat := by
    rw [← e1, sub_n]
    · rw [and_n, (ush_n x).1, m5]; rfl
    · rw [and_n, (ush_n x).1]
      exact Nat.le_trans Nat.and_le_left (Nat.div_le_self _ _)
  have n2 : v2.toBitVec.toNat = PB 858993459 v1.toBitVec.toNat := by
    have l1 : v1.toBitVec.toNat &&& 858993459 ≤ 858993459 := Nat.and_le_right
    have l2 : (v1.toBitVec.toNat / 4) &&& 858993459 ≤ 858993459 := Nat.and_le_right
    rw [← e2, add_n]
    · rw [and_n, and_n, (ush_n v1).2.1, m3]; rfl
    · rw [and_n, and_n, (ush_n v1).2.1, m3]; omega
  have b2 : v2.toBitVec.toNat ≤ 1717986918 := by
    have l1 : v1.toBitVec.toNat &&& 858993459 ≤ 858993459 := Nat.and_le_right
    have l2 : (v1.toBitVec.toNat / 4) &&& 858993459 ≤ 858993459 := Nat.and_le_right
    rw [n2]
    unfold PB
    omega
  have n3 : v3.toBitVec.toNat = PC 252645135 v2.toBitVec.toNat := by
    rw [← e3, and_n, add_n]
    · rw [(ush_n v2).2.2.1, mf]; rfl
    · rw [(ush_n v2).2.2.1]; omega
  obtain ⟨-, a, b, c, d, ha, hb, hc, hd, he⟩ := pop_le x.toBitVec.toNat (by omega)
  rw [← n1, ← n2, ← n3] at he
  have n4 : v4.toBitVec.toNat = v3.toBitVec.toNat + v3.toBitVec.toNat / 256 := by
    rw [← e4, add_n]
    · rw [(ush_n v3).2.2.2.1]
    · rw [(ush_n v3).2.2.2.1]; omega
  have n5 : v5.toBitVec.toNat = v4.toBitVec.toNat + v4.toBitVec.toNat / 65536 := by
    rw [← e5, add_n]
    · rw [(ush_n v4).2.2.2.2]
    · rw [(ush_n v4).2.2.2.2]; omega
  have n6 : (v5 &&& Int32.ofInt 63).toBitVec.toNat = v5.toBitVec.toNat % 64 := by
    rw [and_n, m6]
    exact Nat.and_two_pow_sub_one_eq_mod _ 6
  have h4 : v4.toBitVec.toNat = (a + b) + 256 * (b + c) + 65536 * (c + d) + 16777216 * d := by
    rw [n4, he]
    omega
  have h5 : v5.toBitVec.toNat = (a + b + c + d) + 64 * (4 * (b + c + d) + 1024 * (c + d) + 262144 * d) := by
    have hq : (a + b + 256 * (b + c) + 65536 * (c + d) + 16777216 * d) / 65536 = c + d + 256 * d := by
      rw [show a + b + 256 * (b + c) + 65536 * (c + d) + 16777216 * d = (a + b + 256 * (b + c)) + 65536 * (c + d + 256 * d) by omega, Nat.add_mul_div_left _ _ (by decide), Nat.div_eq_of_lt (by omega)]
      omega
    rw [n5, h4, hq]
    omega
  have hz : (v5 &&& Int32.ofInt 63).toBitVec.toNat ≤ 32 := by
    rw [n6, h5, Nat.add_mul_mod_self_left]
    exact Nat.le_trans (Nat.mod_le _ _) (show a + b + c + d ≤ 32 by omega)
  have e : (v5 &&& Int32.ofInt 63).toInt = ((v5 &&& Int32.ofInt 63).toBitVec.toNat : Int) := BitVec.toInt_eq_toNat_of_lt (by omega)
  exact ⟨by omega, by omega⟩
theorem k_414b {Z : AmZ} {A : Nat → Nat} {s : GS} {ex : va_W} {d : Nat} {X : AmX} {x0 : Int32} (hd : 1 ≤ d) (_ : Inv s) : GC Z d 414 [.int x0] (WW Z A s ++ ex) 0 0 (fun v u => ∃ z : Int32, v = some (.int z) ∧ u = WW Z A s ++ ex ∧ In z 0 32) X := by
  intro post xp hP hX
  exact x_414 hd post xp (fun v u h => hP v u ⟨_, h.1, h.2, bc_le _⟩) hX
end
section
/-! PROGRAMS IN POSTFIX: how many values lie on the pile -/
theorem ht_cg {st st2 : Nat → Nat → Option Nat} {a : Nat} : ∀ {n : Nat}, (∀ i, a ≤ i → i < a + n → st i = st2 i) → ht st a n = ht st2 a n := by
  intro n
  induction n with
  | zero => intro _; rfl
  | succ n ih =>
    intro h
    show (ht st a n).bind (st (a + n)) = (ht st2 a n).bind (st2 (a + n))
    rw [ih (fun i h1 h2 => h i h1 (by omega)), h (a + n) (by omega) (by omega)]
theorem ht_le {st : Nat → Nat → Option Nat} (hst : ∀ i h k, st i h = some k → k ≤ h + 1) {a : Nat} : ∀ {n k : Nat}, ht st a n = some k → k ≤ n := by
  intro n
  induction n with
  | zero =>
    intro k h
    have h2 : (some 0 : Option Nat) = some k := h
    cases h2
    exact Nat.le_refl _
  | succ n ih =>
    intro k h
    have h2 : (ht st a n).bind (st (a + n)) = some k := h
    cases e : ht st a n with
    | none => rw [e] at h2; cases h2
    | some j =>
      rw [e] at h2
      have h3 : st (a + n) j = some k := h2
      have := hst _ _ _ h3
      have := ih e
      omega
theorem ht_pre {st : Nat → Nat → Option Nat} {a n : Nat} : ∀ {m : Nat}, (ht st a m).isSome = true → n ≤ m → (ht st a n).isSome = true := by
  intro m
  induction m with
  | zero => intro h hn; have : n = 0 := by omega
            subst this; exact h
  | succ m ih =>
    intro h hn
    by_cases e : n = m + 1
    · subst e; exact h
    · refine ih ?_ (by omega)
      have h2 : ((ht st a m).bind (st (a + m))).isSome = true := h
      cases e : ht st a m with
      | none => rw [e] at h2; cases h2
      | some j => rfl
theorem ht_next {st : Nat → Nat → Option Nat} {a n m k : Nat} (h : ht st a n = some k) (hm : (ht st a m).isSome = true) (hn : n < m) : ∃ j, st (a + n) k = some j ∧ ht st a (n + 1) = some j := by
  have h1 := ht_pre hm (show n + 1 ≤ m by omega)
  have e : ht st a (n + 1) = st (a + n) k := by
    show (ht st a n).bind (st (a + n)) = _
    rw [h]; rfl
  rw [e] at h1
  obtain ⟨j, hj⟩ := Option.isSome_iff_exists.mp h1
  exact ⟨j, hj, by rw [e]; exact hj⟩
theorem hs_0 {w v : Int32} {h k : Nat} (e : hs w v h = some k) (hw : w.toInt < 2) : k = h + 1 ∧ (w.toInt ≠ 0 → 0 ≤ v.toInt ∧ v.toInt ≤ 8) := by
  unfold hs at e
  by_cases h0 : w.toInt = 0
  · rw [if_pos h0] at e; cases e; exact ⟨rfl, fun q => absurd h0 q⟩
  · rw [if_neg h0] at e
    by_cases h1 : w.toInt = 1
    · rw [if_pos h1] at e
      by_cases hv : 0 ≤ v.toInt ∧ v.toInt ≤ 8
      · rw [if_pos hv] at e; cases e; exact ⟨rfl, fun _ => hv⟩
      · rw [if_neg hv] at e; cases e
    · rw [if_neg h1, if_neg (by omega), if_neg (by omega)] at e; cases e
theorem hs_2 {w v : Int32} {h k : Nat} (e : hs w v h = some k) (hw : w.toInt = 2) : 1 ≤ h ∧ k = h := by
  unfold hs at e
  rw [if_neg (by omega), if_neg (by omega), if_pos hw] at e
  by_cases h1 : 1 ≤ h
  · rw [if_pos h1] at e; cases e; exact ⟨h1, rfl⟩
  · rw [if_neg h1] at e; cases e
theorem hs_3 {w v : Int32} {h k : Nat} (e : hs w v h = some k) (hw : 2 ≤ w.toInt) (h2 : w.toInt ≠ 2) : 2 ≤ h ∧ k = h - 1 := by
  unfold hs at e
  rw [if_neg (by omega), if_neg (by omega), if_neg h2, if_pos (by omega)] at e
  by_cases h1 : 2 ≤ h
  · rw [if_pos h1] at e; cases e; exact ⟨h1, rfl⟩
  · rw [if_neg h1] at e; cases e
theorem hs_le {w v : Int32} (h k : Nat) (e : hs w v h = some k) : k ≤ h + 1 := by
  by_cases h0 : w.toInt < 2
  · have := hs_0 e h0; omega
  · by_cases h1 : w.toInt = 2
    · have := hs_2 e h1; omega
    · have := hs_3 e (by omega) h1; omega
theorem hc_0 {c : Int32} {h k : Nat} (e : hc c h = some k) (hw : c.toInt < 1000100) : k = h + 1 ∧ (1000000 ≤ c.toInt → c.toInt ≤ 1000008) := by
  unfold hc at e
  by_cases h0 : c.toInt < 1000000
  · rw [if_pos h0] at e; cases e; exact ⟨rfl, fun q => by omega⟩
  · rw [if_neg h0, if_pos hw] at e
    by_cases h1 : c.toInt ≤ 1000008
    · rw [if_pos h1] at e; cases e; exact ⟨rfl, fun _ => h1⟩
    · rw [if_neg h1] at e; cases e
theorem hc_2 {c : Int32} {h k : Nat} (e : hc c h = some k) (hw : c.toInt = 1000226) : 1 ≤ h ∧ k = h := by
  unfold hc at e
  rw [if_neg (by omega), if_neg (by omega), if_pos hw] at e
  by_cases h1 : 1 ≤ h
  · rw [if_pos h1] at e; cases e; exact ⟨h1, rfl⟩
  · rw [if_neg h1] at e; cases e
theorem hc_3 {c : Int32} {h k : Nat} (e : hc c h = some k) (hw : 1000100 ≤ c.toInt) (h2 : c.toInt ≠ 1000226) : 2 ≤ h ∧ k = h - 1 := by
  unfold hc at e
  rw [if_neg (by omega), if_neg (by omega), if_neg h2] at e
  by_cases h1 : 2 ≤ h
  · rw [if_pos h1] at e; cases e; exact ⟨h1, rfl⟩
  · rw [if_neg h1] at e; cases e
theorem hc_le {c : Int32} (h k : Nat) (e : hc c h = some k) : k ≤ h + 1 := by
  by_cases h0 : c.toInt < 1000100
  · have := hc_0 e h0; omega
  · by_cases h1 : c.toInt = 1000226
    · have := hc_2 e h1; omega
    · have := hc_3 e (by omega) h1; omega
/-- where workOut begins -/
def wa (s : GS) (x : Int32) : Nat := if x.toInt = 0 then 0 else (s.1 186 1).toNatClampNeg
def WS (s : GS) (x i k : Int32) : Prop := 0 ≤ k.toInt ∧ 0 ≤ i.toInt ∧ wa s x ≤ i.toInt.toNat ∧ ht (fun i => hs (s.1 184 i) (s.1 185 i)) (wa s x) (i.toInt.toNat - wa s x) = some k.toInt.toNat
theorem ws_0 {s : GS} {x i k : Int32} (hk : k.toInt = 0) (hi : 0 ≤ i.toInt) (h : wa s x = i.toInt.toNat) : WS s x i k := by
  refine ⟨by omega, hi, by omega, ?_⟩
  rw [h, Nat.sub_self, hk]
  rfl
theorem ws_le {s : GS} {x i k : Int32} (h : WS s x i k) : k.toInt ≤ i.toInt := by
  obtain ⟨h1, h2, h3, h4⟩ := h
  have := ht_le (fun i h k e => hs_le h k e) h4
  omega
theorem ws_ok {s : GS} {x i k z y e : Int32} (hI : Inv s) (hx : In x 0 1) (h : WS s x i k) (hz : z = s.1 184 i.toNatClampNeg) (hy : y.toInt = x.toInt + 1) (he : e = s.1 186 y.toNatClampNeg) (hlt : i.toInt < e.toInt) : ∃ j, hs z (s.1 185 i.toNatClampNeg) k.toInt.toNat = some j ∧ ∀ c d : Int32, c.toInt = i.toInt + 1 → d.toInt = (j : Int) → WS s x c d := by
  obtain ⟨h1, h2, h3, h4⟩ := h
  obtain ⟨x1, x2⟩ := hx
  have hp := hI.2.2.2.1.2.1
  rw [mI_at rfl, mI_at rfl, mI_at rfl] at hp
  have hm : (ht (fun i => hs (s.1 184 i) (s.1 185 i)) (wa s x) (e.toInt.toNat - wa s x)).isSome = true := by
    unfold wa
    by_cases e0 : x.toInt = 0
    · rw [if_pos e0]
      have ey : y.toNatClampNeg = 1 := by show y.toInt.toNat = 1; omega
      rw [he, ey]
      exact hp.1
    · rw [if_neg e0]
      have ey : y.toNatClampNeg = 2 := by show y.toInt.toNat = 2; omega
      rw [he, ey]
      exact hp.2
  obtain ⟨j, j1, j2⟩ := ht_next h4 hm (by omega)
  have ea : wa s x + (i.toInt.toNat - wa s x) = i.toNatClampNeg := by show _ = i.toInt.toNat; omega
  rw [ea] at j1
  refine ⟨j, by rw [hz]; exact j1, fun c d hc hd => ⟨by omega, by omega, by omega, ?_⟩⟩
  rw [show c.toInt.toNat - wa s x = i.toInt.toNat - wa s x + 1 by omega, j2, hd]
  rfl
/-- the class's compute: from a to b of its rows -/
def CS (s : GS) (a i k : Int32) : Prop := 0 ≤ k.toInt ∧ 0 ≤ i.toInt ∧ a.toInt ≤ i.toInt ∧ 0 ≤ a.toInt ∧ ht (fun i => hc (s.1 103 i)) a.toNatClampNeg (i.toInt.toNat - a.toNatClampNeg) = some k.toInt.toNat
theorem cs_0 {s : GS} {a k : Int32} (hk : k.toInt = 0) (ha : 0 ≤ a.toInt) : CS s a a k := by
  refine ⟨by omega, ha, by omega, ha, ?_⟩
  rw [show a.toInt.toNat - a.toNatClampNeg = 0 from Nat.sub_self _, hk]
  rfl
theorem cs_le {s : GS} {a i k : Int32} (h : CS s a i k) : k.toInt ≤ i.toInt := by
  obtain ⟨h1, h2, h3, h5, h4⟩ := h
  have := ht_le (fun i h k e => hc_le h k e) h4
  omega
theorem cs_ok {s : GS} {a b i k z : Int32} (hK : (ht (fun i => hc (s.1 103 i)) a.toNatClampNeg (b.toNatClampNeg - a.toNatClampNeg)).isSome = true) (h : CS s a i k) (hz : z = s.1 103 i.toNatClampNeg) (hlt : i.toInt < b.toInt) : ∃ j, hc z k.toInt.toNat = some j ∧ ∀ c d : Int32, c.toInt = i.toInt + 1 → d.toInt = (j : Int) → CS s a c d := by
  obtain ⟨h1, h2, h3, h5, h4⟩ := h
  have ha : a.toNatClampNeg = a.toInt.toNat := rfl
  have hb : b.toNatClampNeg = b.toInt.toNat := rfl
  obtain ⟨j, j1, j2⟩ := ht_next h4 hK (by omega)
  have ea : a.toNatClampNeg + (i.toInt.toNat - a.toNatClampNeg) = i.toNatClampNeg := by show _ = i.toInt.toNat; omega
  rw [ea] at j1
  refine ⟨j, by rw [hz]; exact j1, fun c d hc hd => ⟨by omega, by omega, by omega, h5, ?_⟩⟩
  rw [show c.toInt.toNat - a.toNatClampNeg = i.toInt.toNat - a.toNatClampNeg + 1 by omega, j2, hd]
  rfl
theorem kc_1 {s : GS} {a b : Int32} (hI : Inv s) (ha : a.toInt = 0) (hb : b = s.2.2.1 102 1) : (ht (fun i => hc (s.1 103 i)) a.toNatClampNeg (b.toNatClampNeg - a.toNatClampNeg)).isSome = true := by
  have hp := hI.2.2.2.1.2.2.1
  rw [mI_at rfl, mF_at rfl] at hp
  have e : a.toNatClampNeg = 0 := by show a.toInt.toNat = 0; omega
  rw [e, hb]
  exact hp
theorem kc_2 {s : GS} {a b : Int32} (hI : Inv s) (ha : a = s.2.2.1 102 1) (hb : b = s.2.2.1 102 2) : (ht (fun i => hc (s.1 103 i)) a.toNatClampNeg (b.toNatClampNeg - a.toNatClampNeg)).isSome = true := by
  have hp := hI.2.2.2.1.2.2.2
  rw [mI_at rfl, mF_at rfl, mF_at rfl] at hp
  rw [ha, hb]
  exact hp
/-- how many of the first signs that wait stand between two values -/
def cB (w : Nat → Int32) : Nat → Nat
  | 0 => 0
  | n + 1 => cB w n + (if (w n).toInt = 2 ∨ (w n).toInt = 40 then 0 else 1)
theorem cB_cg {w w2 : Nat → Int32} : ∀ {n : Nat}, (∀ k, k < n → w2 k = w k) → cB w2 n = cB w n := by
  intro n
  induction n with
  | zero => intro _; rfl
  | succ n ih =>
    intro h
    show cB w2 n + _ = cB w n + _
    rw [ih (fun k hk => h k (by omega)), h n (by omega)]
/-- the draft of a program: unless a fault is told, its rows from a on lay so many values -/
def PS (s : GS) (a w : Nat) : Prop := (s.2.2.1 109 23).toInt = 0 → a ≤ (s.2.2.1 109 109).toNatClampNeg ∧ ht (fun i => hs (s.1 187 i) (s.1 188 i)) a ((s.2.2.1 109 109).toNatClampNeg - a) = some (cB (s.1 190) (s.2.2.1 109 111).toNatClampNeg + w)
def PQ (s t : GS) : Prop := (s.2.2.1 109 109).toInt ≤ (t.2.2.1 109 109).toInt ∧ ∀ k : Nat, (k : Int) < (s.2.2.1 109 109).toInt → t.1 187 k = s.1 187 k ∧ t.1 188 k = s.1 188 k
def PR (s t : GS) (w w2 : Nat) : Prop := PQ s t ∧ ∀ a, PS s a w → PS t a w2
theorem pr_rf {s : GS} {w : Nat} : PR s s w w := ⟨⟨Int.le_refl _, fun _ _ => ⟨rfl, rfl⟩⟩, fun _ h => h⟩
theorem pr_tr {s t u : GS} {a b c : Nat} (h : PR s t a b) (h2 : PR t u b c) : PR s u a c := by
  refine ⟨⟨Int.le_trans h.1.1 h2.1.1, fun k hk => ?_⟩, fun x hx => h2.2 x (h.2 x hx)⟩
  have e1 := h.1.2 k hk
  have e2 := h2.1.2 k (Int.lt_of_lt_of_le hk h.1.1)
  exact ⟨e2.1.trans e1.1, e2.2.trans e1.2⟩
/-- a row is added -/
theorem pr_step {s t : GS} {n : Nat} {x v : Int32} {w w2 : Nat} (hq : t.1 187 = upd (s.1 187) n x) (hv : t.1 188 = upd (s.1 188) n v) (hn : n = (s.2.2.1 109 109).toNatClampNeg) (h0 : 0 ≤ (s.2.2.1 109 109).toInt) (hs1 : (t.2.2.1 109 109).toInt = (s.2.2.1 109 109).toInt + 1) (hf : (t.2.2.1 109 23).toInt = 0 → (s.2.2.1 109 23).toInt = 0 ∧ hs x v (cB (s.1 190) (s.2.2.1 109 111).toNatClampNeg + w) = some (cB (t.1 190) (t.2.2.1 109 111).toNatClampNeg + w2)) : PR s t w w2 := by
  have hn2 : n = (s.2.2.1 109 109).toInt.toNat := hn
  have ht2 : (t.2.2.1 109 109).toNatClampNeg = n + 1 := by show (t.2.2.1 109 109).toInt.toNat = n + 1; omega
  refine ⟨⟨by omega, fun k hk => ?_⟩, fun a h ft => ?_⟩
  · rw [hq, hv]
    unfold upd
    rw [if_neg (by omega), if_neg (by omega)]
    exact ⟨rfl, rfl⟩
  · obtain ⟨fs, hh⟩ := hf ft
    obtain ⟨ha, he⟩ := h fs
    rw [← hn] at ha he
    rw [ht2]
    refine ⟨by omega, ?_⟩
    rw [show n + 1 - a = (n - a) + 1 by omega]
    show (ht _ a (n - a)).bind (hs (t.1 187 (a + (n - a))) (t.1 188 (a + (n - a)))) = _
    rw [hq, hv, show a + (n - a) = n by omega]
    have e1 : upd (s.1 187) n x n = x := by unfold upd; rw [if_pos rfl]
    have e2 : upd (s.1 188) n v n = v := by unfold upd; rw [if_pos rfl]
    rw [e1, e2]
    have e3 : ht (fun i => hs (upd (s.1 187) n x i) (upd (s.1 188) n v i)) a (n - a) = ht (fun i => hs (s.1 187 i) (s.1 188 i)) a (n - a) := by
      refine ht_cg fun i h1 h2 => ?_
      show hs (upd (s.1 187) n x i) (upd (s.1 188) n v i) = hs (s.1 187 i) (s.1 188 i)
      unfold upd
      rw [if_neg (by omega), if_neg (by omega)]
    rw [e3, he]
    exact hh
/-- none is added -/
theorem pr_same {s t : GS} {w w2 : Nat} (hq : t.1 187 = s.1 187) (hv : t.1 188 = s.1 188) (hs1 : t.2.2.1 109 109 = s.2.2.1 109 109) (hf : (t.2.2.1 109 23).toInt = 0 → (s.2.2.1 109 23).toInt = 0 ∧ cB (s.1 190) (s.2.2.1 109 111).toNatClampNeg + w = cB (t.1 190) (t.2.2.1 109 111).toNatClampNeg + w2) : PR s t w w2 := by
  refine ⟨⟨by rw [hs1]; exact Int.le_refl _, fun k hk => by rw [hq, hv]; exact ⟨rfl, rfl⟩⟩, fun a h ft => ?_⟩
  obtain ⟨fs, hh⟩ := hf ft
  rw [hq, hv, hs1, ← hh]
  exact h fs
theorem hs_b {x v : Int32} {h : Nat} (hx : 2 < x.toInt) (h2 : 2 ≤ h) : hs x v h = some (h - 1) := by
  unfold hs
  rw [if_neg (by omega), if_neg (by omega), if_neg (by omega), if_pos hx, if_pos h2]
/-- a sign between two values leaves the row of those that wait -/
theorem cB_b {w : Nat → Int32} {n : Nat} {x : Int32} (hx : x = w n) (h2 : x.toInt ≠ 2) (h4 : x.toInt ≠ 40) : cB w (n + 1) = cB w n + 1 := by
  show cB w n + (if (w n).toInt = 2 ∨ (w n).toInt = 40 then 0 else 1) = _
  rw [← hx, if_neg (by omega)]
theorem cB_u {w : Nat → Int32} {n : Nat} {x : Int32} (hx : x = w n) (h2 : x.toInt = 2 ∨ x.toInt = 40) : cB w (n + 1) = cB w n := by
  show cB w n + (if (w n).toInt = 2 ∨ (w n).toInt = 40 then 0 else 1) = _
  rw [← hx, if_pos h2]; rfl
/-- settle: one more -/
theorem pr_set {s t : GS} {n : Nat} {x v b : Int32} (hq : t.1 187 = upd (s.1 187) n x) (hv : t.1 188 = upd (s.1 188) n v) (hn : n = (s.2.2.1 109 109).toNatClampNeg) (h0 : 0 ≤ (s.2.2.1 109 109).toInt) (hs1 : (t.2.2.1 109 109).toInt = (s.2.2.1 109 109).toInt + 1) (hff : t.2.2.1 109 23 = s.2.2.1 109 23) (hw : t.1 190 = s.1 190) (hb : (t.2.2.1 109 111).toInt = b.toInt) (hb1 : b.toInt + 1 = (s.2.2.1 109 111).toInt) (hb0 : 0 ≤ b.toInt) (hx : x = s.1 190 b.toNatClampNeg) (h : (2 < x.toInt ∧ x.toInt ≠ 40) ∨ (x.toInt = 2 ∧ True)) : PR s t 1 1 := by
  have e1 : (s.2.2.1 109 111).toNatClampNeg = b.toNatClampNeg + 1 := by show (s.2.2.1 109 111).toInt.toNat = b.toInt.toNat + 1; omega
  have e2 : (t.2.2.1 109 111).toNatClampNeg = b.toNatClampNeg := by show (t.2.2.1 109 111).toInt.toNat = b.toInt.toNat; rw [hb]
  refine pr_step hq hv hn h0 hs1 (fun ft => ⟨by rw [← hff]; exact ft, ?_⟩)
  rw [e1, e2, hw]
  cases h with
  | inl h => rw [cB_b hx (by omega) h.2, hs_b h.1 (by omega)]; rfl
  | inr h =>
    rw [cB_u hx (Or.inl h.1)]
    unfold hs
    rw [if_neg (by omega), if_neg (by omega), if_pos h.1, if_pos (by omega)]
/-- a value is added -/
theorem pr_val {s t : GS} {n : Nat} {x v : Int32} (hq : t.1 187 = upd (s.1 187) n x) (hv : t.1 188 = upd (s.1 188) n v) (hn : n = (s.2.2.1 109 109).toNatClampNeg) (h0 : 0 ≤ (s.2.2.1 109 109).toInt) (hs1 : (t.2.2.1 109 109).toInt = (s.2.2.1 109 109).toInt + 1) (hff : t.2.2.1 109 23 = s.2.2.1 109 23) (hw : t.1 190 = s.1 190) (hb : t.2.2.1 109 111 = s.2.2.1 109 111) (hx : (s.2.2.1 109 23).toInt = 0 → x.toInt = 0 ∨ (x.toInt = 1 ∧ 0 ≤ v.toInt ∧ v.toInt ≤ 8)) : PR s t 0 1 := by
  refine pr_step hq hv hn h0 hs1 (fun ft => ?_)
  rw [hff] at ft
  refine ⟨ft, ?_⟩
  rw [hw, hb]
  unfold hs
  cases hx ft with
  | inl h => rw [if_pos h]
  | inr h => rw [if_neg (by omega), if_pos h.1, if_pos h.2]
/-- a sign is held -/
theorem pr_hold {s t : GS} {x : Int32} {w w2 : Nat} (hq : t.1 187 = s.1 187) (hv : t.1 188 = s.1 188) (hs1 : t.2.2.1 109 109 = s.2.2.1 109 109) (hff : t.2.2.1 109 23 = s.2.2.1 109 23) (hw : t.1 190 = upd (s.1 190) (s.2.2.1 109 111).toNatClampNeg x) (hb : (t.2.2.1 109 111).toInt = (s.2.2.1 109 111).toInt + 1) (hb0 : 0 ≤ (s.2.2.1 109 111).toInt) (h : ((x.toInt = 2 ∨ x.toInt = 40) ∧ w = w2) ∨ ((x.toInt ≠ 2 ∧ x.toInt ≠ 40) ∧ w = w2 + 1)) : PR s t w w2 := by
  refine pr_same hq hv hs1 (fun ft => ⟨by rw [← hff]; exact ft, ?_⟩)
  have e2 : (t.2.2.1 109 111).toNatClampNeg = (s.2.2.1 109 111).toNatClampNeg + 1 := by show (t.2.2.1 109 111).toInt.toNat = (s.2.2.1 109 111).toInt.toNat + 1; omega
  rw [e2, hw]
  have e3 : x = upd (s.1 190) (s.2.2.1 109 111).toNatClampNeg x (s.2.2.1 109 111).toNatClampNeg := by unfold upd; rw [if_pos rfl]
  have e4 : cB (upd (s.1 190) (s.2.2.1 109 111).toNatClampNeg x) (s.2.2.1 109 111).toNatClampNeg = cB (s.1 190) (s.2.2.1 109 111).toNatClampNeg := by
    refine cB_cg fun k hk => ?_
    unfold upd
    rw [if_neg (by omega)]
  cases h with
  | inl h => rw [cB_u e3 h.1, e4, h.2]
  | inr h => rw [cB_b e3 h.1.1 h.1.2, e4, h.2]; omega
/-- a bracket leaves -/
theorem pr_drop {s t : GS} {x b : Int32} {w : Nat} (hq : t.1 187 = s.1 187) (hv : t.1 188 = s.1 188) (hs1 : t.2.2.1 109 109 = s.2.2.1 109 109) (hff : t.2.2.1 109 23 = s.2.2.1 109 23) (hw : t.1 190 = s.1 190) (hb : (t.2.2.1 109 111).toInt = b.toInt) (hb1 : b.toInt + 1 = (s.2.2.1 109 111).toInt) (hb0 : 0 ≤ b.toInt) (hx : x = s.1 190 b.toNatClampNeg) (h : x.toInt = 2 ∨ x.toInt = 40) : PR s t w w := by
  have e1 : (s.2.2.1 109 111).toNatClampNeg = b.toNatClampNeg + 1 := by show (s.2.2.1 109 111).toInt.toNat = b.toInt.toNat + 1; omega
  have e2 : (t.2.2.1 109 111).toNatClampNeg = b.toNatClampNeg := by show (t.2.2.1 109 111).toInt.toNat = b.toInt.toNat; rw [hb]
  refine pr_same hq hv hs1 (fun ft => ⟨by rw [← hff]; exact ft, ?_⟩)
  rw [e1, e2, hw, cB_u hx h]
/-- a fault is told -/
theorem pr_flt {s t : GS} {w w2 : Nat} (hq : t.1 187 = s.1 187) (hv : t.1 188 = s.1 188) (hs1 : t.2.2.1 109 109 = s.2.2.1 109 109) (hf : (t.2.2.1 109 23).toInt ≠ 0) : PR s t w w2 := pr_same hq hv hs1 (fun ft => absurd ft hf)
/-- a word is read -/
theorem pr_nx {s t : GS} {w : Nat} (hq : t.1 187 = s.1 187) (hv : t.1 188 = s.1 188) (hs1 : t.2.2.1 109 109 = s.2.2.1 109 109) (hw : t.1 190 = s.1 190) (hb : t.2.2.1 109 111 = s.2.2.1 109 111) (hf : (s.2.2.1 109 23).toInt = 0) : PR s t w w := pr_same hq hv hs1 (fun _ => ⟨hf, by rw [hw, hb]⟩)
theorem pe_0 {s t : GS} (hF : Fr ([], [], [(109, 111), (109, 112)], []) s t) (h : (t.2.2.1 109 111).toInt = 0) : PQ s t ∧ PS t (s.2.2.1 109 109).toNatClampNeg 0 := by
  have e1 := hF.2.2.1 109 109 rfl
  have e2 := hF.1 187 rfl
  have e3 := hF.1 188 rfl
  refine ⟨⟨by rw [e1]; exact Int.le_refl _, fun k _ => by rw [e2, e3]; exact ⟨rfl, rfl⟩⟩, fun _ => ⟨by rw [e1]; exact Nat.le_refl _, ?_⟩⟩
  have e4 : (t.2.2.1 109 111).toNatClampNeg = 0 := by show (t.2.2.1 109 111).toInt.toNat = 0; rw [h]; rfl
  rw [e1, Nat.sub_self, e4]
  rfl
theorem pe_tr {s t u : GS} {a w w2 : Nat} (h : PQ s t ∧ PS t a w) (hr : PR t u w w2) : PQ s u ∧ PS u a w2 := by
  refine ⟨⟨Int.le_trans h.1.1 hr.1.1, fun k hk => ?_⟩, hr.2 a h.2⟩
  have e1 := h.1.2 k hk
  have e2 := hr.1.2 k (Int.lt_of_lt_of_le hk h.1.1)
  exact ⟨e2.1.trans e1.1, e2.2.trans e1.2⟩
/-- the draft's two parts, before they are taken over -/
def QQ (s : GS) : Prop := 0 ≤ (s.1 189 1).toInt ∧ (s.1 189 1).toInt ≤ (s.2.2.1 109 109).toInt ∧ s.1 189 2 = s.2.2.1 109 109 ∧ (ht (fun i => hs (s.1 187 i) (s.1 188 i)) 0 (s.1 189 1).toNatClampNeg).isSome = true ∧ (ht (fun i => hs (s.1 187 i) (s.1 188 i)) (s.1 189 1).toNatClampNeg ((s.2.2.1 109 109).toNatClampNeg - (s.1 189 1).toNatClampNeg)).isSome = true
theorem qq_0 {s0 s1 s2 : GS} {a b : Int32} (k1 : (s1.2.2.1 109 23).toInt = 0 → (ht (fun i => hs (s1.1 187 i) (s1.1 188 i)) (s0.2.2.1 109 109).toNatClampNeg ((s1.2.2.1 109 109).toNatClampNeg - (s0.2.2.1 109 109).toNatClampNeg)).isSome = true) (h0 : (s0.2.2.1 109 109).toInt = 0) (f1 : (s1.2.2.1 109 23).toInt = 0) (ha : a = s1.2.2.1 109 109) (ha0 : 0 ≤ a.toInt) (pq : PQ (sI s1 189 (Int32.ofInt 1).toNatClampNeg a) s2) (k2 : (s2.2.2.1 109 23).toInt = 0 → (ht (fun i => hs (s2.1 187 i) (s2.1 188 i)) ((sI s1 189 (Int32.ofInt 1).toNatClampNeg a).2.2.1 109 109).toNatClampNeg ((s2.2.2.1 109 109).toNatClampNeg - ((sI s1 189 (Int32.ofInt 1).toNatClampNeg a).2.2.1 109 109).toNatClampNeg)).isSome = true) (f2 : (s2.2.2.1 109 23).toInt = 0) (hF : s2.1 189 = (sI s1 189 (Int32.ofInt 1).toNatClampNeg a).1 189) (hb : b = s2.2.2.1 109 109) : QQ (sI s2 189 (Int32.ofInt 2).toNatClampNeg b) := by
  have n1 : (Int32.ofInt 1).toNatClampNeg = 1 := rfl
  have n2 : (Int32.ofInt 2).toNatClampNeg = 2 := rfl
  have z0 : (s0.2.2.1 109 109).toNatClampNeg = 0 := by show (s0.2.2.1 109 109).toInt.toNat = 0; rw [h0]; rfl
  have r1 := k1 f1
  have r2 : (ht (fun i => hs (s2.1 187 i) (s2.1 188 i)) (s1.2.2.1 109 109).toNatClampNeg ((s2.2.2.1 109 109).toNatClampNeg - (s1.2.2.1 109 109).toNatClampNeg)).isSome = true := k2 f2
  rw [z0, Nat.sub_zero, ← ha] at r1
  rw [← ha] at r2
  have e1 : (sI s2 189 (Int32.ofInt 2).toNatClampNeg b).1 189 1 = a := by
    rw [sI_q, n2, hF, sI_q, n1]
    unfold upd
    rw [if_neg (by decide), if_pos rfl]
  have e2 : (sI s2 189 (Int32.ofInt 2).toNatClampNeg b).1 189 2 = b := by
    rw [sI_q, n2]
    unfold upd
    rw [if_pos rfl]
  have e3 : (sI s2 189 (Int32.ofInt 2).toNatClampNeg b).1 187 = s2.1 187 := sI_p rfl
  have e4 : (sI s2 189 (Int32.ofInt 2).toNatClampNeg b).1 188 = s2.1 188 := sI_p rfl
  have p1 : a.toInt ≤ (s2.2.2.1 109 109).toInt := by rw [ha]; exact pq.1
  unfold QQ
  rw [e1, e2, e3, e4]
  refine ⟨ha0, p1, hb, ?_, r2⟩
  have q1 : (sI s1 189 (Int32.ofInt 1).toNatClampNeg a).1 187 = s1.1 187 := sI_p rfl
  have q2 : (sI s1 189 (Int32.ofInt 1).toNatClampNeg a).1 188 = s1.1 188 := sI_p rfl
  have q3 : ht (fun i => hs (s2.1 187 i) (s2.1 188 i)) 0 a.toNatClampNeg = ht (fun i => hs (s1.1 187 i) (s1.1 188 i)) 0 a.toNatClampNeg := by
    refine ht_cg fun i _ h2 => ?_
    have h3 : (i : Int) < (s1.2.2.1 109 109).toInt := by
      rw [← ha]
      have : i < a.toInt.toNat := by
        have h4 : i < 0 + a.toInt.toNat := h2
        omega
      omega
    have h5 := pq.2 i h3
    show hs (s2.1 187 i) (s2.1 188 i) = hs (s1.1 187 i) (s1.1 188 i)
    rw [h5.1, h5.2, q1, q2]
  rw [q3]
  exact r1
theorem qq_s {s : GS} {n m : Nat} {z v : Int32} (h : QQ s) : QQ (sI (sI s 184 n z) 185 m v) := by
  have e1 : (sI (sI s 184 n z) 185 m v).1 187 = s.1 187 := by rw [sI_p rfl, sI_p rfl]
  have e2 : (sI (sI s 184 n z) 185 m v).1 188 = s.1 188 := by rw [sI_p rfl, sI_p rfl]
  have e3 : (sI (sI s 184 n z) 185 m v).1 189 = s.1 189 := by rw [sI_p rfl, sI_p rfl]
  unfold QQ at h ⊢
  rw [e1, e2, e3]
  exact h
theorem cpy_s {s : GS} {y z v w : Int32} (h : ∀ k : Nat, (k : Int) < y.toInt → s.1 184 k = s.1 187 k ∧ s.1 185 k = s.1 188 k) (e1 : z = s.1 187 y.toNatClampNeg) (e2 : v = (sI s 184 y.toNatClampNeg z).1 188 y.toNatClampNeg) (hy : 0 ≤ y.toInt) (hw : w.toInt = y.toInt + 1) : ∀ k : Nat, (k : Int) < w.toInt → (sI (sI s 184 y.toNatClampNeg z) 185 y.toNatClampNeg v).1 184 k = (sI (sI s 184 y.toNatClampNeg z) 185 y.toNatClampNeg v).1 187 k ∧ (sI (sI s 184 y.toNatClampNeg z) 185 y.toNatClampNeg v).1 185 k = (sI (sI s 184 y.toNatClampNeg z) 185 y.toNatClampNeg v).1 188 k := by
  intro k hk
  have q1 : (sI (sI s 184 y.toNatClampNeg z) 185 y.toNatClampNeg v).1 187 = s.1 187 := by rw [sI_p rfl, sI_p rfl]
  have q2 : (sI (sI s 184 y.toNatClampNeg z) 185 y.toNatClampNeg v).1 188 = s.1 188 := by rw [sI_p rfl, sI_p rfl]
  have q3 : (sI (sI s 184 y.toNatClampNeg z) 185 y.toNatClampNeg v).1 184 = upd (s.1 184) y.toNatClampNeg z := by rw [sI_p rfl, sI_q]
  have q4 : (sI (sI s 184 y.toNatClampNeg z) 185 y.toNatClampNeg v).1 185 = upd (s.1 185) y.toNatClampNeg v := by rw [sI_q, sI_p rfl]
  rw [sI_p rfl] at e2
  rw [q1, q2, q3, q4]
  unfold upd
  have ny : y.toNatClampNeg = y.toInt.toNat := rfl
  by_cases c : k = y.toNatClampNeg
  · rw [if_pos c, if_pos c, c]
    exact ⟨e1, e2⟩
  · rw [if_neg c, if_neg c]
    exact h k (by omega)
theorem fin_kp {s : GS} {y z v n : Int32} (hc : ∀ k : Nat, (k : Int) < y.toInt → s.1 184 k = s.1 187 k ∧ s.1 185 k = s.1 188 k) (hq : QQ s) (hn : n = s.2.2.1 109 109) (hy : n.toInt ≤ y.toInt) (e1 : z = s.1 189 (Int32.ofInt 1).toNatClampNeg) (e2 : v = (sI s 186 (Int32.ofInt 1).toNatClampNeg z).1 189 (Int32.ofInt 2).toNatClampNeg) : KP ((sI (sI s 186 (Int32.ofInt 1).toNatClampNeg z) 186 (Int32.ofInt 2).toNatClampNeg v).1 184) ((sI (sI s 186 (Int32.ofInt 1).toNatClampNeg z) 186 (Int32.ofInt 2).toNatClampNeg v).1 185) ((sI (sI s 186 (Int32.ofInt 1).toNatClampNeg z) 186 (Int32.ofInt 2).toNatClampNeg v).1 186) := by
  have n1 : (Int32.ofInt 1).toNatClampNeg = 1 := rfl
  have n2 : (Int32.ofInt 2).toNatClampNeg = 2 := rfl
  have q1 : (sI (sI s 186 (Int32.ofInt 1).toNatClampNeg z) 186 (Int32.ofInt 2).toNatClampNeg v).1 184 = s.1 184 := by rw [sI_p rfl, sI_p rfl]
  have q2 : (sI (sI s 186 (Int32.ofInt 1).toNatClampNeg z) 186 (Int32.ofInt 2).toNatClampNeg v).1 185 = s.1 185 := by rw [sI_p rfl, sI_p rfl]
  have q3 : (sI (sI s 186 (Int32.ofInt 1).toNatClampNeg z) 186 (Int32.ofInt 2).toNatClampNeg v).1 186 = upd (upd (s.1 186) 1 z) 2 v := by rw [sI_q, sI_q, n1, n2]
  rw [sI_p rfl, n2] at e2
  rw [n1] at e1
  obtain ⟨h1, h2, h3, h4, h5⟩ := hq
  rw [q1, q2, q3]
  unfold KP
  have u1 : upd (upd (s.1 186) 1 z) 2 v 1 = s.1 189 1 := by unfold upd; rw [if_neg (by decide), if_pos rfl, e1]
  have u2 : upd (upd (s.1 186) 1 z) 2 v 2 = s.2.2.1 109 109 := by unfold upd; rw [if_pos rfl, e2, h3]
  rw [u1, u2]
  have m1 : (s.1 189 1).toNatClampNeg = (s.1 189 1).toInt.toNat := rfl
  have m2 : (s.2.2.1 109 109).toNatClampNeg = (s.2.2.1 109 109).toInt.toNat := rfl
  rw [hn] at hy
  refine ⟨?_, ?_⟩
  · rw [← h4]
    refine congrArg Option.isSome (ht_cg fun i _ hi => ?_)
    have := hc i (by omega)
    show hs (s.1 184 i) (s.1 185 i) = hs (s.1 187 i) (s.1 188 i)
    rw [this.1, this.2]
  · rw [← h5]
    refine congrArg Option.isSome (ht_cg fun i _ hi => ?_)
    have := hc i (by omega)
    show hs (s.1 184 i) (s.1 185 i) = hs (s.1 187 i) (s.1 188 i)
    rw [this.1, this.2]
def kgok (L : FM) : Bool := krok L && qI L.1 134 && qI L.1 103 && qF L.2.2.1 102 1 && qF L.2.2.1 102 2 && qG1 L 2 && qG2 L 2 && qG3 L 2 && qG4 L 2 && qG5 L 2 && qG1 L 32 && qG2 L 32 && qG3 L 32 && qG4 L 32 && qG5 L 32
theorem kk_prog {s t : GS} {L : FM} (h : KK (mI s) (mF s)) (hF : Fr L s t) (hk : kgok L = true) (hp : KP (t.1 184) (t.1 185) (t.1 186)) : KK (mI t) (mF t) := by
  unfold kgok at hk
  simp only [Bool.and_eq_true] at hk
  obtain ⟨⟨⟨⟨⟨⟨⟨⟨⟨⟨⟨⟨⟨⟨a0, a1⟩, a2⟩, a3⟩, a4⟩, b1⟩, b2⟩, b3⟩, b4⟩, b5⟩, c1⟩, c2⟩, c3⟩, c4⟩, c5⟩ := hk
  refine ⟨kk_g h.1 hF b1 b2 b3 b4 b5, kk_g h.2.1 hF c1 c2 c3 c4 c5, ⟨?_, ?_, ?_⟩, kk_r h.2.2.2 hF a0⟩
  · rw [fr_mI hF a1]; exact h.2.2.1.1
  · rw [mI_at rfl, mI_at rfl, mI_at rfl]; exact hp
  · rw [fr_mI hF a2, fr_mF hF a3, fr_mF hF a4]; exact h.2.2.1.2.2
end
section
/-! A DRAW THAT ISN'T LOST: the steps of the seed come to it -/
def j0 (x : Int64) : Int64 := (Int64.ofInt (-5995951349977708269) - x) * Int64.ofInt (-1018231460777725123)
theorem x0_ok {x d : Int64} (h : d = j0 x) : x + Int64.ofInt (-7046029254386353131) * d = Int64.ofInt (-5995951349977708269) := by
  rw [h]
  unfold j0
  rw [Int64.mul_comm (Int64.ofInt (-5995951349977708269) - x), ← Int64.mul_assoc, show Int64.ofInt (-7046029254386353131) * Int64.ofInt (-1018231460777725123) = 1 from by decide, Int64.one_mul, Int64.add_comm, Int64.sub_add_cancel]
def dd (x d : Int64) : Nat := if (j0 x - d).toBitVec.toNat = 0 then 18446744073709551616 else (j0 x - d).toBitVec.toNat
theorem dd_n (x d : Int64) : (j0 x - d).toBitVec.toNat = (18446744073709551616 - d.toBitVec.toNat + (j0 x).toBitVec.toNat) % 18446744073709551616 := by
  rw [Int64.toBitVec_sub, BitVec.toNat_sub]
theorem dd_le (x d : Int64) : dd x d ≤ 18446744073709551616 := by
  unfold dd
  have h := (j0 x - d).toBitVec.isLt
  split
  · exact Nat.le_refl _
  · omega
theorem dd_0 (x d : Int64) : dd x d + (Int32.ofInt 0).toInt.toNat = dd x d := by
  have h : (Int32.ofInt 0).toInt.toNat = 0 := rfl
  rw [h, Nat.add_zero]
theorem dm_1 {a b k x y W : Nat} (h : b * W + y < k + 1) (hx : x < y) (ha : a ≤ b) : a * W + x < k := by
  have := Nat.mul_le_mul_right W ha
  omega
theorem dm_2 {a b k x y W : Nat} (h : b * W + y < k + 1) (hx : x < W) (ha : a < b) : a * W + x < k := by
  have := Nat.mul_le_mul_right W (show a + 1 ≤ b from ha)
  rw [Nat.add_mul, Nat.one_mul] at this
  omega
theorem dd_e {d e : Int64} (he : e = d + Int64.ofInt 1) : e.toBitVec.toNat = (d.toBitVec.toNat + 1) % 18446744073709551616 := by
  rw [he, Int64.toBitVec_add, BitVec.toNat_add]
  rfl
theorem dd_s {x d e : Int64} (he : e = d + Int64.ofInt 1) (h : ¬ dd x d = 1) : dd x e + 1 = dd x d := by
  have h1 := dd_e he
  have l1 := d.toBitVec.isLt
  have l2 := (j0 x).toBitVec.isLt
  unfold dd at h ⊢
  rw [dd_n] at h ⊢
  rw [dd_n, h1]
  generalize d.toBitVec.toNat = b at *
  generalize (j0 x).toBitVec.toNat = a at *
  split <;> split at h <;> split <;> omega
theorem dd_1 {x d e : Int64} (he : e = d + Int64.ofInt 1) (h : dd x d = 1) : e = j0 x := by
  have h1 := dd_e he
  have l1 := d.toBitVec.isLt
  have l2 := (j0 x).toBitVec.isLt
  unfold dd at h
  rw [dd_n] at h
  have h2 : e.toBitVec.toNat = (j0 x).toBitVec.toNat := by
    rw [h1]
    generalize d.toBitVec.toNat = b at *
    generalize (j0 x).toBitVec.toNat = a at *
    split at h <;> omega
  exact Int64.toBitVec_inj.mp (BitVec.eq_of_toNat_eq h2)
theorem sG_get {s : GS} {q j : Nat} {x : Int64} : x = (sG s q j x).2.2.2.1 q j := by simp [sG]
end
section
/-! THE QUEUE OF fits: each place comes into it once -/
def cM (f : Nat → Int32) : Nat → Nat
  | 0 => 0
  | n + 1 => cM f n + (if (f n).toInt < 0 then 1 else 0)
theorem cM_le (f : Nat → Int32) : ∀ n, cM f n ≤ n := by
  intro n
  induction n with
  | zero => exact Nat.le_refl _
  | succ n ih =>
    show cM f n + (if (f n).toInt < 0 then 1 else 0) ≤ n + 1
    split <;> omega
theorem cM_up {f : Nat → Int32} {y : Nat} {v : Int32} (h1 : (f y).toInt < 0) (h2 : 0 ≤ v.toInt) : ∀ n, cM (upd f y v) n + (if y < n then 1 else 0) = cM f n := by
  intro n
  induction n with
  | zero => rw [if_neg (by omega)]; rfl
  | succ n ih =>
    show cM (upd f y v) n + (if (upd f y v n).toInt < 0 then 1 else 0) + (if y < n + 1 then 1 else 0) = cM f n + (if (f n).toInt < 0 then 1 else 0)
    by_cases c : n = y
    · have e : upd f y v n = v := by unfold upd; rw [if_pos c]
      rw [e, if_neg (by omega), if_pos (by omega), c, if_pos h1]
      rw [c, if_neg (by omega)] at ih
      omega
    · have e : upd f y v n = f n := by unfold upd; rw [if_neg c]
      rw [e]
      by_cases d : y < n
      · rw [if_pos d] at ih
        rw [if_pos (show y < n + 1 by omega)]
        omega
      · rw [if_neg d] at ih
        rw [if_neg (show ¬ y < n + 1 by omega)]
        omega
def QI (s : GS) (n : Int) : Prop := 0 ≤ n ∧ n + (cM (s.1 183) 2000 : Int) ≤ 2000 ∧ ∀ i : Nat, (i : Int) < n → 0 ≤ (s.1 183 (s.1 132 i).toNatClampNeg).toInt ∧ (s.1 183 (s.1 132 i).toNatClampNeg).toInt ≤ i
theorem qi_0 (s : GS) : QI s 0 := by
  have := cM_le (s.1 183) 2000
  exact ⟨Int.le_refl _, by omega, fun i h => by omega⟩
theorem qi_le {s : GS} {n : Int} (h : QI s n) : n ≤ 2000 := by
  have := h.2.1
  omega
theorem qi_push {s t : GS} {y v : Int32} {n a b : Int} {m : Nat} (h : QI s n) (hm : (m : Int) = n) (hq : t.1 132 = upd (s.1 132) m y) (hc : t.1 183 = upd (s.1 183) y.toNatClampNeg v) (hy : In y a b) (hb : decide (b < 2000) = true) (h1 : (s.1 183 y.toNatClampNeg).toInt < 0) (h2 : 0 ≤ v.toInt) (h3 : v.toInt ≤ n) : QI t (n + 1) := by
  have hb := of_decide_eq_true hb
  obtain ⟨p1, p2, p3⟩ := h
  have hu := cM_up h1 h2 2000
  have hy2 := hy.2
  rw [if_pos (show y.toNatClampNeg < 2000 by show y.toInt.toNat < 2000; omega)] at hu
  refine ⟨by omega, by rw [hc]; omega, fun i hi => ?_⟩
  rw [hq, hc]
  by_cases c : i = m
  · have e : upd (s.1 132) m y i = y := by unfold upd; rw [if_pos c]
    rw [e]
    have e2 : upd (s.1 183) y.toNatClampNeg v y.toNatClampNeg = v := by unfold upd; rw [if_pos rfl]
    rw [e2]
    exact ⟨h2, by omega⟩
  · have e : upd (s.1 132) m y i = s.1 132 i := by unfold upd; rw [if_neg c]
    rw [e]
    have p4 := p3 i (by omega)
    by_cases d : (s.1 132 i).toNatClampNeg = y.toNatClampNeg
    · rw [d] at p4
      omega
    · have e2 : upd (s.1 183) y.toNatClampNeg v (s.1 132 i).toNatClampNeg = s.1 183 (s.1 132 i).toNatClampNeg := by unfold upd; rw [if_neg d]
      rw [e2]
      exact p4
end
