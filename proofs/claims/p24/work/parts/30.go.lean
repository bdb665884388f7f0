/-! WHAT IS LEFT OF A METHOD'S RUN, a row an instruction. GG .. N: from here on N steps are enough, whatever stands in the locals beside f. Values get names (z) with what they are. -/
def g0 (o : Option Value) : Option Value := match o with
  | some (.int x) => some (.int x)
  | some (.ref a) => some (.ref a)
  | _ => none
def g1 (i : Nat) (v : Value) (f : Nat → Option Value) : Nat → Option Value := fun j => cond (Nat.beq j i) (some v) (cond (Nat.beq (j + 1) i) (g0 (f j)) (f j))
def g2 (i : Nat) (v : Value) (f : Nat → Option Value) : Nat → Option Value := fun j => cond (Nat.beq j i) (some v) (cond (Nat.beq j (i + 1)) none (cond (Nat.beq (j + 1) i) (g0 (f j)) (f j)))
def GL (f : Nat → Option Value) (lv : List (Nat × Value)) : Prop := ∀ i v, f i = some v → (i, v) ∈ lv
theorem g0_ok {o : Option Value} {w : Value} (h : g0 o = some w) : o = some w ∧ w.category = 1 := by
  cases o with
  | none => cases h
  | some v => cases v <;> first | (cases h; exact ⟨rfl, rfl⟩) | cases h
theorem gl1 {f : Nat → Option Value} {lv : List (Nat × Value)} (h : GL f lv) (i : Nat) (v : Value) : GL (g1 i v f) (am_s1 i v lv) := by
  intro j w hj
  unfold g1 at hj
  unfold am_s1
  cases h1 : Nat.beq j i with
  | true =>
    rw [h1] at hj
    have hj : some v = some w := hj
    cases hj
    rw [Nat.eq_of_beq_eq_true h1]
    exact List.mem_cons_self
  | false =>
    rw [h1] at hj
    have e := Nat.ne_of_beq_eq_false h1
    refine List.mem_cons_of_mem _ (List.mem_filter.mpr ?_)
    cases h2 : Nat.beq (j + 1) i with
    | true =>
      rw [h2] at hj
      have hj : g0 (f j) = some w := hj
      obtain ⟨a, b⟩ := g0_ok hj
      exact ⟨h j w a, by simp [e, b]⟩
    | false =>
      rw [h2] at hj
      have hj : f j = some w := hj
      have e2 := Nat.ne_of_beq_eq_false h2
      exact ⟨h j w hj, by simp [e, e2]⟩
theorem gl2 {f : Nat → Option Value} {lv : List (Nat × Value)} (h : GL f lv) (i : Nat) (v : Value) : GL (g2 i v f) (am_s2 i v lv) := by
  intro j w hj
  unfold g2 at hj
  unfold am_s2
  cases h1 : Nat.beq j i with
  | true =>
    rw [h1] at hj
    have hj : some v = some w := hj
    cases hj
    rw [Nat.eq_of_beq_eq_true h1]
    exact List.mem_cons_self
  | false =>
    rw [h1] at hj
    have e := Nat.ne_of_beq_eq_false h1
    refine List.mem_cons_of_mem _ (List.mem_filter.mpr ?_)
    cases h3 : Nat.beq j (i + 1) with
    | true => rw [h3] at hj; cases hj
    | false =>
      rw [h3] at hj
      have e3 := Nat.ne_of_beq_eq_false h3
      cases h2 : Nat.beq (j + 1) i with
      | true =>
        rw [h2] at hj
        have hj : g0 (f j) = some w := hj
        obtain ⟨a, b⟩ := g0_ok hj
        exact ⟨h j w a, by simp [e, b, e3]⟩
      | false =>
        rw [h2] at hj
        have hj : f j = some w := hj
        have e2 := Nat.ne_of_beq_eq_false h2
        exact ⟨h j w hj, by simp [e, e2, e3]⟩
/-- the script (of the law alone), calls of wrappers, where a throw goes -/
abbrev GX : Type := AmS × AmC × AmH
def gx (X : AmX) : GX := (none, am_no, fun _ _ _ _ _ => X)
def GG (Z : AmZ) (d m : Nat) (ret : AmR) (xp : GX) (N pc : Nat) (f : Nat → Option Value) (st : List Value) (ws : va_W) (C S : Nat) : Prop :=
  ∀ lv, GL f lv → ∀ n, N ≤ n → am_run Z xp.1 (xcls (xo m)) (xc m) (xn m) (xr m) (xin m) (am_wp Z am_leaf d) xp.2.1 xp.2.2 ret n pc lv st ws C S
def GD (m pc : Nat) (i : Instr) (len : Nat) : Prop := m < xm_n ∧ decode (xc m) pc = .ok (i, len)
theorem gd {m pc : Nat} {i : Instr} {len : Nat} (h : cond (Nat.blt m xm_n) (xlook pc (xi m pc)) none = some (i, len)) : GD m pc i len := xi_w h
section GA
variable {Z : AmZ} {d m N pc : Nat} {ret : AmR} {xp : GX} {f : Nat → Option Value} {st r : List Value} {ws : va_W} {C S : Nat}
theorem gg_w {M : Nat} (hN : M ≤ N) (h : GG Z d m ret xp M pc f st ws C S) : GG Z d m ret xp N pc f st ws C S := fun lv hl n hn => h lv hl n (Nat.le_trans hN hn)
theorem gg_f {e : Nat → Option Value} (he : ∀ i v, e i = some v → f i = some v) (h : GG Z d m ret xp N pc e st ws C S) : GG Z d m ret xp N pc f st ws C S := fun lv hl n hn => h lv (fun i v hv => hl i v (he i v hv)) n hn
theorem g_st (h : ∀ lv, GL f lv → ∀ n, N ≤ n → am_stp Z xp.1 (xcls (xo m)) (xc m) (xn m) (xr m) (xin m) (am_wp Z am_leaf d) xp.2.1 xp.2.2 ret (am_run Z xp.1 (xcls (xo m)) (xc m) (xn m) (xr m) (xin m) (am_wp Z am_leaf d) xp.2.1 xp.2.2 ret n) pc lv st ws C S) : GG Z d m ret xp (N + 1) pc f st ws C S := by
  intro lv hl n hn
  cases n with
  | zero => exact absurd hn (Nat.not_succ_le_zero N)
  | succ n => exact Or.inl (h lv hl n (Nat.le_of_succ_le_succ hn))
theorem g_less {ws' : va_W} (hs : am_less ws' ws) (h : GG Z d m ret xp N pc f st ws' C S) : GG Z d m ret xp (N + 1) pc f st ws C S := by
  intro lv hl n hn
  cases n with
  | zero => exact absurd hn (Nat.not_succ_le_zero N)
  | succ n => exact Or.inr ⟨ws', hs, h lv hl n (Nat.le_of_succ_le_succ hn)⟩
theorem g_iconst {k : _} (c : Int) (p : Nat) (hd : GD m pc (.iconst k) 1) (hp : pc + 1 = p) (hc : Int32.ofInt k = Int32.ofInt c) (h : GG Z d m ret xp N p f (.int (Int32.ofInt c) :: st) ws C S) : GG Z d m ret xp (N + 1) pc f st ws C S :=
  g_st fun lv hl n hn => by unfold am_stp; rw [hd.2]; subst hp; exact (by rw [← hc] at h; exact h lv hl n hn)
theorem g_bipush {k : _} (c : Int) (p : Nat) (hd : GD m pc (.bipush k) 2) (hp : pc + 2 = p) (hc : (Int8.ofInt k).toInt32 = Int32.ofInt c) (h : GG Z d m ret xp N p f (.int (Int32.ofInt c) :: st) ws C S) : GG Z d m ret xp (N + 1) pc f st ws C S :=
  g_st fun lv hl n hn => by unfold am_stp; rw [hd.2]; subst hp; exact (by rw [← hc] at h; exact h lv hl n hn)
theorem g_sipush {k : _} (c : Int) (p : Nat) (hd : GD m pc (.sipush k) 3) (hp : pc + 3 = p) (hc : (Int16.ofInt k).toInt32 = Int32.ofInt c) (h : GG Z d m ret xp N p f (.int (Int32.ofInt c) :: st) ws C S) : GG Z d m ret xp (N + 1) pc f st ws C S :=
  g_st fun lv hl n hn => by unfold am_stp; rw [hd.2]; subst hp; exact (by rw [← hc] at h; exact h lv hl n hn)
theorem g_lconst {k : _} (c : Int) (p : Nat) (hd : GD m pc (.lconst k) 1) (hp : pc + 1 = p) (hc : Int64.ofNat (k : Nat) = Int64.ofInt c) (h : GG Z d m ret xp N p f (.long (Int64.ofInt c) :: st) ws C S) : GG Z d m ret xp (N + 1) pc f st ws C S :=
  g_st fun lv hl n hn => by unfold am_stp; rw [hd.2]; subst hp; exact (by rw [← hc] at h; exact h lv hl n hn)
theorem g_ldc {i p0 : Nat} (c : Int) (p : Nat) (hd : GD m pc (.ldc i) 2) (hp : pc + 2 = p) (hx : xlook i (xa (xo m)) = some (Int32.ofInt c, p0)) (h : GG Z d m ret xp N p f (.int (Int32.ofInt c) :: st) ws C S) : GG Z d m ret xp (N + 1) pc f st ws C S :=
  g_st fun lv hl n hn => by unfold am_stp; rw [hd.2]; subst hp; exact Or.inl ⟨_, xa_w hd.1 hx, h lv hl n hn⟩
theorem g_ldc_w {i p0 : Nat} (c : Int) (p : Nat) (hd : GD m pc (.ldc_w i) 3) (hp : pc + 3 = p) (hx : xlook i (xa (xo m)) = some (Int32.ofInt c, p0)) (h : GG Z d m ret xp N p f (.int (Int32.ofInt c) :: st) ws C S) : GG Z d m ret xp (N + 1) pc f st ws C S :=
  g_st fun lv hl n hn => by unfold am_stp; rw [hd.2]; subst hp; exact ⟨_, xa_w hd.1 hx, h lv hl n hn⟩
theorem g_ldc2_w {i p0 : Nat} (c : Int) (p : Nat) (hd : GD m pc (.ldc2_w i) 3) (hp : pc + 3 = p) (hx : xlook i (xb (xo m)) = some (Int64.ofInt c, p0)) (h : GG Z d m ret xp N p f (.long (Int64.ofInt c) :: st) ws C S) : GG Z d m ret xp (N + 1) pc f st ws C S :=
  g_st fun lv hl n hn => by unfold am_stp; rw [hd.2]; subst hp; exact ⟨_, xb_w hd.1 hx, h lv hl n hn⟩
theorem g_iload {k : _} {x : Int32} (p : Nat) (hd : GD m pc (.iload k) 2) (hp : pc + 2 = p) (hf : f k = some (.int x)) (h : GG Z d m ret xp N p f (.int x :: st) ws C S) : GG Z d m ret xp (N + 1) pc f st ws C S :=
  g_st fun lv hl n hn => by unfold am_stp; rw [hd.2]; subst hp; exact ⟨x, hl _ _ hf, h lv hl n hn⟩
theorem g_istore {k : _} {x : Int32} (p : Nat) (hd : GD m pc (.istore k) 2) (hp : pc + 2 = p) (hk : k < xn m) (h : GG Z d m ret xp N p (g1 k (.int x) f) r ws C S) : GG Z d m ret xp (N + 1) pc f (.int x :: r) ws C S :=
  g_st fun lv hl n hn => by unfold am_stp; rw [hd.2]; subst hp; exact ⟨x, r, rfl, hk, h _ (gl1 hl _ _) n hn⟩
theorem g_iload_n {k : _} {x : Int32} (p : Nat) (hd : GD m pc (.iload_n k) 1) (hp : pc + 1 = p) (hf : f (k : Nat) = some (.int x)) (h : GG Z d m ret xp N p f (.int x :: st) ws C S) : GG Z d m ret xp (N + 1) pc f st ws C S :=
  g_st fun lv hl n hn => by unfold am_stp; rw [hd.2]; subst hp; exact ⟨x, hl _ _ hf, h lv hl n hn⟩
theorem g_istore_n {k : _} {x : Int32} (p : Nat) (hd : GD m pc (.istore_n k) 1) (hp : pc + 1 = p) (hk : (k : Nat) < xn m) (h : GG Z d m ret xp N p (g1 (k : Nat) (.int x) f) r ws C S) : GG Z d m ret xp (N + 1) pc f (.int x :: r) ws C S :=
  g_st fun lv hl n hn => by unfold am_stp; rw [hd.2]; subst hp; exact ⟨x, r, rfl, hk, h _ (gl1 hl _ _) n hn⟩
theorem g_lload {k : _} {x : Int64} (p : Nat) (hd : GD m pc (.lload k) 2) (hp : pc + 2 = p) (hf : f k = some (.long x)) (h : GG Z d m ret xp N p f (.long x :: st) ws C S) : GG Z d m ret xp (N + 1) pc f st ws C S :=
  g_st fun lv hl n hn => by unfold am_stp; rw [hd.2]; subst hp; exact ⟨x, hl _ _ hf, h lv hl n hn⟩
theorem g_lstore {k : _} {x : Int64} (p : Nat) (hd : GD m pc (.lstore k) 2) (hp : pc + 2 = p) (hk : k + 1 < xn m) (h : GG Z d m ret xp N p (g2 k (.long x) f) r ws C S) : GG Z d m ret xp (N + 1) pc f (.long x :: r) ws C S :=
  g_st fun lv hl n hn => by unfold am_stp; rw [hd.2]; subst hp; exact ⟨x, r, rfl, hk, h _ (gl2 hl _ _) n hn⟩
theorem g_lload_n {k : _} {x : Int64} (p : Nat) (hd : GD m pc (.lload_n k) 1) (hp : pc + 1 = p) (hf : f (k : Nat) = some (.long x)) (h : GG Z d m ret xp N p f (.long x :: st) ws C S) : GG Z d m ret xp (N + 1) pc f st ws C S :=
  g_st fun lv hl n hn => by unfold am_stp; rw [hd.2]; subst hp; exact ⟨x, hl _ _ hf, h lv hl n hn⟩
theorem g_lstore_n {k : _} {x : Int64} (p : Nat) (hd : GD m pc (.lstore_n k) 1) (hp : pc + 1 = p) (hk : (k : Nat) + 1 < xn m) (h : GG Z d m ret xp N p (g2 (k : Nat) (.long x) f) r ws C S) : GG Z d m ret xp (N + 1) pc f (.long x :: r) ws C S :=
  g_st fun lv hl n hn => by unfold am_stp; rw [hd.2]; subst hp; exact ⟨x, r, rfl, hk, h _ (gl2 hl _ _) n hn⟩
theorem g_aload {k : _} {x : Nat} (p : Nat) (hd : GD m pc (.aload k) 2) (hp : pc + 2 = p) (hf : f k = some (.ref x)) (h : GG Z d m ret xp N p f (.ref x :: st) ws C S) : GG Z d m ret xp (N + 1) pc f st ws C S :=
  g_st fun lv hl n hn => by unfold am_stp; rw [hd.2]; subst hp; exact ⟨x, hl _ _ hf, h lv hl n hn⟩
theorem g_astore {k : _} {x : Nat} (p : Nat) (hd : GD m pc (.astore k) 2) (hp : pc + 2 = p) (hk : k < xn m) (h : GG Z d m ret xp N p (g1 k (.ref x) f) r ws C S) : GG Z d m ret xp (N + 1) pc f (.ref x :: r) ws C S :=
  g_st fun lv hl n hn => by unfold am_stp; rw [hd.2]; subst hp; exact ⟨x, r, rfl, hk, h _ (gl1 hl _ _) n hn⟩
theorem g_aload_n {k : _} {x : Nat} (p : Nat) (hd : GD m pc (.aload_n k) 1) (hp : pc + 1 = p) (hf : f (k : Nat) = some (.ref x)) (h : GG Z d m ret xp N p f (.ref x :: st) ws C S) : GG Z d m ret xp (N + 1) pc f st ws C S :=
  g_st fun lv hl n hn => by unfold am_stp; rw [hd.2]; subst hp; exact ⟨x, hl _ _ hf, h lv hl n hn⟩
theorem g_astore_n {k : _} {x : Nat} (p : Nat) (hd : GD m pc (.astore_n k) 1) (hp : pc + 1 = p) (hk : (k : Nat) < xn m) (h : GG Z d m ret xp N p (g1 (k : Nat) (.ref x) f) r ws C S) : GG Z d m ret xp (N + 1) pc f (.ref x :: r) ws C S :=
  g_st fun lv hl n hn => by unfold am_stp; rw [hd.2]; subst hp; exact ⟨x, r, rfl, hk, h _ (gl1 hl _ _) n hn⟩
theorem g_iinc {k : Nat} {a : Int} {x : Int32} (p : Nat) (hd : GD m pc (.iinc k a) 3) (hp : pc + 3 = p) (hf : f k = some (.int x)) (hk : k < xn m) (h : ∀ z, z = x + Int32.ofInt a → GG Z d m ret xp N p (g1 k (.int z) f) st ws C S) : GG Z d m ret xp (N + 1) pc f st ws C S :=
  g_st fun lv hl n hn => by unfold am_stp; rw [hd.2]; subst hp; exact ⟨x, hl _ _ hf, hk, h _ rfl _ (gl1 hl _ _) n hn⟩
theorem g_iadd {x y : Int32} (p : Nat) (hd : GD m pc (.iadd) 1) (hp : pc + 1 = p) (h : ∀ z, z = x + y → GG Z d m ret xp N p f (.int z :: r) ws C S) : GG Z d m ret xp (N + 1) pc f (.int y :: .int x :: r) ws C S :=
  g_st fun lv hl n hn => by unfold am_stp; rw [hd.2]; subst hp; exact ⟨x, y, r, rfl, h _ rfl lv hl n hn⟩
theorem g_isub {x y : Int32} (p : Nat) (hd : GD m pc (.isub) 1) (hp : pc + 1 = p) (h : ∀ z, z = x - y → GG Z d m ret xp N p f (.int z :: r) ws C S) : GG Z d m ret xp (N + 1) pc f (.int y :: .int x :: r) ws C S :=
  g_st fun lv hl n hn => by unfold am_stp; rw [hd.2]; subst hp; exact ⟨x, y, r, rfl, h _ rfl lv hl n hn⟩
theorem g_imul {x y : Int32} (p : Nat) (hd : GD m pc (.imul) 1) (hp : pc + 1 = p) (h : ∀ z, z = x * y → GG Z d m ret xp N p f (.int z :: r) ws C S) : GG Z d m ret xp (N + 1) pc f (.int y :: .int x :: r) ws C S :=
  g_st fun lv hl n hn => by unfold am_stp; rw [hd.2]; subst hp; exact ⟨x, y, r, rfl, h _ rfl lv hl n hn⟩
theorem g_iand {x y : Int32} (p : Nat) (hd : GD m pc (.iand) 1) (hp : pc + 1 = p) (h : ∀ z, z = x &&& y → GG Z d m ret xp N p f (.int z :: r) ws C S) : GG Z d m ret xp (N + 1) pc f (.int y :: .int x :: r) ws C S :=
  g_st fun lv hl n hn => by unfold am_stp; rw [hd.2]; subst hp; exact ⟨x, y, r, rfl, h _ rfl lv hl n hn⟩
theorem g_ior {x y : Int32} (p : Nat) (hd : GD m pc (.ior) 1) (hp : pc + 1 = p) (h : ∀ z, z = x ||| y → GG Z d m ret xp N p f (.int z :: r) ws C S) : GG Z d m ret xp (N + 1) pc f (.int y :: .int x :: r) ws C S :=
  g_st fun lv hl n hn => by unfold am_stp; rw [hd.2]; subst hp; exact ⟨x, y, r, rfl, h _ rfl lv hl n hn⟩
theorem g_ixor {x y : Int32} (p : Nat) (hd : GD m pc (.ixor) 1) (hp : pc + 1 = p) (h : ∀ z, z = x ^^^ y → GG Z d m ret xp N p f (.int z :: r) ws C S) : GG Z d m ret xp (N + 1) pc f (.int y :: .int x :: r) ws C S :=
  g_st fun lv hl n hn => by unfold am_stp; rw [hd.2]; subst hp; exact ⟨x, y, r, rfl, h _ rfl lv hl n hn⟩
theorem g_ishl {x y : Int32} (p : Nat) (hd : GD m pc (.ishl) 1) (hp : pc + 1 = p) (h : ∀ z, z = x <<< (y &&& 31) → GG Z d m ret xp N p f (.int z :: r) ws C S) : GG Z d m ret xp (N + 1) pc f (.int y :: .int x :: r) ws C S :=
  g_st fun lv hl n hn => by unfold am_stp; rw [hd.2]; subst hp; exact ⟨x, y, r, rfl, h _ rfl lv hl n hn⟩
theorem g_ishr {x y : Int32} (p : Nat) (hd : GD m pc (.ishr) 1) (hp : pc + 1 = p) (h : ∀ z, z = x >>> (y &&& 31) → GG Z d m ret xp N p f (.int z :: r) ws C S) : GG Z d m ret xp (N + 1) pc f (.int y :: .int x :: r) ws C S :=
  g_st fun lv hl n hn => by unfold am_stp; rw [hd.2]; subst hp; exact ⟨x, y, r, rfl, h _ rfl lv hl n hn⟩
theorem g_iushr {x y : Int32} (p : Nat) (hd : GD m pc (.iushr) 1) (hp : pc + 1 = p) (h : ∀ z, z = (x.toUInt32 >>> (y.toUInt32 &&& Int32.toUInt32 31)).toInt32 → GG Z d m ret xp N p f (.int z :: r) ws C S) : GG Z d m ret xp (N + 1) pc f (.int y :: .int x :: r) ws C S :=
  g_st fun lv hl n hn => by unfold am_stp; rw [hd.2]; subst hp; exact ⟨x, y, r, rfl, h _ rfl lv hl n hn⟩
theorem g_idiv {x y : Int32} (p : Nat) (hd : GD m pc (.idiv) 1) (hp : pc + 1 = p) (h0 : ¬ y = 0) (h : ∀ z, z = x / y → GG Z d m ret xp N p f (.int z :: r) ws C S) : GG Z d m ret xp (N + 1) pc f (.int y :: .int x :: r) ws C S :=
  g_st fun lv hl n hn => by unfold am_stp; rw [hd.2]; subst hp; exact ⟨x, y, r, rfl, h0, h _ rfl lv hl n hn⟩
theorem g_irem {x y : Int32} (p : Nat) (hd : GD m pc (.irem) 1) (hp : pc + 1 = p) (h0 : ¬ y = 0) (h : ∀ z, z = x - x / y * y → GG Z d m ret xp N p f (.int z :: r) ws C S) : GG Z d m ret xp (N + 1) pc f (.int y :: .int x :: r) ws C S :=
  g_st fun lv hl n hn => by unfold am_stp; rw [hd.2]; subst hp; exact ⟨x, y, r, rfl, h0, h _ rfl lv hl n hn⟩
theorem g_ladd {x y : Int64} (p : Nat) (hd : GD m pc (.ladd) 1) (hp : pc + 1 = p) (h : ∀ z, z = x + y → GG Z d m ret xp N p f (.long z :: r) ws C S) : GG Z d m ret xp (N + 1) pc f (.long y :: .long x :: r) ws C S :=
  g_st fun lv hl n hn => by unfold am_stp; rw [hd.2]; subst hp; exact ⟨x, y, r, rfl, h _ rfl lv hl n hn⟩
theorem g_lsub {x y : Int64} (p : Nat) (hd : GD m pc (.lsub) 1) (hp : pc + 1 = p) (h : ∀ z, z = x - y → GG Z d m ret xp N p f (.long z :: r) ws C S) : GG Z d m ret xp (N + 1) pc f (.long y :: .long x :: r) ws C S :=
  g_st fun lv hl n hn => by unfold am_stp; rw [hd.2]; subst hp; exact ⟨x, y, r, rfl, h _ rfl lv hl n hn⟩
theorem g_lmul {x y : Int64} (p : Nat) (hd : GD m pc (.lmul) 1) (hp : pc + 1 = p) (h : ∀ z, z = x * y → GG Z d m ret xp N p f (.long z :: r) ws C S) : GG Z d m ret xp (N + 1) pc f (.long y :: .long x :: r) ws C S :=
  g_st fun lv hl n hn => by unfold am_stp; rw [hd.2]; subst hp; exact ⟨x, y, r, rfl, h _ rfl lv hl n hn⟩
theorem g_land {x y : Int64} (p : Nat) (hd : GD m pc (.land) 1) (hp : pc + 1 = p) (h : ∀ z, z = x &&& y → GG Z d m ret xp N p f (.long z :: r) ws C S) : GG Z d m ret xp (N + 1) pc f (.long y :: .long x :: r) ws C S :=
  g_st fun lv hl n hn => by unfold am_stp; rw [hd.2]; subst hp; exact ⟨x, y, r, rfl, h _ rfl lv hl n hn⟩
theorem g_lor {x y : Int64} (p : Nat) (hd : GD m pc (.lor) 1) (hp : pc + 1 = p) (h : ∀ z, z = x ||| y → GG Z d m ret xp N p f (.long z :: r) ws C S) : GG Z d m ret xp (N + 1) pc f (.long y :: .long x :: r) ws C S :=
  g_st fun lv hl n hn => by unfold am_stp; rw [hd.2]; subst hp; exact ⟨x, y, r, rfl, h _ rfl lv hl n hn⟩
theorem g_lxor {x y : Int64} (p : Nat) (hd : GD m pc (.lxor) 1) (hp : pc + 1 = p) (h : ∀ z, z = x ^^^ y → GG Z d m ret xp N p f (.long z :: r) ws C S) : GG Z d m ret xp (N + 1) pc f (.long y :: .long x :: r) ws C S :=
  g_st fun lv hl n hn => by unfold am_stp; rw [hd.2]; subst hp; exact ⟨x, y, r, rfl, h _ rfl lv hl n hn⟩
theorem g_ldiv {x y : Int64} (p : Nat) (hd : GD m pc (.ldiv) 1) (hp : pc + 1 = p) (h0 : ¬ y = 0) (h : ∀ z, z = x / y → GG Z d m ret xp N p f (.long z :: r) ws C S) : GG Z d m ret xp (N + 1) pc f (.long y :: .long x :: r) ws C S :=
  g_st fun lv hl n hn => by unfold am_stp; rw [hd.2]; subst hp; exact ⟨x, y, r, rfl, h0, h _ rfl lv hl n hn⟩
theorem g_lrem {x y : Int64} (p : Nat) (hd : GD m pc (.lrem) 1) (hp : pc + 1 = p) (h0 : ¬ y = 0) (h : ∀ z, z = x - x / y * y → GG Z d m ret xp N p f (.long z :: r) ws C S) : GG Z d m ret xp (N + 1) pc f (.long y :: .long x :: r) ws C S :=
  g_st fun lv hl n hn => by unfold am_stp; rw [hd.2]; subst hp; exact ⟨x, y, r, rfl, h0, h _ rfl lv hl n hn⟩
theorem g_lshl {x : Int64} {y : Int32} (p : Nat) (hd : GD m pc (.lshl) 1) (hp : pc + 1 = p) (h : ∀ z, z = x <<< (y.toInt64 &&& 63) → GG Z d m ret xp N p f (.long z :: r) ws C S) : GG Z d m ret xp (N + 1) pc f (.int y :: .long x :: r) ws C S :=
  g_st fun lv hl n hn => by unfold am_stp; rw [hd.2]; subst hp; exact ⟨x, y, r, rfl, h _ rfl lv hl n hn⟩
theorem g_lshr {x : Int64} {y : Int32} (p : Nat) (hd : GD m pc (.lshr) 1) (hp : pc + 1 = p) (h : ∀ z, z = x >>> (y.toInt64 &&& 63) → GG Z d m ret xp N p f (.long z :: r) ws C S) : GG Z d m ret xp (N + 1) pc f (.int y :: .long x :: r) ws C S :=
  g_st fun lv hl n hn => by unfold am_stp; rw [hd.2]; subst hp; exact ⟨x, y, r, rfl, h _ rfl lv hl n hn⟩
theorem g_lushr {x : Int64} {y : Int32} (p : Nat) (hd : GD m pc (.lushr) 1) (hp : pc + 1 = p) (h : ∀ z, z = (x.toUInt64 >>> (y.toInt64.toUInt64 &&& Int64.toUInt64 63)).toInt64 → GG Z d m ret xp N p f (.long z :: r) ws C S) : GG Z d m ret xp (N + 1) pc f (.int y :: .long x :: r) ws C S :=
  g_st fun lv hl n hn => by unfold am_stp; rw [hd.2]; subst hp; exact ⟨x, y, r, rfl, h _ rfl lv hl n hn⟩
theorem g_lcmp {x y : Int64} (p : Nat) (hd : GD m pc (.lcmp) 1) (hp : pc + 1 = p) (h : ∀ z, z = lg_cmp x y → GG Z d m ret xp N p f (.int z :: r) ws C S) : GG Z d m ret xp (N + 1) pc f (.long y :: .long x :: r) ws C S :=
  g_st fun lv hl n hn => by unfold am_stp; rw [hd.2]; subst hp; exact ⟨x, y, r, rfl, h _ rfl lv hl n hn⟩
theorem g_ineg {x : Int32} (p : Nat) (hd : GD m pc (.ineg) 1) (hp : pc + 1 = p) (h : ∀ z, z = -x → GG Z d m ret xp N p f (.int z :: r) ws C S) : GG Z d m ret xp (N + 1) pc f (.int x :: r) ws C S :=
  g_st fun lv hl n hn => by unfold am_stp; rw [hd.2]; subst hp; exact ⟨x, r, rfl, h _ rfl lv hl n hn⟩
theorem g_lneg {x : Int64} (p : Nat) (hd : GD m pc (.lneg) 1) (hp : pc + 1 = p) (h : ∀ z, z = -x → GG Z d m ret xp N p f (.long z :: r) ws C S) : GG Z d m ret xp (N + 1) pc f (.long x :: r) ws C S :=
  g_st fun lv hl n hn => by unfold am_stp; rw [hd.2]; subst hp; exact ⟨x, r, rfl, h _ rfl lv hl n hn⟩
theorem g_i2l {x : Int32} (p : Nat) (hd : GD m pc (.i2l) 1) (hp : pc + 1 = p) (h : ∀ z, z = x.toInt64 → GG Z d m ret xp N p f (.long z :: r) ws C S) : GG Z d m ret xp (N + 1) pc f (.int x :: r) ws C S :=
  g_st fun lv hl n hn => by unfold am_stp; rw [hd.2]; subst hp; exact ⟨x, r, rfl, h _ rfl lv hl n hn⟩
theorem g_l2i {x : Int64} (p : Nat) (hd : GD m pc (.l2i) 1) (hp : pc + 1 = p) (h : ∀ z, z = x.toInt32 → GG Z d m ret xp N p f (.int z :: r) ws C S) : GG Z d m ret xp (N + 1) pc f (.long x :: r) ws C S :=
  g_st fun lv hl n hn => by unfold am_stp; rw [hd.2]; subst hp; exact ⟨x, r, rfl, h _ rfl lv hl n hn⟩
theorem g_i2c {x : Int32} (p : Nat) (hd : GD m pc (.i2c) 1) (hp : pc + 1 = p) (h : ∀ z, z = (x.toUInt32 % 65536).toInt32 → GG Z d m ret xp N p f (.int z :: r) ws C S) : GG Z d m ret xp (N + 1) pc f (.int x :: r) ws C S :=
  g_st fun lv hl n hn => by unfold am_stp; rw [hd.2]; subst hp; exact ⟨x, r, rfl, h _ rfl lv hl n hn⟩
theorem g_dup {v : Value} (p : Nat) (hd : GD m pc (.dup) 1) (hp : pc + 1 = p) (hv : v.category = 1) (h : GG Z d m ret xp N p f (v :: v :: r) ws C S) : GG Z d m ret xp (N + 1) pc f (v :: r) ws C S :=
  g_st fun lv hl n hn => by unfold am_stp; rw [hd.2]; subst hp; exact ⟨v, r, rfl, hv, h lv hl n hn⟩
theorem g_pop {v : Value} (p : Nat) (hd : GD m pc (.pop) 1) (hp : pc + 1 = p) (hv : v.category = 1) (h : GG Z d m ret xp N p f r ws C S) : GG Z d m ret xp (N + 1) pc f (v :: r) ws C S :=
  g_st fun lv hl n hn => by unfold am_stp; rw [hd.2]; subst hp; exact ⟨v, r, rfl, hv, h lv hl n hn⟩
theorem g_pop2 {v : Value} (p : Nat) (hd : GD m pc (.pop2) 1) (hp : pc + 1 = p) (hv : v.category = 2) (h : GG Z d m ret xp N p f r ws C S) : GG Z d m ret xp (N + 1) pc f (v :: r) ws C S :=
  g_st fun lv hl n hn => by unfold am_stp; rw [hd.2]; subst hp; exact ⟨v, r, rfl, hv, h lv hl n hn⟩
theorem g_dup2 {v v2 : Value} (p : Nat) (hd : GD m pc (.dup2) 1) (hp : pc + 1 = p) (hv : v.category = 1) (hv2 : v2.category = 1) (h : GG Z d m ret xp N p f (v :: v2 :: v :: v2 :: r) ws C S) : GG Z d m ret xp (N + 1) pc f (v :: v2 :: r) ws C S :=
  g_st fun lv hl n hn => by unfold am_stp; rw [hd.2]; subst hp; exact ⟨v, v2, r, rfl, hv, hv2, h lv hl n hn⟩
theorem gj {pc t : Nat} {o : Int} (h : (pc : Int) + o = (t : Int)) : 0 ≤ (pc : Int) + o ∧ ((pc : Int) + o).toNat = t := by
  rw [h]
  exact ⟨Int.natCast_nonneg t, Int.toNat_natCast t⟩
theorem i_lt {x y : Int32} : x < y ↔ x.toInt < y.toInt := Int32.lt_iff_toInt_lt
theorem i_le {x y : Int32} : x ≤ y ↔ x.toInt ≤ y.toInt := Int32.le_iff_toInt_le
theorem i_eq {x y : Int32} : x = y ↔ x.toInt = y.toInt := Int32.toInt_inj.symm
theorem i_z : (0 : Int32).toInt = 0 := rfl
theorem g_if_eq {x : Int32} {o : Int} (p t : Nat) (hd : GD m pc (.ifCond .eq o) 3) (hp : pc + 3 = p) (ht : (pc : Int) + o = (t : Int)) (h1 : x.toInt = 0 → GG Z d m ret xp N t f r ws C S) (h2 : x.toInt ≠ 0 → GG Z d m ret xp N p f r ws C S) : GG Z d m ret xp (N + 1) pc f (.int x :: r) ws C S :=
  g_st fun lv hl n hn => by unfold am_stp; rw [hd.2]; subst hp; exact ⟨x, r, rfl, (gj ht).1, fun c => by rw [(gj ht).2]; exact h1 (i_eq.mp c) lv hl n hn, fun c => h2 (fun e => c (i_eq.mpr e)) lv hl n hn⟩
theorem g_if_ne {x : Int32} {o : Int} (p t : Nat) (hd : GD m pc (.ifCond .ne o) 3) (hp : pc + 3 = p) (ht : (pc : Int) + o = (t : Int)) (h1 : x.toInt ≠ 0 → GG Z d m ret xp N t f r ws C S) (h2 : x.toInt = 0 → GG Z d m ret xp N p f r ws C S) : GG Z d m ret xp (N + 1) pc f (.int x :: r) ws C S :=
  g_st fun lv hl n hn => by unfold am_stp; rw [hd.2]; subst hp; exact ⟨x, r, rfl, (gj ht).1, fun c => by rw [(gj ht).2]; exact h1 (fun e => c (i_eq.mpr e)) lv hl n hn, fun c => h2 (i_eq.mp c) lv hl n hn⟩
theorem g_if_lt {x : Int32} {o : Int} (p t : Nat) (hd : GD m pc (.ifCond .lt o) 3) (hp : pc + 3 = p) (ht : (pc : Int) + o = (t : Int)) (h1 : x.toInt < 0 → GG Z d m ret xp N t f r ws C S) (h2 : 0 ≤ x.toInt → GG Z d m ret xp N p f r ws C S) : GG Z d m ret xp (N + 1) pc f (.int x :: r) ws C S :=
  g_st fun lv hl n hn => by unfold am_stp; rw [hd.2]; subst hp; exact ⟨x, r, rfl, (gj ht).1, fun c => by rw [(gj ht).2]; exact h1 (i_lt.mp c) lv hl n hn, fun c => h2 (Int.not_lt.mp fun e => c (i_lt.mpr e)) lv hl n hn⟩
theorem g_if_ge {x : Int32} {o : Int} (p t : Nat) (hd : GD m pc (.ifCond .ge o) 3) (hp : pc + 3 = p) (ht : (pc : Int) + o = (t : Int)) (h1 : 0 ≤ x.toInt → GG Z d m ret xp N t f r ws C S) (h2 : x.toInt < 0 → GG Z d m ret xp N p f r ws C S) : GG Z d m ret xp (N + 1) pc f (.int x :: r) ws C S :=
  g_st fun lv hl n hn => by unfold am_stp; rw [hd.2]; subst hp; exact ⟨x, r, rfl, (gj ht).1, fun c => by rw [(gj ht).2]; exact h1 (i_le.mp c) lv hl n hn, fun c => h2 (Int.not_le.mp fun e => c (i_le.mpr e)) lv hl n hn⟩
theorem g_if_gt {x : Int32} {o : Int} (p t : Nat) (hd : GD m pc (.ifCond .gt o) 3) (hp : pc + 3 = p) (ht : (pc : Int) + o = (t : Int)) (h1 : 0 < x.toInt → GG Z d m ret xp N t f r ws C S) (h2 : x.toInt ≤ 0 → GG Z d m ret xp N p f r ws C S) : GG Z d m ret xp (N + 1) pc f (.int x :: r) ws C S :=
  g_st fun lv hl n hn => by unfold am_stp; rw [hd.2]; subst hp; exact ⟨x, r, rfl, (gj ht).1, fun c => by rw [(gj ht).2]; exact h1 (i_lt.mp c) lv hl n hn, fun c => h2 (Int.not_lt.mp fun e => c (i_lt.mpr e)) lv hl n hn⟩
theorem g_if_le {x : Int32} {o : Int} (p t : Nat) (hd : GD m pc (.ifCond .le o) 3) (hp : pc + 3 = p) (ht : (pc : Int) + o = (t : Int)) (h1 : x.toInt ≤ 0 → GG Z d m ret xp N t f r ws C S) (h2 : 0 < x.toInt → GG Z d m ret xp N p f r ws C S) : GG Z d m ret xp (N + 1) pc f (.int x :: r) ws C S :=
  g_st fun lv hl n hn => by unfold am_stp; rw [hd.2]; subst hp; exact ⟨x, r, rfl, (gj ht).1, fun c => by rw [(gj ht).2]; exact h1 (i_le.mp c) lv hl n hn, fun c => h2 (Int.not_le.mp fun e => c (i_le.mpr e)) lv hl n hn⟩
theorem g_cmp_eq {x y : Int32} {o : Int} (p t : Nat) (hd : GD m pc (.if_icmp .eq o) 3) (hp : pc + 3 = p) (ht : (pc : Int) + o = (t : Int)) (h1 : x.toInt = y.toInt → GG Z d m ret xp N t f r ws C S) (h2 : x.toInt ≠ y.toInt → GG Z d m ret xp N p f r ws C S) : GG Z d m ret xp (N + 1) pc f (.int y :: .int x :: r) ws C S :=
  g_st fun lv hl n hn => by unfold am_stp; rw [hd.2]; subst hp; exact ⟨x, y, r, rfl, (gj ht).1, fun c => by rw [(gj ht).2]; exact h1 (i_eq.mp c) lv hl n hn, fun c => h2 (fun e => c (i_eq.mpr e)) lv hl n hn⟩
theorem g_cmp_ne {x y : Int32} {o : Int} (p t : Nat) (hd : GD m pc (.if_icmp .ne o) 3) (hp : pc + 3 = p) (ht : (pc : Int) + o = (t : Int)) (h1 : x.toInt ≠ y.toInt → GG Z d m ret xp N t f r ws C S) (h2 : x.toInt = y.toInt → GG Z d m ret xp N p f r ws C S) : GG Z d m ret xp (N + 1) pc f (.int y :: .int x :: r) ws C S :=
  g_st fun lv hl n hn => by unfold am_stp; rw [hd.2]; subst hp; exact ⟨x, y, r, rfl, (gj ht).1, fun c => by rw [(gj ht).2]; exact h1 (fun e => c (i_eq.mpr e)) lv hl n hn, fun c => h2 (i_eq.mp c) lv hl n hn⟩
theorem g_cmp_lt {x y : Int32} {o : Int} (p t : Nat) (hd : GD m pc (.if_icmp .lt o) 3) (hp : pc + 3 = p) (ht : (pc : Int) + o = (t : Int)) (h1 : x.toInt < y.toInt → GG Z d m ret xp N t f r ws C S) (h2 : y.toInt ≤ x.toInt → GG Z d m ret xp N p f r ws C S) : GG Z d m ret xp (N + 1) pc f (.int y :: .int x :: r) ws C S :=
  g_st fun lv hl n hn => by unfold am_stp; rw [hd.2]; subst hp; exact ⟨x, y, r, rfl, (gj ht).1, fun c => by rw [(gj ht).2]; exact h1 (i_lt.mp c) lv hl n hn, fun c => h2 (Int.not_lt.mp fun e => c (i_lt.mpr e)) lv hl n hn⟩
theorem g_cmp_ge {x y : Int32} {o : Int} (p t : Nat) (hd : GD m pc (.if_icmp .ge o) 3) (hp : pc + 3 = p) (ht : (pc : Int) + o = (t : Int)) (h1 : y.toInt ≤ x.toInt → GG Z d m ret xp N t f r ws C S) (h2 : x.toInt < y.toInt → GG Z d m ret xp N p f r ws C S) : GG Z d m ret xp (N + 1) pc f (.int y :: .int x :: r) ws C S :=
  g_st fun lv hl n hn => by unfold am_stp; rw [hd.2]; subst hp; exact ⟨x, y, r, rfl, (gj ht).1, fun c => by rw [(gj ht).2]; exact h1 (i_le.mp c) lv hl n hn, fun c => h2 (Int.not_le.mp fun e => c (i_le.mpr e)) lv hl n hn⟩
theorem g_cmp_gt {x y : Int32} {o : Int} (p t : Nat) (hd : GD m pc (.if_icmp .gt o) 3) (hp : pc + 3 = p) (ht : (pc : Int) + o = (t : Int)) (h1 : y.toInt < x.toInt → GG Z d m ret xp N t f r ws C S) (h2 : x.toInt ≤ y.toInt → GG Z d m ret xp N p f r ws C S) : GG Z d m ret xp (N + 1) pc f (.int y :: .int x :: r) ws C S :=
  g_st fun lv hl n hn => by unfold am_stp; rw [hd.2]; subst hp; exact ⟨x, y, r, rfl, (gj ht).1, fun c => by rw [(gj ht).2]; exact h1 (i_lt.mp c) lv hl n hn, fun c => h2 (Int.not_lt.mp fun e => c (i_lt.mpr e)) lv hl n hn⟩
theorem g_cmp_le {x y : Int32} {o : Int} (p t : Nat) (hd : GD m pc (.if_icmp .le o) 3) (hp : pc + 3 = p) (ht : (pc : Int) + o = (t : Int)) (h1 : x.toInt ≤ y.toInt → GG Z d m ret xp N t f r ws C S) (h2 : y.toInt < x.toInt → GG Z d m ret xp N p f r ws C S) : GG Z d m ret xp (N + 1) pc f (.int y :: .int x :: r) ws C S :=
  g_st fun lv hl n hn => by unfold am_stp; rw [hd.2]; subst hp; exact ⟨x, y, r, rfl, (gj ht).1, fun c => by rw [(gj ht).2]; exact h1 (i_le.mp c) lv hl n hn, fun c => h2 (Int.not_le.mp fun e => c (i_le.mpr e)) lv hl n hn⟩
theorem g_goto {o : Int} (t : Nat) (hd : GD m pc (.goto o) 3) (ht : (pc : Int) + o = (t : Int)) (h : GG Z d m ret xp N t f st ws C S) : GG Z d m ret xp (N + 1) pc f st ws C S :=
  g_st fun lv hl n hn => by unfold am_stp; rw [hd.2]; exact ⟨(gj ht).1, by rw [(gj ht).2]; exact h lv hl n hn⟩
theorem g_ireturn {x : Int32} {ty : FieldType} (hd : GD m pc .ireturn 1) (hr : xr m = some ty) (hn : narrow ty (.int x) = .int x) (h : ret (some (.int x)) ws) : GG Z d m ret xp (N + 1) pc f [.int x] ws C S :=
  g_st fun lv hl n _ => by unfold am_stp; rw [hd.2]; exact ⟨x, ty, rfl, hr, hn, h⟩
theorem g_lreturn {x : Int64} (hd : GD m pc .lreturn 1) (hr : xr m = some .long) (h : ret (some (.long x)) ws) : GG Z d m ret xp (N + 1) pc f [.long x] ws C S :=
  g_st fun lv hl n _ => by unfold am_stp; rw [hd.2]; exact ⟨x, rfl, hr, h⟩
theorem g_return (hd : GD m pc .return_ 1) (hr : xr m = none) (h : ret none ws) : GG Z d m ret xp (N + 1) pc f [] ws C S :=
  g_st fun lv hl n _ => by unfold am_stp; rw [hd.2]; exact ⟨rfl, hr, h⟩
theorem g_areturn {a : Nat} {c : String} (hd : GD m pc .areturn 1) (hr : xr m = some (.object c)) (h : ret (some (.ref a)) ws) : GG Z d m ret xp (N + 1) pc f [.ref a] ws C S :=
  g_st fun lv hl n _ => by unfold am_stp; rw [hd.2]; exact ⟨a, _, rfl, hr, Or.inl ⟨c, rfl⟩, h⟩
/-- a switch by a table: the cases one by one -/
def GT (Z : AmZ) (d m : Nat) (ret : AmR) (xp : GX) (N : Nat) (f : Nat → Option Value) (r : List Value) (ws : va_W) (C S : Nat) (x : Int32) : Int → List Nat → Prop
  | _, [] => True
  | v, t :: ts => (x.toInt = v → GG Z d m ret xp N t f r ws C S) ∧ GT Z d m ret xp N f r ws C S x (v + 1) ts
theorem gt_at {x : Int32} : ∀ {v : Int} {ts : List Nat}, GT Z d m ret xp N f r ws C S x v ts → ∀ {j t : Nat}, ts[j]? = some t → x.toInt = v + j → GG Z d m ret xp N t f r ws C S
  | v, [], _, j, t, h, _ => by cases h
  | v, t0 :: ts, g, 0, t, h, hx => by
    have h : some t0 = some t := h
    cases h
    exact g.1 (by rw [hx]; omega)
  | v, t0 :: ts, g, j + 1, t, h, hx => gt_at g.2 (j := j) h (by rw [hx]; omega)
/-- a switch by keys -/
def GU (Z : AmZ) (d m : Nat) (ret : AmR) (xp : GX) (N : Nat) (f : Nat → Option Value) (r : List Value) (ws : va_W) (C S : Nat) (x : Int32) (td : Nat) : List (Int × Nat) → Prop
  | [] => GG Z d m ret xp N td f r ws C S
  | q :: cs => (x.toInt = q.1 → GG Z d m ret xp N q.2 f r ws C S) ∧ (x.toInt ≠ q.1 → GU Z d m ret xp N f r ws C S x td cs)
theorem gu_at {x : Int32} {df : Int} {td : Nat} (htd : (pc : Int) + df = (td : Int)) : ∀ {ps : List (Int × Int)} {cs : List (Int × Nat)}, ps.map (fun q => (q.1, (pc : Int) + q.2)) = cs.map (fun q => (q.1, (q.2 : Int))) → GU Z d m ret xp N f r ws C S x td cs → ∃ t : Nat, (pc : Int) + Op.lookupswitch.offset ps df x.toInt = (t : Int) ∧ GG Z d m ret xp N t f r ws C S
  | [], [], _, g => ⟨td, htd, g⟩
  | [], _ :: _, h, _ => by cases h
  | _ :: _, [], h, _ => by cases h
  | (a, o) :: ps, (b, t) :: cs, h, g => by
    rw [List.map_cons, List.map_cons] at h
    obtain ⟨h1, h2⟩ := List.cons.inj h
    have h3 : a = b := congrArg Prod.fst h1
    have h4 : (pc : Int) + o = (t : Int) := congrArg Prod.snd h1
    by_cases e : a = x.toInt
    · refine ⟨t, ?_, g.1 (by rw [← e]; exact h3)⟩
      show (pc : Int) + (if a = x.toInt then o else _) = _
      rw [if_pos e, h4]
    · obtain ⟨t2, k1, k2⟩ := gu_at htd h2 (g.2 (fun z => e (by rw [h3]; exact z.symm)))
      refine ⟨t2, ?_, k2⟩
      show (pc : Int) + (if a = x.toInt then o else _) = _
      rw [if_neg e]
      exact k1
theorem g_lsw {x : Int32} {df : Int} {ps : Array (Int × Int)} {len : Nat} (cs : List (Int × Nat)) (td : Nat) (hd : GD m pc (.lookupswitch df ps) len) (hcs : ps.toList.map (fun q => (q.1, (pc : Int) + q.2)) = cs.map (fun q => (q.1, (q.2 : Int)))) (hs : (ps.toList.zip (ps.toList.drop 1)).all (fun (a, next) => a.1 < next.1) = true) (htd : (pc : Int) + df = (td : Int)) (h : GU Z d m ret xp N f r ws C S x td cs) : GG Z d m ret xp (N + 1) pc f (.int x :: r) ws C S := by
  obtain ⟨t, h1, h2⟩ := gu_at htd hcs h
  refine g_st fun lv hlv n hn => ?_
  unfold am_stp
  rw [hd.2]
  refine ⟨x, r, rfl, hs, (gj h1).1, ?_⟩
  rw [(gj h1).2]
  exact h2 lv hlv n hn
theorem g_tsw {x : Int32} {df lo hi : Int} {os : Array Int} {len : Nat} (ts : List Nat) (td : Nat) (hd : GD m pc (.tableswitch df lo hi os) len) (hts : os.toList.map (fun o => (pc : Int) + o) = ts.map (fun t : Nat => (t : Int))) (hsz : hi - lo + 1 = (ts.length : Int)) (htd : (pc : Int) + df = (td : Int)) (h1 : GT Z d m ret xp N f r ws C S x lo ts) (h2 : (x.toInt < lo ∨ hi < x.toInt) → GG Z d m ret xp N td f r ws C S) : GG Z d m ret xp (N + 1) pc f (.int x :: r) ws C S := by
  have ht : ∀ (j : Nat) (o : Int), os[j]? = some o → ∃ t : Nat, ts[j]? = some t ∧ (pc : Int) + o = (t : Int) := by
    intro j o ho
    have e := congrArg (fun l => l[j]?) hts
    simp only [List.getElem?_map, Array.getElem?_toList, ho, Option.map_some] at e
    cases hj : ts[j]? with
    | none => rw [hj] at e; cases e
    | some t => rw [hj] at e; exact ⟨t, rfl, Option.some.inj e⟩
  have hl : os.size = ts.length := by
    have e := congrArg List.length hts
    rw [List.length_map, List.length_map, Array.length_toList] at e
    exact e
  refine g_st fun lv hlv n hn => ?_
  unfold am_stp
  rw [hd.2]
  refine ⟨x, r, rfl, fun o c1 c2 ho => ?_, fun c1 c2 => ?_, fun c => ?_⟩
  · obtain ⟨t, h3, h4⟩ := ht _ _ ho
    refine ⟨(gj h4).1, ?_⟩
    rw [(gj h4).2]
    exact gt_at h1 h3 (by omega) lv hlv n hn
  · rw [Array.getElem?_eq_getElem (by omega)]
    rfl
  · refine ⟨(gj htd).1, ?_⟩
    rw [(gj htd).2]
    exact h2 c lv hlv n hn
/-- the body of an ordinary method, entered -/
theorem g_enter {k : Nat} {as : List Value} {mc ms : Nat} {X : AmX} (h0 : 0 < k) (hk : k < xm_n) (hk0 : xk k = 0) (hlen : (lg_sl as).length ≤ xn k) (h : GG Z d k ret (gx X) N 0 (fun j => xlook j (lv_args 0 as)) [] ws mc ms) : am_wp Z am_leaf (d + 1) (xy k) as ws mc ms ret X := by
  obtain ⟨c1, c2, c3, -, c5, -, -, -, -, -, c11⟩ := xm_w h0 hk
  refine Or.inr ⟨xc k, xn k, xr k, N, c5 hk0, c1, hlen, c2, ?_⟩
  have g := h (lv_args 0 as) (fun i v hv => xlook_mem hv) N (Nat.le_refl N)
  rw [← c3, c11] at g
  exact g
theorem g_en {e : String} {u : va_W} {X : AmX} (h : False) : X e u := h.elim
/-- what a method promises of a call: P of what it answers and leaves -/
def GC (Z : AmZ) (d k : Nat) (as : List Value) (ws : va_W) (mc ms : Nat) (P : AmR) (X : AmX) : Prop := ∀ (post : AmR) (xp : AmX), (∀ v u, P v u → post v u) → (∀ e u, X e u → xp e u) → am_wp Z am_leaf d (xy k) as ws mc ms post xp
def g_no : AmX := fun _ _ => False
theorem g_callv {i k nn p0 b q : Nat} {As st fs : List Value} {mc ms : Nat} {P : AmR} {X Y : AmX} (p : Nat) (hd : GD m pc (.invokevirtual i) 3) (hp : pc + 3 = p) (hl : xlD (xo m) i = some (k, nn, p0, 0)) (hk : (Nat.blt 0 k && Nat.blt k 1000 && Nat.beq (xk k) 0 && Nat.beq (xsta k) 0 && !(xin k)) = true) (hst : st = As.reverse ++ .ref b :: r) (hn : As.length = nn) (hq : ws[q]? = some (b, .inr (xo k, fs))) (hr : (r.map fun v => v.category).sum ≤ 8) (hC : mc ≤ C) (hS : ms ≤ S)
    (hc : GC Z d k (.ref b :: As) ws mc ms P Y) (hY : ∀ e u, Y e u → X e u) (h : ∀ v u, P v u → GG Z d m ret (gx X) N p f (v.toList ++ r) u (C - mc) (S - ms)) : GG Z d m ret (gx X) (N + 1) pc f st ws C S := by
  simp only [Bool.and_eq_true] at hk
  obtain ⟨⟨⟨⟨k1, k2⟩, k3⟩, k4⟩, k5⟩ := hk
  have k1 := Nat.lt_of_lt_of_le Nat.zero_lt_one (Nat.le_of_ble_eq_true k1)
  have k2 : k < 1000 := Nat.le_of_ble_eq_true k2
  have k3 := Nat.eq_of_beq_eq_true k3
  have k4 := Nat.eq_of_beq_eq_true k4
  obtain ⟨l1, l2, l3, -⟩ := xl_w hd.1 hl k2
  obtain ⟨-, -, c3, c4, -, -, -, c8, c9, c10, -⟩ := xm_w k1 l1
  refine g_st fun lv hlv n hn2 => ?_
  unfold am_stp
  rw [hd.2]
  subst hp
  have hxo : xo k < 13 := xins_all k1 l1 k4
  obtain ⟨T, NN, hT⟩ : ∃ T NN, vwCl[xo k]? = some ((xy k).cls, T, NN) := by
    have e : (xo k) < vwCl.length := by
      have : vwCl.length = 13 := by decide +kernel
      omega
    obtain ⟨⟨Cn, T, NN⟩, hv⟩ : ∃ q, vwCl[xo k]? = some q := ⟨_, List.getElem?_eq_getElem e⟩
    refine ⟨T, NN, ?_⟩
    rw [hv, c3, ← (xcls_all hv).1]
  refine Or.inl ⟨xy k, b, As, r, mc, ms, q, xo k, fs, T, NN, hst, ⟨c4.1, c4.2, by rw [l2, hn]⟩, l3 rfl, c8 (by rw [k4]; decide), c10 k4 (by cases hx : xin k with
    | true => rw [hx] at k5; cases k5
    | false => rfl), c9, hq, hT, hr, hC, hS, ?_⟩
  exact hc _ _ (fun v u hv => h v u hv lv hlv n hn2) hY
theorem g_calls {i k nn p0 w0 : Nat} {As st : List Value} {mc ms : Nat} {P : AmR} (p : Nat) (hd : GD m pc (.invokestatic i) 3) (hp : pc + 3 = p) (hl : xlD (xo m) i = some (k, nn, p0, w0)) (hk : (Nat.blt 0 k && Nat.blt k 1000 && Nat.beq (xk k) 0 && Nat.beq (xsta k) 1) = true) (hst : st = As.reverse ++ r) (hn : As.length = nn) (hr : (r.map fun v => v.category).sum ≤ 8) (hC : mc ≤ C) (hS : ms ≤ S)
    (hc : GC Z d k As ws mc ms P g_no) (h : ∀ v u, P v u → GG Z d m ret xp N p f (v.toList ++ r) u (C - mc) (S - ms)) : GG Z d m ret xp (N + 1) pc f st ws C S := by
  simp only [Bool.and_eq_true] at hk
  obtain ⟨⟨⟨k1, k2⟩, k3⟩, k4⟩ := hk
  have k1 := Nat.lt_of_lt_of_le Nat.zero_lt_one (Nat.le_of_ble_eq_true k1)
  have k2 : k < 1000 := Nat.le_of_ble_eq_true k2
  have k4 := Nat.eq_of_beq_eq_true k4
  obtain ⟨l1, l2, l3, l4⟩ := xl_w hd.1 hl k2
  obtain ⟨-, -, c3, c4, -, -, c7, -, c9, -, -⟩ := xm_w k1 l1
  refine g_st fun lv hlv n hn2 => ?_
  unfold am_stp
  rw [hd.2]
  subst hp
  refine Or.inr ⟨xy k, As, r, mc, ms, hst, ⟨c4.1, c4.2, by rw [l2, hn]⟩, c7 k4, c9, hr, hC, hS, ?_⟩
  by_cases e : w0 = 0
  · exact Or.inl ⟨l3 e, hc _ _ (fun v u hv => h v u hv lv hlv n hn2) (fun e u hx => hx.elim)⟩
  · exact Or.inr (Or.inr ⟨"GraphHouse", l4 e, hc _ _ (fun v u hv => h v u hv lv hlv n hn2) (fun e u hx => hx.elim)⟩)
theorem g_thr {i k : Nat} {y : MethodName} {E : String} {g : Int32} {X : AmX} {p0 : Nat} (p : Nat) (hd : GD m pc (.invokestatic i) 3) (hp : pc + 3 = p) (hl : xlD (xo m) i = some (k, 1, p0, 0)) (hk : (k = 1002 ∧ y = yX11_allow ∧ E = am_IA) ∨ (k = 1003 ∧ y = yX11_ready ∧ E = am_IS)) (h5 : 6 ≤ d) (hr : (r.map fun v => v.category).sum ≤ 8) (hC : 1 ≤ C) (hS : 6 ≤ S) (h1 : g.toInt ≠ 0 → GG Z d m ret (gx X) N p f r ws (C - 1) (S - 6)) (h2 : g.toInt = 0 → X E ws) : GG Z d m ret (gx X) (N + 1) pc f (.int g :: r) ws C S := by
  have hlk : Cond.methodLink (xcls (xo m)) i y ∈ am_T := xl_s hd.1 hl (by
    rcases hk with ⟨a, b, -⟩ | ⟨a, b, -⟩
    · exact Or.inr (Or.inr (Or.inl ⟨a, b⟩))
    · exact Or.inr (Or.inr (Or.inr ⟨a, b⟩)))
  refine g_st fun lv hlv n hn2 => ?_
  unfold am_stp
  rw [hd.2]
  subst hp
  obtain ⟨d1, rfl⟩ : ∃ d1, d = d1 + 1 := ⟨d - 1, by omega⟩
  have hthr : am_thr E [.int g] ws 1 6 (fun v u => am_run Z (gx X).1 (xcls (xo m)) (xc m) (xn m) (xr m) (xin m) (am_wp Z am_leaf (d1 + 1)) (gx X).2.1 (gx X).2.2 ret n (pc + 3) lv (v.toList ++ r) u (C - 1) (S - 6)) X :=
    ⟨g, rfl, fun z => h1 (fun e => z (i_eq.mpr e)) lv hlv n hn2, fun z => ⟨Nat.le_refl 1, Nat.le_refl 6, h2 (by rw [z]; rfl)⟩⟩
  refine Or.inr ⟨y, [.int g], r, 1, 6, rfl, ?_, ?_, ?_, hr, hC, hS, Or.inl ⟨hlk, Or.inl ⟨by omega, ?_⟩⟩⟩
  · rcases hk with ⟨-, b, -⟩ | ⟨-, b, -⟩ <;> rw [b]
    · exact xlf3
    · exact xlf4
  · rcases hk with ⟨-, b, -⟩ | ⟨-, b, -⟩ <;> rw [b]
    · exact xlf1
    · exact xlf2
  · rcases hk with ⟨-, b, -⟩ | ⟨-, b, -⟩ <;> rw [b] <;> exact am_ini11
  · rcases hk with ⟨-, b, c⟩ | ⟨-, b, c⟩
    · exact Or.inl ⟨b, c ▸ hthr⟩
    · exact Or.inr ⟨b, c ▸ hthr⟩
theorem g_enter2 {k : Nat} {as : List Value} {mc ms : Nat} {X : AmX} (h1 : 1 ≤ d) (hk : (Nat.blt 0 k && Nat.blt k xm_n && Nat.beq (xk k) 0) = true) (hlen : (lg_sl as).length ≤ xn k) (h : GG Z (d - 1) k ret (gx X) N 0 (fun j => xlook j (lv_args 0 as)) [] ws mc ms) : am_wp Z am_leaf d (xy k) as ws mc ms ret X := by
  simp only [Bool.and_eq_true] at hk
  have e : d = (d - 1) + 1 := by omega
  rw [e]
  exact g_enter (Nat.le_of_ble_eq_true hk.1.1) (Nat.le_of_ble_eq_true hk.1.2) (Nat.eq_of_beq_eq_true hk.2) hlen h
theorem gf_nil : ∀ (i : Nat) (v : Value), xlook i [] = some v → f i = some v := fun _ _ h => by cases h
theorem gf_cons {k : Nat} {w : Value} {l : List (Nat × Value)} (h0 : f k = some w) (h : ∀ i v, xlook i l = some v → f i = some v) : ∀ i v, xlook i ((k, w) :: l) = some v → f i = some v := by
  intro i v hv
  have hv : cond (Nat.beq k i) (some w) (xlook i l) = some v := hv
  cases e : Nat.beq k i with
  | true =>
    rw [e] at hv
    have hv : some w = some v := hv
    rw [← Nat.eq_of_beq_eq_true e, h0, hv]
  | false =>
    rw [e] at hv
    exact h i v hv
end GA
