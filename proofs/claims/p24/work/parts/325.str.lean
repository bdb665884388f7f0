/-! STRING CONSTANTS: their rows, and the JDK's own methods over them -/
abbrev zq (Z : AmZ) (x : Int32) : Nat := zs Z x.toNatClampNeg
abbrev zp (Z : AmZ) (x : Int32) : Nat := zb Z x.toNatClampNeg
/-- how long the constant is -/
def zn (x : Int32) : Nat := am_len.getD x.toNatClampNeg 0
theorem zl_cs : Cond.fieldLink "java/lang/String" 38 "java/lang/String" "COMPACT_STRINGS" "Z" ∈ am_T := am_at 872 (by decide +kernel) (by decide +kernel)
theorem zl_sf : Cond.fieldLink "java/lang/String" 1053 "jdk/internal/util/Preconditions" "SIOOBE_FORMATTER" "Ljava/util/function/BiFunction;" ∈ am_T := am_at 915 (by decide +kernel) (by decide +kernel)
theorem zl_va : Cond.fieldLink "java/lang/String" 9 "java/lang/String" "value" "[B" ∈ am_T := am_at 3117 (by decide +kernel) (by decide +kernel)
theorem zl_co : Cond.fieldLink "java/lang/String" 15 "java/lang/String" "coder" "B" ∈ am_T := am_at 3116 (by decide +kernel) (by decide +kernel)
theorem z_7 {x : Int32} (h : In x 0 6) : x.toNatClampNeg < 7 := by
  obtain ⟨a, b⟩ := h
  show x.toInt.toNat < 7
  omega
theorem zn_9 {x : Int32} (h : In x 0 6) : zn x ≤ 9 := (by decide : ∀ k, k < 7 → am_len.getD k 0 ≤ 9) _ (z_7 h)
theorem zn_i {x : Int32} (h : In x 0 6) : (Int32.ofNat (zn x)).toInt = (zn x : Int) := (by decide : ∀ k, k < 7 → (Int32.ofNat (am_len.getD k 0)).toInt = (am_len.getD k 0 : Int)) _ (z_7 h)
theorem zn_s {x : Int32} (h : In x 0 6) : (Int32.ofNat (zn x) >>> ((Int32.ofInt 0) &&& 31)).toInt = (zn x : Int) := (by decide : ∀ k, k < 7 → (Int32.ofNat (am_len.getD k 0) >>> ((Int32.ofInt 0) &&& 31)).toInt = (am_len.getD k 0 : Int)) _ (z_7 h)
theorem z_ix {j : Int32} {n : Nat} (h0 : 0 ≤ j.toInt) (h1 : j.toInt < (n : Int)) : vp_in j n := by
  intro h
  rcases h with h | h
  · exact absurd (Int32.lt_iff_toInt_lt.mp h) (by simpa using h0)
  · have e : j.toNatClampNeg = j.toInt.toNat := rfl
    omega
section ZS
theorem zm_427 : xm_2.any (fun q => Nat.beq q.1 427) = true := by decide +kernel
theorem zm_428 : xm_2.any (fun q => Nat.beq q.1 428) = true := by decide +kernel
theorem zm_429 : xm_2.any (fun q => Nat.beq q.1 429) = true := by decide +kernel
theorem zm_430 : xm_2.any (fun q => Nat.beq q.1 430) = true := by decide +kernel
theorem zm_431 : xm_2.any (fun q => Nat.beq q.1 431) = true := by decide +kernel
theorem zm_432 : xm_2.any (fun q => Nat.beq q.1 432) = true := by decide +kernel
theorem zm_433 : xm_2.any (fun q => Nat.beq q.1 433) = true := by decide +kernel
variable {Z : AmZ} {d m N pc : Nat} {ret : AmR} {xp : GX} {f : Nat → Option Value} {st r : List Value} {ws : va_W} {C S : Nat}
theorem g_ldcs {i : Nat} {tx : String} (c : Int) (p : Nat) (hd : GD m pc (.ldc i) 2) (hp : pc + 2 = p) (hx : am_lit[(Int32.ofInt c).toNatClampNeg]? = some (xcls (xo m), i, tx)) (h : GG Z d m ret xp N p f (.ref (zq Z (Int32.ofInt c)) :: st) ws C S) : GG Z d m ret xp (N + 1) pc f st ws C S :=
  g_st fun lv hl n hn => by unfold am_stp; rw [hd.2]; subst hp; exact Or.inr ⟨_, tx, hx, h lv hl n hn⟩
theorem g_i2b {x : Int32} (p : Nat) (hd : GD m pc (.i2b) 1) (hp : pc + 1 = p) (h : ∀ z, z = x.toInt8.toInt32 → GG Z d m ret xp N p f (.int z :: r) ws C S) : GG Z d m ret xp (N + 1) pc f (.int x :: r) ws C S :=
  g_st fun lv hl n hn => by unfold am_stp; rw [hd.2]; subst hp; exact ⟨x, r, rfl, h _ rfl lv hl n hn⟩
theorem g_getCS (p : Nat) (hd : GD m pc (.getstatic 38) 3) (hp : pc + 3 = p) (ho : xcls (xo m) = "java/lang/String") (h : GG Z d m ret xp N p f (.int (Int32.ofInt 1) :: st) ws C S) : GG Z d m ret xp (N + 1) pc f st ws C S :=
  g_st fun lv hl n hn => by unfold am_stp; rw [hd.2]; subst hp; exact Or.inl ⟨by rw [ho]; exact zl_cs, h lv hl n hn⟩
theorem g_getSF (p : Nat) (hd : GD m pc (.getstatic 1053) 3) (hp : pc + 3 = p) (ho : xcls (xo m) = "java/lang/String") (h : ∀ v : Value, v.category = 1 → GG Z d m ret xp N p f (v :: st) ws C S) : GG Z d m ret xp (N + 1) pc f st ws C S :=
  g_st fun lv hl n hn => by unfold am_stp; rw [hd.2]; subst hp; exact Or.inr ⟨by rw [ho]; exact zl_sf, fun v hv => h v hv lv hl n hn⟩
theorem g_getVA {x : Int32} (p : Nat) (hd : GD m pc (.getfield 9) 3) (hp : pc + 3 = p) (hx : In x 0 6) (ho : xcls (xo m) = "java/lang/String") (h : GG Z d m ret xp N p f (.ref (zp Z x) :: r) ws C S) : GG Z d m ret xp (N + 1) pc f (.ref (zq Z x) :: r) ws C S :=
  g_st fun lv hl n hn => by unfold am_stp; rw [hd.2]; subst hp; exact Or.inr ⟨_, r, z_7 hx, rfl, Or.inl ⟨by rw [ho]; exact zl_va, h lv hl n hn⟩⟩
theorem g_getCO {x : Int32} (p : Nat) (hd : GD m pc (.getfield 15) 3) (hp : pc + 3 = p) (hx : In x 0 6) (ho : xcls (xo m) = "java/lang/String") (h : GG Z d m ret xp N p f (.int (Int32.ofInt 0) :: r) ws C S) : GG Z d m ret xp (N + 1) pc f (.ref (zq Z x) :: r) ws C S :=
  g_st fun lv hl n hn => by unfold am_stp; rw [hd.2]; subst hp; exact Or.inr ⟨_, r, z_7 hx, rfl, Or.inr ⟨by rw [ho]; exact zl_co, h lv hl n hn⟩⟩
theorem g_alenZ {x : Int32} (p : Nat) (hd : GD m pc .arraylength 1) (hp : pc + 1 = p) (hx : In x 0 6) (h : ∀ z, z = Int32.ofNat (zn x) → z.toInt = (zn x : Int) → GG Z d m ret xp N p f (.int z :: r) ws C S) : GG Z d m ret xp (N + 1) pc f (.ref (zp Z x) :: r) ws C S :=
  g_st fun lv hl n hn => by unfold am_stp; rw [hd.2]; subst hp; exact Or.inr (Or.inr ⟨_, r, z_7 hx, rfl, h _ rfl (zn_i hx) lv hl n hn⟩)
theorem g_baloadZ {x j : Int32} (p : Nat) (hd : GD m pc .baload 1) (hp : pc + 1 = p) (hx : In x 0 6) (h0 : 0 ≤ j.toInt) (h1 : j.toInt < (zn x : Int)) (h : ∀ z, z = (am_byt.getD x.toNatClampNeg []).getD j.toNatClampNeg 0 → GG Z d m ret xp N p f (.int z :: r) ws C S) : GG Z d m ret xp (N + 1) pc f (.int j :: .ref (zp Z x) :: r) ws C S :=
  g_st fun lv hl n hn => by unfold am_stp; rw [hd.2]; subst hp; exact Or.inr ⟨_, j, r, z_7 hx, rfl, z_ix h0 h1, h _ rfl lv hl n hn⟩
theorem g_callS {i k nn p0 : Nat} {x : Int32} {As st : List Value} {P : AmR} {X Y : AmX} (p : Nat) (hd : GD m pc (.invokevirtual i) 3) (hp : pc + 3 = p) (hl : xlD (xo m) i = some (k, nn, p0, 0)) (hk : (Nat.blt 0 k && Nat.blt k 1000 && Nat.beq (xk k) 0 && Nat.beq (xsta k) 2) = true) (hm : xm_2.any (fun q => Nat.beq q.1 k) = true) (hcs : (xy k).cls = am_js) (hst : st = As.reverse ++ .ref (zq Z x) :: r) (hn : As.length = nn) (hx : In x 0 6) (hr : (r.map fun v => v.category).sum ≤ 8)
    (hc : GC Z d k (.ref (zq Z x) :: As) ws 0 0 P Y) (hY : ∀ e u, Y e u → X e u) (h : ∀ v u, P v u → GG Z d m ret (gx X) N p f (v.toList ++ r) u C S) : GG Z d m ret (gx X) (N + 1) pc f st ws C S := by
  simp only [Bool.and_eq_true] at hk
  obtain ⟨⟨⟨k1, k2⟩, k3⟩, k4⟩ := hk
  have k1 := Nat.lt_of_lt_of_le Nat.zero_lt_one (Nat.le_of_ble_eq_true k1)
  have k2 : k < 1000 := Nat.le_of_ble_eq_true k2
  have k3 := Nat.eq_of_beq_eq_true k3
  have k4 := Nat.eq_of_beq_eq_true k4
  obtain ⟨l1, l2, l3, -⟩ := xl_w hd.1 hl k2
  obtain ⟨-, -, c3, c4, -, -, -, c8, c9, -, -⟩ := xm_w k1 l1
  obtain ⟨g2, hg2⟩ := xm_any (l := xm_2) (m := k) hm
  have hsel : Cond.selects (xy k).cls (xy k) (xy k) ∈ am_T := xps_T (xps_ok xm_ok2 _ hg2)
  refine g_st fun lv hlv n hn2 => ?_
  unfold am_stp
  rw [hd.2]
  subst hp
  exact Or.inr ⟨xy k, zq Z x, As, r, 0, 0, x.toNatClampNeg, hst, ⟨c4.1, c4.2, by rw [l2, hn]⟩, l3 rfl, c8 (by rw [k4]; decide), hsel, c9, z_7 hx, rfl, hcs, hr, Nat.zero_le _, Nat.zero_le _, hc _ _ (fun v u hv => h v u hv lv hlv n hn2) hY⟩
end ZS
section ZM
variable {Z : AmZ} {d : Nat} {ws : va_W} {X : AmX} {x : Int32}
theorem k_432 (hx : In x 0 6) (hd : 1 ≤ d) : GC Z d 432 [.ref (zq Z x)] ws 0 0 (fun v u => v = some (.int (Int32.ofInt 0)) ∧ u = ws) X := by
  intro post xp hP hX
  refine g_enter2 (k := 432) (N := 300) (by omega) rfl (Nat.le_of_ble_eq_true rfl) ?_
  refine g_getCS 3 (gd rfl) rfl rfl ?_
  refine g_if_eq 6 13 (gd rfl) rfl rfl (fun c => absurd c (by decide)) (fun _ => ?_)
  refine g_aload_n 7 (gd rfl) rfl rfl ?_
  refine g_getCO 10 (gd rfl) rfl hx rfl ?_
  refine g_goto 14 (gd rfl) rfl ?_
  exact g_ireturn (gd rfl) rfl rfl (hP _ _ ⟨rfl, rfl⟩)
theorem k_433 (hx : In x 0 6) (hd : 1 ≤ d) : GC Z d 433 [.ref (zq Z x)] ws 0 0 (fun v u => v = some (.int (Int32.ofInt 1)) ∧ u = ws) X := by
  intro post xp hP hX
  refine g_enter2 (k := 433) (N := 300) (by omega) rfl (Nat.le_of_ble_eq_true rfl) ?_
  refine g_getCS 3 (gd rfl) rfl rfl ?_
  refine g_if_eq 6 17 (gd rfl) rfl rfl (fun c => absurd c (by decide)) (fun _ => ?_)
  refine g_aload_n 7 (gd rfl) rfl rfl ?_
  refine g_getCO 10 (gd rfl) rfl hx rfl ?_
  refine g_if_ne 13 17 (gd rfl) rfl rfl (fun c => absurd rfl c) (fun _ => ?_)
  refine g_iconst 1 14 (gd rfl) rfl rfl ?_
  refine g_goto 18 (gd rfl) rfl ?_
  exact g_ireturn (gd rfl) rfl rfl (hP _ _ ⟨rfl, rfl⟩)
theorem k_427 (hx : In x 0 6) (hd : 2 ≤ d) : GC Z d 427 [.ref (zq Z x)] ws 0 0 (fun v u => ∃ z : Int32, v = some (.int z) ∧ u = ws ∧ z.toInt = (zn x : Int)) X := by
  intro post xp hP hX
  refine g_enter2 (k := 427) (N := 300) (by omega) rfl (Nat.le_of_ble_eq_true rfl) ?_
  refine g_aload_n 1 (gd rfl) rfl rfl ?_
  refine g_getVA 4 (gd rfl) rfl hx rfl ?_
  refine g_alenZ 5 (gd rfl) rfl hx (fun z e ez => ?_)
  refine g_aload_n 6 (gd rfl) rfl rfl ?_
  refine g_callS (As := []) (r := [.int z]) (x := x) 9 (gd rfl) rfl rfl rfl zm_432 rfl rfl rfl hx (Nat.le_of_ble_eq_true rfl) (k_432 hx (by omega)) (fun e u h => h) (fun v u h => ?_)
  obtain ⟨rfl, rfl⟩ := h
  show GG _ _ _ _ _ _ _ _ [.int (Int32.ofInt 0), .int z] _ _ _
  refine g_ishr 10 (gd rfl) rfl (fun z2 e2 => ?_)
  exact g_ireturn (gd rfl) rfl rfl (hP _ _ ⟨z2, rfl, rfl, by rw [e2, e]; exact zn_s hx⟩)
theorem k_428 (hx : In x 0 6) (hd : 1 ≤ d) : GC Z d 428 [.ref (zq Z x)] ws 0 0 (fun v u => ∃ z : Int32, v = some (.int z) ∧ u = ws ∧ In z 0 1 ∧ (z.toInt = 0 → 0 < zn x)) X := by
  intro post xp hP hX
  refine g_enter2 (k := 428) (N := 300) (by omega) rfl (Nat.le_of_ble_eq_true rfl) ?_
  refine g_aload_n 1 (gd rfl) rfl rfl ?_
  refine g_getVA 4 (gd rfl) rfl hx rfl ?_
  refine g_alenZ 5 (gd rfl) rfl hx (fun z e ez => ?_)
  refine g_if_ne 8 12 (gd rfl) rfl rfl (fun c => ?_) (fun c => ?_)
  · refine g_iconst 0 13 (gd rfl) rfl rfl ?_
    exact g_ireturn (gd rfl) rfl rfl (hP _ _ ⟨_, rfl, rfl, ⟨by decide, by decide⟩, fun _ => by omega⟩)
  · refine g_iconst 1 9 (gd rfl) rfl rfl ?_
    refine g_goto 13 (gd rfl) rfl ?_
    exact g_ireturn (gd rfl) rfl rfl (hP _ _ ⟨_, rfl, rfl, ⟨by decide, by decide⟩, fun h => absurd h (by decide)⟩)
theorem k_436 {c : Int32} (hd : 1 ≤ d) : GC Z d 436 [.int c] ws 0 0 (fun v u => ∃ z : Int32, v = some (.int z) ∧ u = ws ∧ In z 0 1) X := by
  intro post xp hP hX
  refine g_enter2 (k := 436) (N := 300) (by omega) rfl (Nat.le_of_ble_eq_true rfl) ?_
  refine g_iload_n 1 (gd rfl) rfl rfl ?_
  refine g_if_lt 4 15 (gd rfl) rfl rfl (fun _ => ?_) (fun _ => ?_)
  · refine g_iconst 0 16 (gd rfl) rfl rfl ?_
    exact g_ireturn (gd rfl) rfl rfl (hP _ _ ⟨_, rfl, rfl, ⟨by decide, by decide⟩⟩)
  refine g_iload_n 5 (gd rfl) rfl rfl ?_
  refine g_sipush 255 8 (gd rfl) rfl rfl ?_
  refine g_cmp_gt 11 15 (gd rfl) rfl rfl (fun _ => ?_) (fun _ => ?_)
  · refine g_iconst 0 16 (gd rfl) rfl rfl ?_
    exact g_ireturn (gd rfl) rfl rfl (hP _ _ ⟨_, rfl, rfl, ⟨by decide, by decide⟩⟩)
  refine g_iconst 1 12 (gd rfl) rfl rfl ?_
  refine g_goto 16 (gd rfl) rfl ?_
  exact g_ireturn (gd rfl) rfl rfl (hP _ _ ⟨_, rfl, rfl, ⟨by decide, by decide⟩⟩)
theorem k_422z {a b : Int32} (hd : 1 ≤ d) : GC Z d 422 [.int a, .int b] ws 0 0 (fun v u => ∃ z : Int32, v = some (.int z) ∧ u = ws ∧ z.toInt = max a.toInt b.toInt) X := by
  intro post xp hP hX
  refine g_enter2 (k := 422) (N := 300) (by omega) rfl (Nat.le_of_ble_eq_true rfl) ?_
  refine g_iload_n 1 (gd rfl) rfl rfl ?_
  refine g_iload_n 2 (gd rfl) rfl rfl ?_
  refine g_cmp_lt 5 9 (gd rfl) rfl rfl (fun c => ?_) (fun c => ?_)
  · refine g_iload_n 10 (gd rfl) rfl rfl ?_
    exact g_ireturn (gd rfl) rfl rfl (hP _ _ ⟨b, rfl, rfl, by omega⟩)
  · refine g_iload_n 6 (gd rfl) rfl rfl ?_
    refine g_goto 10 (gd rfl) rfl ?_
    exact g_ireturn (gd rfl) rfl rfl (hP _ _ ⟨a, rfl, rfl, by omega⟩)
theorem k_424z {a b : Int32} (hd : 1 ≤ d) : GC Z d 424 [.int a, .int b] ws 0 0 (fun v u => ∃ z : Int32, v = some (.int z) ∧ u = ws ∧ z.toInt = min a.toInt b.toInt) X := by
  intro post xp hP hX
  refine g_enter2 (k := 424) (N := 300) (by omega) rfl (Nat.le_of_ble_eq_true rfl) ?_
  refine g_iload_n 1 (gd rfl) rfl rfl ?_
  refine g_iload_n 2 (gd rfl) rfl rfl ?_
  refine g_cmp_gt 5 9 (gd rfl) rfl rfl (fun c => ?_) (fun c => ?_)
  · refine g_iload_n 10 (gd rfl) rfl rfl ?_
    exact g_ireturn (gd rfl) rfl rfl (hP _ _ ⟨b, rfl, rfl, by omega⟩)
  · refine g_iload_n 6 (gd rfl) rfl rfl ?_
    refine g_goto 10 (gd rfl) rfl ?_
    exact g_ireturn (gd rfl) rfl rfl (hP _ _ ⟨a, rfl, rfl, by omega⟩)
theorem k_438 {c a b : Int32} (hx : In x 0 6) (ha : 0 ≤ a.toInt) (hb : b.toInt ≤ (zn x : Int)) (hd : 1 ≤ d) : GC Z d 438 [.ref (zp Z x), .int c, .int a, .int b] ws 0 0 (fun v u => ∃ z : Int32, v = some (.int z) ∧ u = ws ∧ In z (-1) (zn x - 1)) X := by
  intro post xp hP hX
  have h9 := zn_9 hx
  have ctz : ∀ (y y4 : Int32), 0 ≤ y.toInt → b.toInt ≤ y.toInt → GG Z (d - 1) 438 post (gx xp) (41 + 0 * 40) 7 (fun j => xlook j [(0, .ref (zp Z x)), (3, .int b), (4, .int y4), (5, .int y)]) [] ws 0 0 := by
    intro y y4 h0 hm
    refine gg_w (M := 41) (by omega) ?_
    refine g_iload 9 (gd rfl) rfl rfl ?_
    refine g_iload_n 10 (gd rfl) rfl rfl ?_
    refine g_cmp_ge 13 31 (gd rfl) rfl rfl (fun _ => ?_) (fun c1 => absurd c1 (by omega))
    refine g_iconst (-1) 32 (gd rfl) rfl rfl ?_
    exact g_ireturn (gd rfl) rfl rfl (hP _ _ ⟨_, rfl, rfl, ⟨by decide, by have e : (Int32.ofInt (-1)).toInt = -1 := by decide
                                                                          omega⟩⟩)
  have ct : ∀ (k : Nat) (y y4 : Int32), 0 ≤ y.toInt → b.toInt - y.toInt < (k : Int) → GG Z (d - 1) 438 post (gx xp) (41 + k * 40) 7 (fun j => xlook j [(0, .ref (zp Z x)), (3, .int b), (4, .int y4), (5, .int y)]) [] ws 0 0 := by
    intro k
    induction k with
    | zero =>
      intro y y4 h0 hm
      exact ctz y y4 h0 (by omega)
    | succ k ih =>
      intro y y4 h0 hm
      refine gg_w (M := 41 + k * 40 + 40) (by omega) ?_
      refine g_iload 9 (gd rfl) rfl rfl ?_
      refine g_iload_n 10 (gd rfl) rfl rfl ?_
      refine g_cmp_ge 13 31 (gd rfl) rfl rfl (fun _ => ?_) (fun c1 => ?_)
      · refine g_iconst (-1) 32 (gd rfl) rfl rfl ?_
        exact g_ireturn (gd rfl) rfl rfl (hP _ _ ⟨_, rfl, rfl, ⟨by decide, by have e : (Int32.ofInt (-1)).toInt = -1 := by decide
                                                                              omega⟩⟩)
      refine g_aload_n 14 (gd rfl) rfl rfl ?_
      refine g_iload 16 (gd rfl) rfl rfl ?_
      refine g_baloadZ 17 (gd rfl) rfl hx h0 (by omega) (fun z e => ?_)
      refine g_iload 19 (gd rfl) rfl rfl ?_
      refine g_cmp_ne 22 25 (gd rfl) rfl rfl (fun _ => ?_) (fun _ => ?_)
      · refine g_iinc 28 (gd rfl) rfl rfl (Nat.le_of_ble_eq_true rfl) (fun z2 e2 => ?_)
        refine g_goto 7 (gd rfl) rfl ?_
        have t2 : z2.toInt = y.toInt + 1 := t_add e2 (⟨h0, (by omega : y.toInt ≤ 100)⟩ : In y 0 100) (in_c 1 rfl) rfl
        exact gg_w (by omega) (gg_f (gf_cons rfl (gf_cons rfl (gf_cons rfl (gf_cons rfl gf_nil)))) (ih z2 y4 (by omega) (by omega)))
      · refine g_iload 24 (gd rfl) rfl rfl ?_
        exact g_ireturn (gd rfl) rfl rfl (hP _ _ ⟨y, rfl, rfl, ⟨by omega, by omega⟩⟩)
  refine g_enter2 (k := 438) (N := 9000) (by omega) rfl (Nat.le_of_ble_eq_true rfl) ?_
  refine gg_w (M := 41 + 11 * 40 + 10) (by omega) ?_
  refine g_iload_n 1 (gd rfl) rfl rfl ?_
  refine g_i2b 2 (gd rfl) rfl (fun z e => ?_)
  refine g_istore 4 (gd rfl) rfl (Nat.le_of_ble_eq_true rfl) ?_
  refine g_iload_n 5 (gd rfl) rfl rfl ?_
  refine g_istore 7 (gd rfl) rfl (Nat.le_of_ble_eq_true rfl) ?_
  exact gg_w (by omega) (gg_f (gf_cons rfl (gf_cons rfl (gf_cons rfl (gf_cons rfl gf_nil)))) (ct 11 a z ha (by omega)))
theorem k_437 {c b : Int32} (hx : In x 0 6) (hd : 2 ≤ d) : GC Z d 437 [.ref (zp Z x), .int c, .int (Int32.ofInt 0), .int b] ws 0 0 (fun v u => ∃ z : Int32, v = some (.int z) ∧ u = ws ∧ In z (-1) (zn x - 1)) X := by
  intro post xp hP hX
  refine g_enter2 (k := 437) (N := 300) (by omega) rfl (Nat.le_of_ble_eq_true rfl) ?_
  refine g_iload_n 1 (gd rfl) rfl rfl ?_
  refine g_calls (As := [.int c]) (r := []) 4 (gd rfl) rfl rfl rfl rfl rfl (Nat.le_of_ble_eq_true rfl) (Nat.zero_le _) (Nat.zero_le _) (k_436 (by omega)) (fun v u h => ?_)
  obtain ⟨z, rfl, rfl, hz⟩ := h
  show GG _ _ _ _ _ _ _ _ [.int z] _ _ _
  refine g_if_ne 7 9 (gd rfl) rfl rfl (fun _ => ?_) (fun _ => ?_)
  rotate_left
  · refine g_iconst (-1) 8 (gd rfl) rfl rfl ?_
    exact g_ireturn (gd rfl) rfl rfl (hP _ _ ⟨_, rfl, rfl, ⟨by decide, by have e : (Int32.ofInt (-1)).toInt = -1 := by decide
                                                                          omega⟩⟩)
  refine g_iload_n 10 (gd rfl) rfl rfl ?_
  refine g_iconst 0 11 (gd rfl) rfl rfl ?_
  refine g_calls (As := [.int (Int32.ofInt 0), .int (Int32.ofInt 0)]) (r := []) 14 (gd rfl) rfl rfl rfl rfl rfl (Nat.le_of_ble_eq_true rfl) (Nat.zero_le _) (Nat.zero_le _) (k_422z (by omega)) (fun v u h => ?_)
  obtain ⟨z2, rfl, rfl, hz2⟩ := h
  show GG _ _ _ _ _ _ _ _ [.int z2] _ _ _
  refine g_istore_n 15 (gd rfl) rfl (Nat.le_of_ble_eq_true rfl) ?_
  refine g_iload_n 16 (gd rfl) rfl rfl ?_
  refine g_aload_n 17 (gd rfl) rfl rfl ?_
  refine g_alenZ 18 (gd rfl) rfl hx (fun z3 e3 ez => ?_)
  refine g_calls (As := [.int b, .int z3]) (r := []) 21 (gd rfl) rfl rfl rfl rfl rfl (Nat.le_of_ble_eq_true rfl) (Nat.zero_le _) (Nat.zero_le _) (k_424z (by omega)) (fun v u h => ?_)
  obtain ⟨z4, rfl, rfl, hz4⟩ := h
  show GG _ _ _ _ _ _ _ _ [.int z4] _ _ _
  refine g_istore_n 22 (gd rfl) rfl (Nat.le_of_ble_eq_true rfl) ?_
  refine g_iload_n 23 (gd rfl) rfl rfl ?_
  refine g_iload_n 24 (gd rfl) rfl rfl ?_
  refine g_cmp_lt 27 29 (gd rfl) rfl rfl (fun _ => ?_) (fun _ => ?_)
  rotate_left
  · refine g_iconst (-1) 28 (gd rfl) rfl rfl ?_
    exact g_ireturn (gd rfl) rfl rfl (hP _ _ ⟨_, rfl, rfl, ⟨by decide, by have e : (Int32.ofInt (-1)).toInt = -1 := by decide
                                                                          omega⟩⟩)
  refine g_aload_n 30 (gd rfl) rfl rfl ?_
  refine g_iload_n 31 (gd rfl) rfl rfl ?_
  refine g_iload_n 32 (gd rfl) rfl rfl ?_
  refine g_iload_n 33 (gd rfl) rfl rfl ?_
  have e0 : (Int32.ofInt 0).toInt = 0 := by decide
  refine g_calls (As := [.ref (zp Z x), .int c, .int z2, .int z4]) (r := []) 36 (gd rfl) rfl rfl rfl rfl rfl (Nat.le_of_ble_eq_true rfl) (Nat.zero_le _) (Nat.zero_le _) (k_438 hx (by omega) (by omega) (by omega)) (fun v u h => ?_)
  obtain ⟨z5, rfl, rfl, hz5⟩ := h
  show GG _ _ _ _ _ _ _ _ [.int z5] _ _ _
  exact g_ireturn (gd rfl) rfl rfl (hP _ _ ⟨z5, rfl, rfl, hz5⟩)
theorem k_431 {c : Int32} (hx : In x 0 6) (hd : 3 ≤ d) : GC Z d 431 [.ref (zq Z x), .int c, .int (Int32.ofInt 0)] ws 0 0 (fun v u => ∃ z : Int32, v = some (.int z) ∧ u = ws ∧ In z (-1) (zn x - 1)) X := by
  intro post xp hP hX
  refine g_enter2 (k := 431) (N := 300) (by omega) rfl (Nat.le_of_ble_eq_true rfl) ?_
  refine g_aload_n 1 (gd rfl) rfl rfl ?_
  refine g_callS (As := []) (r := []) (x := x) 4 (gd rfl) rfl rfl rfl zm_433 rfl rfl rfl hx (Nat.le_of_ble_eq_true rfl) (k_433 hx (by omega)) (fun e u h => h) (fun v u h => ?_)
  obtain ⟨rfl, rfl⟩ := h
  show GG _ _ _ _ _ _ _ _ [.int (Int32.ofInt 1)] _ _ _
  refine g_if_eq 7 23 (gd rfl) rfl rfl (fun c => absurd c (by decide)) (fun _ => ?_)
  refine g_aload_n 8 (gd rfl) rfl rfl ?_
  refine g_getVA 11 (gd rfl) rfl hx rfl ?_
  refine g_iload_n 12 (gd rfl) rfl rfl ?_
  refine g_iload_n 13 (gd rfl) rfl rfl ?_
  refine g_aload_n 14 (gd rfl) rfl rfl ?_
  refine g_callS (As := []) (r := [.int (Int32.ofInt 0), .int c, .ref (zp Z x)]) (x := x) 17 (gd rfl) rfl rfl rfl zm_427 rfl rfl rfl hx (Nat.le_of_ble_eq_true rfl) (k_427 hx (by omega)) (fun e u h => h) (fun v u h => ?_)
  obtain ⟨z, rfl, rfl, hz⟩ := h
  show GG _ _ _ _ _ _ _ _ [.int z, .int (Int32.ofInt 0), .int c, .ref (zp Z x)] _ _ _
  refine g_calls (As := [.ref (zp Z x), .int c, .int (Int32.ofInt 0), .int z]) (r := []) 20 (gd rfl) rfl rfl rfl rfl rfl (Nat.le_of_ble_eq_true rfl) (Nat.zero_le _) (Nat.zero_le _) (k_437 hx (by omega)) (fun v u h => ?_)
  obtain ⟨z5, rfl, rfl, hz5⟩ := h
  show GG _ _ _ _ _ _ _ _ [.int z5] _ _ _
  refine g_goto 36 (gd rfl) rfl ?_
  exact g_ireturn (gd rfl) rfl rfl (hP _ _ ⟨z5, rfl, rfl, hz5⟩)
theorem k_430 {c : Int32} (hx : In x 0 6) (hd : 4 ≤ d) : GC Z d 430 [.ref (zq Z x), .int c] ws 0 0 (fun v u => ∃ z : Int32, v = some (.int z) ∧ u = ws ∧ In z (-1) (zn x - 1)) X := by
  intro post xp hP hX
  refine g_enter2 (k := 430) (N := 300) (by omega) rfl (Nat.le_of_ble_eq_true rfl) ?_
  refine g_aload_n 1 (gd rfl) rfl rfl ?_
  refine g_iload_n 2 (gd rfl) rfl rfl ?_
  refine g_iconst 0 3 (gd rfl) rfl rfl ?_
  refine g_callS (As := [.int c, .int (Int32.ofInt 0)]) (r := []) (x := x) 6 (gd rfl) rfl rfl rfl zm_431 rfl rfl rfl hx (Nat.le_of_ble_eq_true rfl) (k_431 hx (by omega)) (fun e u h => h) (fun v u h => ?_)
  obtain ⟨z5, rfl, rfl, hz5⟩ := h
  show GG _ _ _ _ _ _ _ _ [.int z5] _ _ _
  exact g_ireturn (gd rfl) rfl rfl (hP _ _ ⟨z5, rfl, rfl, hz5⟩)
theorem k_439 {a b : Int32} {q : Value} (hq : q.category = 1) (h0 : 0 ≤ a.toInt) (h1 : a.toInt < b.toInt) (hd : 1 ≤ d) : GC Z d 439 [.int a, .int b, q] ws 0 0 (fun v u => v = some (.int a) ∧ u = ws) X := by
  intro post xp hP hX
  refine g_enter2 (k := 439) (N := 300) (by omega) rfl (by show (lg_sl [.int a, .int b, q]).length ≤ _; simp [lg_sl, hq]; exact Nat.le_of_ble_eq_true rfl) ?_
  refine g_iload_n 1 (gd rfl) rfl rfl ?_
  refine g_if_lt 4 9 (gd rfl) rfl rfl (fun c => absurd c (by omega)) (fun _ => ?_)
  refine g_iload_n 5 (gd rfl) rfl rfl ?_
  refine g_iload_n 6 (gd rfl) rfl rfl ?_
  refine g_cmp_lt 9 16 (gd rfl) rfl rfl (fun _ => ?_) (fun c => absurd c (by omega))
  refine g_iload_n 17 (gd rfl) rfl rfl ?_
  exact g_ireturn (gd rfl) rfl rfl (hP _ _ ⟨rfl, rfl⟩)
theorem k_434 {a b : Int32} (h0 : 0 ≤ a.toInt) (h1 : a.toInt < b.toInt) (hd : 2 ≤ d) : GC Z d 434 [.int a, .int b] ws 0 0 (fun v u => v = none ∧ u = ws) X := by
  intro post xp hP hX
  refine g_enter2 (k := 434) (N := 300) (by omega) rfl (Nat.le_of_ble_eq_true rfl) ?_
  refine g_iload_n 1 (gd rfl) rfl rfl ?_
  refine g_iload_n 2 (gd rfl) rfl rfl ?_
  refine g_getSF 5 (gd rfl) rfl rfl (fun q hq => ?_)
  refine g_calls (As := [.int a, .int b, q]) (r := []) 8 (gd rfl) rfl rfl rfl rfl rfl (Nat.le_of_ble_eq_true rfl) (Nat.zero_le _) (Nat.zero_le _) (k_439 hq h0 h1 (by omega)) (fun v u h => ?_)
  obtain ⟨rfl, rfl⟩ := h
  show GG _ _ _ _ _ _ _ _ [.int a] _ _ _
  refine g_pop 9 (gd rfl) rfl rfl ?_
  exact g_return (gd rfl) rfl (hP _ _ ⟨rfl, rfl⟩)
theorem z_nc2 {z : Int32} (h : In z 0 65535) : narrow .char (.int z) = .int z := by
  obtain ⟨a, b⟩ := h
  show Value.int (z.toUInt32.toUInt16.toUInt32.toInt32) = Value.int z
  have e : z.toUInt32.toUInt16.toUInt32 = z.toUInt32 := by
    refine UInt32.toNat_inj.mp ?_
    rw [UInt16.toNat_toUInt32, UInt32.toNat_toUInt16]
    have e2 : z.toUInt32.toNat = z.toInt.toNat := Int32.toNat_toUInt32_of_le (Int32.le_iff_toInt_le.mpr a)
    rw [e2]
    show z.toInt.toNat % 65536 = z.toInt.toNat
    omega
  rw [e, Int32.toInt32_toUInt32]
theorem zn_1 {x : Int32} (h : x.toInt = 1) : (zn x : Int) = 1 := by
  have e : x.toNatClampNeg = 1 := by show x.toInt.toNat = 1; omega
  unfold zn
  rw [e]
  rfl
theorem z_108 {x j z4 z5 z6 : Int32} (h : x.toInt = 1) (h0 : 0 ≤ j.toInt) (h1 : j.toInt < (zn x : Int)) (e4 : z4 = (am_byt.getD x.toNatClampNeg []).getD j.toNatClampNeg 0) (e5 : z5 = z4 &&& Int32.ofInt 255) (e6 : z6 = (z5.toUInt32 % 65536).toInt32) : z6.toInt = 108 := by
  have e : x.toNatClampNeg = 1 := by show x.toInt.toNat = 1; omega
  have e2 := zn_1 h
  have e3 : j.toNatClampNeg = 0 := by show j.toInt.toNat = 0; omega
  rw [e, e3] at e4
  have e4 : z4 = 108 := e4
  rw [e6, e5, e4]
  decide
theorem k_435 {j : Int32} (hx : In x 0 6) (h0 : 0 ≤ j.toInt) (h1_ : j.toInt < (zn x : Int)) (hd : 3 ≤ d) : GC Z d 435 [.ref (zp Z x), .int j] ws 0 0 (fun v u => ∃ z : Int32, v = some (.int z) ∧ u = ws ∧ In z 0 65535 ∧ (x.toInt = 1 → z.toInt = 108)) X := by
  intro post xp hP hX
  refine g_enter2 (k := 435) (N := 300) (by omega) rfl (Nat.le_of_ble_eq_true rfl) ?_
  refine g_iload_n 1 (gd rfl) rfl rfl ?_
  refine g_aload_n 2 (gd rfl) rfl rfl ?_
  refine g_alenZ 3 (gd rfl) rfl hx (fun z3 e3 ez => ?_)
  refine g_calls (As := [.int j, .int z3]) (r := []) 6 (gd rfl) rfl rfl rfl rfl rfl (Nat.le_of_ble_eq_true rfl) (Nat.zero_le _) (Nat.zero_le _) (k_434 h0 (by omega) (by omega)) (fun v u h => ?_)
  obtain ⟨rfl, rfl⟩ := h
  show GG _ _ _ _ _ _ _ _ [] _ _ _
  refine g_aload_n 7 (gd rfl) rfl rfl ?_
  refine g_iload_n 8 (gd rfl) rfl rfl ?_
  refine g_baloadZ 9 (gd rfl) rfl hx h0 h1_ (fun z4 e4 => ?_)
  refine g_sipush 255 12 (gd rfl) rfl rfl ?_
  refine g_iand 13 (gd rfl) rfl (fun z5 e5 => ?_)
  refine g_i2c 14 (gd rfl) rfl (fun z6 e6 => ?_)
  exact g_ireturn (gd rfl) rfl (z_nc2 (in_i2c e6)) (hP _ _ ⟨z6, rfl, rfl, in_i2c e6, fun h1 => z_108 h1 h0 h1_ e4 e5 e6⟩)
theorem k_429 {j : Int32} (hx : In x 0 6) (h0 : 0 ≤ j.toInt) (h1 : j.toInt < (zn x : Int)) (hd : 4 ≤ d) : GC Z d 429 [.ref (zq Z x), .int j] ws 0 0 (fun v u => ∃ z : Int32, v = some (.int z) ∧ u = ws ∧ In z 0 65535 ∧ (x.toInt = 1 → z.toInt = 108)) X := by
  intro post xp hP hX
  refine g_enter2 (k := 429) (N := 300) (by omega) rfl (Nat.le_of_ble_eq_true rfl) ?_
  refine g_aload_n 1 (gd rfl) rfl rfl ?_
  refine g_callS (As := []) (r := []) (x := x) 4 (gd rfl) rfl rfl rfl zm_433 rfl rfl rfl hx (Nat.le_of_ble_eq_true rfl) (k_433 hx (by omega)) (fun e u h => h) (fun v u h => ?_)
  obtain ⟨rfl, rfl⟩ := h
  show GG _ _ _ _ _ _ _ _ [.int (Int32.ofInt 1)] _ _ _
  refine g_if_eq 7 16 (gd rfl) rfl rfl (fun c => absurd c (by decide)) (fun _ => ?_)
  refine g_aload_n 8 (gd rfl) rfl rfl ?_
  refine g_getVA 11 (gd rfl) rfl hx rfl ?_
  refine g_iload_n 12 (gd rfl) rfl rfl ?_
  refine g_calls (As := [.ref (zp Z x), .int j]) (r := []) 15 (gd rfl) rfl rfl rfl rfl rfl (Nat.le_of_ble_eq_true rfl) (Nat.zero_le _) (Nat.zero_le _) (k_435 hx h0 h1 (by omega)) (fun v u h => ?_)
  obtain ⟨z, rfl, rfl, hz, hz8⟩ := h
  show GG _ _ _ _ _ _ _ _ [.int z] _ _ _
  exact g_ireturn (gd rfl) rfl (z_nc2 hz) (hP _ _ ⟨z, rfl, rfl, hz, hz8⟩)
end ZM
