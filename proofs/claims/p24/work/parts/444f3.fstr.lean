/-! STRINGS IN FULL, AND THE SHAPES OF COMMANDS -/
def zby (k j : Nat) : Int := ((am_byt.getD k []).getD j 0).toInt
theorem z_by {k j : Nat} {z4 z5 z6 : Int32} (hk : k < 7) (hj : j < 10) (e4 : z4 = (am_byt.getD k []).getD j 0) (e5 : z5 = z4 &&& Int32.ofInt 255) (e6 : z6 = (z5.toUInt32 % 65536).toInt32) : z6.toInt = zby k j := by
  rw [e6, e5, e4]
  exact (by decide : ∀ k, k < 7 → ∀ j, j < 10 → ((((am_byt.getD k []).getD j 0) &&& Int32.ofInt 255).toUInt32 % 65536).toInt32.toInt = zby k j) k hk j hj
theorem z_j9 {x j : Int32} (hx : In x 0 6) (h0 : 0 ≤ j.toInt) (h1 : j.toInt < (zn x : Int)) : j.toNatClampNeg < 10 := by
  have := zn_9 hx
  show j.toInt.toNat < 10
  omega
section ZM
variable {Z : AmZ} {d : Nat} {ws : va_W} {X : AmX} {x : Int32}
theorem f_428 (hx : In x 0 6) (hd : 1 ≤ d) : GC Z d 428 [.ref (zq Z x)] ws 0 0 (fun v u => ∃ z : Int32, v = some (.int z) ∧ u = ws ∧ In z 0 1 ∧ (z.toInt = 0 → 0 < zn x) ∧ (z.toInt ≠ 0 → zn x = 0)) X := by
  intro post xp hP hX
  refine g_enter2 (k := 428) (N := 300) (by omega) rfl (Nat.le_of_ble_eq_true rfl) ?_
  refine g_aload_n 1 (gd rfl) rfl rfl ?_
  refine g_getVA 4 (gd rfl) rfl hx rfl ?_
  refine g_alenZ 5 (gd rfl) rfl hx (fun z e ez => ?_)
  refine g_if_ne 8 12 (gd rfl) rfl rfl (fun c => ?_) (fun c => ?_)
  · refine g_iconst 0 13 (gd rfl) rfl rfl ?_
    exact g_ireturn (gd rfl) rfl rfl (hP _ _ ⟨_, rfl, rfl, ⟨by decide, by decide⟩, fun _ => by omega, fun h => absurd rfl h⟩)
  · refine g_iconst 1 9 (gd rfl) rfl rfl ?_
    refine g_goto 13 (gd rfl) rfl ?_
    exact g_ireturn (gd rfl) rfl rfl (hP _ _ ⟨_, rfl, rfl, ⟨by decide, by decide⟩, fun h => absurd h (by decide), fun _ => by omega⟩)

theorem f_435 {j : Int32} (hx : In x 0 6) (h0 : 0 ≤ j.toInt) (h1_ : j.toInt < (zn x : Int)) (hd : 3 ≤ d) : GC Z d 435 [.ref (zp Z x), .int j] ws 0 0 (fun v u => ∃ z : Int32, v = some (.int z) ∧ u = ws ∧ In z 0 65535 ∧ (x.toInt = 1 → z.toInt = 108) ∧ z.toInt = zby x.toNatClampNeg j.toNatClampNeg) X := by
  intro post xp hP hX
  refine g_enter2 (k := 435) (N := 300) (by omega) rfl (Nat.le_of_ble_eq_true rfl) ?_
  refine g_iload_n 1 (gd rfl) rfl rfl ?_
  refine g_aload_n 2 (gd rfl) rfl rfl ?_
  refine g_alenZ 3 (gd rfl) rfl hx (fun z3 e3 ez => ?_)
  refine g_calls (As := [.int j, .int z3]) (r := []) 6 (gd rfl) rfl rfl rfl rfl rfl (Nat.le_of_ble_eq_true rfl) (Nat.zero_le _) (Nat.zero_le _) (k_434 h0 (by omega) (by omega)) (fun v u h => ?_)
  obtain ⟨rfl, rfl⟩ := h
  show GG _ _ _ _ _ _ _ _ [] _ _ _
  refine g_aload_n 7 (gd rfl) rfl rfl ?_
  refine g_iload_n 8 (gd rfl) rfl rfl ?_
  refine g_baloadZ 9 (gd rfl) rfl hx h0 h1_ (fun z4 e4 => ?_)
  refine g_sipush 255 12 (gd rfl) rfl rfl ?_
  refine g_iand 13 (gd rfl) rfl (fun z5 e5 => ?_)
  refine g_i2c 14 (gd rfl) rfl (fun z6 e6 => ?_)
  exact g_ireturn (gd rfl) rfl (z_nc2 (in_i2c e6)) (hP _ _ ⟨z6, rfl, rfl, in_i2c e6, fun h1 => z_108 h1 h0 h1_ e4 e5 e6, z_by (z_7 hx) (z_j9 hx h0 h1_) e4 e5 e6⟩)

theorem f_429 {j : Int32} (hx : In x 0 6) (h0 : 0 ≤ j.toInt) (h1 : j.toInt < (zn x : Int)) (hd : 4 ≤ d) : GC Z d 429 [.ref (zq Z x), .int j] ws 0 0 (fun v u => ∃ z : Int32, v = some (.int z) ∧ u = ws ∧ In z 0 65535 ∧ (x.toInt = 1 → z.toInt = 108) ∧ z.toInt = zby x.toNatClampNeg j.toNatClampNeg) X := by
  intro post xp hP hX
  refine g_enter2 (k := 429) (N := 300) (by omega) rfl (Nat.le_of_ble_eq_true rfl) ?_
  refine g_aload_n 1 (gd rfl) rfl rfl ?_
  refine g_callS (As := []) (r := []) (x := x) 4 (gd rfl) rfl rfl rfl zm_433 rfl rfl rfl hx (Nat.le_of_ble_eq_true rfl) (k_433 hx (by omega)) (fun e u h => h) (fun v u h => ?_)
  obtain ⟨rfl, rfl⟩ := h
  show GG _ _ _ _ _ _ _ _ [.int (Int32.ofInt 1)] _ _ _
  refine g_if_eq 7 16 (gd rfl) rfl rfl (fun c => absurd c (by decide)) (fun _ => ?_)
  refine g_aload_n 8 (gd rfl) rfl rfl ?_
  refine g_getVA 11 (gd rfl) rfl hx rfl ?_
  refine g_iload_n 12 (gd rfl) rfl rfl ?_
  refine g_calls (As := [.ref (zp Z x), .int j]) (r := []) 15 (gd rfl) rfl rfl rfl rfl rfl (Nat.le_of_ble_eq_true rfl) (Nat.zero_le _) (Nat.zero_le _) (f_435 hx h0 h1 (by omega)) (fun v u h => ?_)
  obtain ⟨z, rfl, rfl, hz, hz8, hz9⟩ := h
  show GG _ _ _ _ _ _ _ _ [.int z] _ _ _
  exact g_ireturn (gd rfl) rfl (z_nc2 hz) (hP _ _ ⟨z, rfl, rfl, hz, hz8, hz9⟩)

end ZM
/-- which shape belongs to which letter -/
def SHQ (c k : Int) : Prop := (c = 13 ∧ k = 1) ∨ (c = 0 ∧ k = 2) ∨ (c = 19 ∧ k = 3) ∨ (c = 22 ∧ k = 4)
theorem shq_i {c k : Int} (h : SHQ c k) : cmI c := by
  rcases h with h | h | h | h
  · exact Or.inl h.1
  · exact Or.inr (Or.inl h.1)
  · exact Or.inr (Or.inr (Or.inl h.1))
  · exact Or.inr (Or.inr (Or.inr h.1))
theorem shq_n {c : Int} {x : Int32} (h : SHQ c x.toInt) : zn x = cmA c := by
  unfold zn
  rcases h with ⟨h1, h2⟩ | ⟨h1, h2⟩ | ⟨h1, h2⟩ | ⟨h1, h2⟩
  · rw [show x.toNatClampNeg = 1 from by show x.toInt.toNat = 1; omega, h1]; rfl
  · rw [show x.toNatClampNeg = 2 from by show x.toInt.toNat = 2; omega, h1]; rfl
  · rw [show x.toNatClampNeg = 3 from by show x.toInt.toNat = 3; omega, h1]; rfl
  · rw [show x.toNatClampNeg = 4 from by show x.toInt.toNat = 4; omega, h1]; rfl
theorem shq_5 {c k : Int} (h : SHQ c k) : cmA c ≤ 5 ∧ 1 ≤ cmA c := by
  rcases h with ⟨h1, h2⟩ | ⟨h1, h2⟩ | ⟨h1, h2⟩ | ⟨h1, h2⟩ <;> (rw [h1]; decide)
theorem shq_k {c : Int} {x : Int32} {j : Nat} (h : SHQ c x.toInt) (hj : j < cmA c) : (zby x.toNatClampNeg j = 108 → cmK c (j + 1) = 1) ∧ (zby x.toNatClampNeg j ≠ 108 → cmK c (j + 1) = 2) := by
  rcases h with ⟨h1, h2⟩ | ⟨h1, h2⟩ | ⟨h1, h2⟩ | ⟨h1, h2⟩
  · rw [show x.toNatClampNeg = 1 from by show x.toInt.toNat = 1; omega]
    rw [h1] at hj ⊢
    exact (by decide : ∀ j, j < 1 → (zby 1 j = 108 → cmK 13 (j + 1) = 1) ∧ (zby 1 j ≠ 108 → cmK 13 (j + 1) = 2)) j hj
  · rw [show x.toNatClampNeg = 2 from by show x.toInt.toNat = 2; omega]
    rw [h1] at hj ⊢
    exact (by decide : ∀ j, j < 5 → (zby 2 j = 108 → cmK 0 (j + 1) = 1) ∧ (zby 2 j ≠ 108 → cmK 0 (j + 1) = 2)) j hj
  · rw [show x.toNatClampNeg = 3 from by show x.toInt.toNat = 3; omega]
    rw [h1] at hj ⊢
    exact (by decide : ∀ j, j < 1 → (zby 3 j = 108 → cmK 19 (j + 1) = 1) ∧ (zby 3 j ≠ 108 → cmK 19 (j + 1) = 2)) j hj
  · rw [show x.toNatClampNeg = 4 from by show x.toInt.toNat = 4; omega]
    rw [h1] at hj ⊢
    exact (by decide : ∀ j, j < 2 → (zby 4 j = 108 → cmK 22 (j + 1) = 1) ∧ (zby 4 j ≠ 108 → cmK 22 (j + 1) = 2)) j hj
