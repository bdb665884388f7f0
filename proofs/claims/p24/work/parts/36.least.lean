/-! a bit of a row, and the least one -/
def hasB (x y : Int32) : Prop := ((x >>> (y &&& 31)) &&& Int32.ofInt 1).toInt = 1
theorem sh_1 : ∀ k : Fin 32, (Int32.ofNat k.val &&& 31 : Int32) = Int32.ofNat k.val := by decide +kernel
theorem sh_2 : ∀ k : Fin 32, (Int32.ofNat k.val).toBitVec.smod 32#32 = BitVec.ofNat 32 k.val := by decide +kernel
theorem has_bit {x y : Int32} {k : Nat} (hy : y.toInt = (k : Int)) (hk : k < 32) : hasB x y ↔ x.toBitVec.getLsbD k = true := by
  have e : y = Int32.ofNat k := Int32.toInt_inj.mp (by rw [hy]; exact (Int32.toInt_ofNat_of_lt (by omega)).symm)
  have e1 : (y &&& 31 : Int32) = Int32.ofNat k := by rw [e]; exact sh_1 ⟨k, hk⟩
  unfold hasB
  rw [e1]
  have e2 : ((x >>> Int32.ofNat k) &&& Int32.ofInt 1).toBitVec = (x.toBitVec.sshiftRight k) &&& 1#32 := by
    show (x.toBitVec.sshiftRight' ((Int32.ofNat k).toBitVec.smod 32#32)) &&& (Int32.ofInt 1).toBitVec = _
    rw [sh_2 ⟨k, hk⟩, BitVec.sshiftRight_eq']
    have e3 : (BitVec.ofNat 32 k).toNat = k := by
      rw [BitVec.toNat_ofNat]
      exact Nat.mod_eq_of_lt (by omega)
    rw [e3]
    rfl
  have e4 : ((x >>> Int32.ofNat k) &&& Int32.ofInt 1).toInt = ((x.toBitVec.sshiftRight k) &&& 1#32).toInt := congrArg BitVec.toInt e2
  rw [e4, BitVec.and_one_eq_setWidth_ofBool_getLsbD, BitVec.getLsbD_sshiftRight]
  have e5 : (!decide (32 ≤ 0) && if k + 0 < 32 then x.toBitVec.getLsbD (k + 0) else x.toBitVec.msb) = x.toBitVec.getLsbD k := by
    rw [if_pos (by omega)]
    simp
  rw [e5]
  cases x.toBitVec.getLsbD k <;> decide
section GH
variable {Z : AmZ} {d : Nat} {ws : va_W} {X : AmX}
theorem x_311 {x0 x1 : Int32} (hd : 1 ≤ d) : GC Z d 311 [.int x0, .int x1] ws 0 0 (fun v u => u = ws ∧ ((hasB x0 x1 ∧ v = some (.int (Int32.ofInt 1))) ∨ (¬ hasB x0 x1 ∧ v = some (.int (Int32.ofInt 0))))) X := by
  intro post xp hP hX
  refine g_enter2 (k := 311) (N := 50) (by omega) rfl (Nat.le_of_ble_eq_true rfl) ?_
  refine g_iload_n 1 (gd rfl) rfl rfl ?_
  refine g_iload_n 2 (gd rfl) rfl rfl ?_
  refine g_ishr 3 (gd rfl) rfl (fun z1 e1 => ?_)
  refine g_iconst 1 4 (gd rfl) rfl rfl ?_
  refine g_iand 5 (gd rfl) rfl (fun z2 e2 => ?_)
  refine g_iconst 1 6 (gd rfl) rfl rfl ?_
  have e3 : z2.toInt = 1 ↔ hasB x0 x1 := by rw [e2, e1]; exact Iff.rfl
  refine g_cmp_ne 9 13 (gd rfl) rfl rfl (fun c => ?_) (fun c => ?_)
  · refine g_iconst 0 14 (gd rfl) rfl rfl ?_
    exact g_ireturn (gd rfl) rfl (nb01 (in_w 0 1 (in_c 0 rfl) rfl)) (hP _ _ ⟨rfl, Or.inr ⟨fun h => c (e3.mpr h), rfl⟩⟩)
  · refine g_iconst 1 10 (gd rfl) rfl rfl ?_
    refine g_goto 14 (gd rfl) rfl ?_
    exact g_ireturn (gd rfl) rfl (nb01 (in_w 0 1 (in_c 1 rfl) rfl)) (hP _ _ ⟨rfl, Or.inl ⟨e3.mp c, rfl⟩⟩)
theorem k_327n {x0 : Int32} (hd : 2 ≤ d) (hx : x0.toInt ≠ 0) : GC Z d 327 [.int x0] ws 0 0 (fun v u => ∃ z : Int32, v = some (.int z) ∧ u = ws ∧ In z 0 31 ∧ bt x0 z.toNatClampNeg = true) X := by
  intro post xp hP hX
  obtain ⟨w, hw, hb, -⟩ := low32 hx
  have ct : ∀ (k : Nat) (y : Int32), 0 ≤ y.toInt → y.toInt ≤ (w : Int) → (w : Int) - y.toInt < (k : Int) → GG Z (d - 1) 327 post (gx xp) (10 + k * 20) 2 (fun j => xlook j [(0, .int x0), (1, .int y)]) [] ws 0 0 := by
    intro k
    induction k with
    | zero => intro y h0 h1 hm; omega
    | succ k ih =>
      intro y h0 h1 hm
      refine gg_w (M := 10 + k * 20 + 20) (by omega) ?_
      refine g_iload_n 3 (gd rfl) rfl rfl ?_
      refine g_iload_n 4 (gd rfl) rfl rfl ?_
      refine g_calls (As := [.int x0, .int y]) (r := []) 7 (gd rfl) rfl rfl rfl rfl rfl (Nat.le_of_ble_eq_true rfl) (Nat.zero_le _) (Nat.zero_le _) (x_311 (by omega)) (fun v u h => ?_)
      obtain ⟨rfl, h⟩ := h
      rcases h with ⟨hh, rfl⟩ | ⟨hh, rfl⟩
      · show GG _ _ _ _ _ _ _ _ [.int (Int32.ofInt 1)] _ _ _
        refine g_if_ne 10 16 (gd rfl) rfl rfl (fun c => ?_) (fun c => ?_)
        · refine g_iload_n 17 (gd rfl) rfl rfl ?_
          exact g_ireturn (gd rfl) rfl rfl (hP _ _ ⟨y, rfl, rfl, ⟨h0, by omega⟩, by have hk : y.toInt = (y.toNatClampNeg : Int) := by { show y.toInt = ((y.toInt.toNat : Nat) : Int); omega }; exact (has_bit hk (by omega)).mp hh⟩)
        · exact zn_eq c (in_c 1 rfl) rfl
      · show GG _ _ _ _ _ _ _ _ [.int (Int32.ofInt 0)] _ _ _
        refine g_if_ne 10 16 (gd rfl) rfl rfl (fun c => ?_) (fun c => ?_)
        · exact zn_ne c (in_c 0 rfl) rfl
        · have hne : y.toInt ≠ (w : Int) := fun e => hh ((has_bit e hw).mpr hb)
          refine g_iinc 13 (gd rfl) rfl rfl (Nat.le_of_ble_eq_true rfl) (fun z e => ?_)
          refine g_goto 2 (gd rfl) rfl ?_
          have ez := t_add (a := 0) (b := 31) e ⟨h0, by omega⟩ (in_c 1 rfl) rfl
          have h01 : (Int32.ofInt 1).toInt = 1 := rfl
          exact gg_w (by omega) (gg_f (gf_cons rfl (gf_cons rfl gf_nil)) (ih z (by omega) (by omega) (by omega)))
  refine g_enter2 (k := 327) (N := 1000) (by omega) rfl (Nat.le_of_ble_eq_true rfl) ?_
  refine g_iconst 0 1 (gd rfl) rfl rfl ?_
  refine g_istore_n 2 (gd rfl) rfl (Nat.le_of_ble_eq_true rfl) ?_
  have h00 : (Int32.ofInt 0).toInt = 0 := rfl
  exact gg_w (by omega) (gg_f (gf_cons rfl (gf_cons rfl gf_nil)) (ct 33 (Int32.ofInt 0) (by omega) (by omega) (by omega)))
end GH
