/-! A DRAW THAT ISN'T LOST: the steps of the seed come to it -/
def j0 (x : Int64) : Int64 := (Int64.ofInt (-5995951349977708269) - x) * Int64.ofInt (-1018231460777725123)
theorem x0_ok {x d : Int64} (h : d = j0 x) : x + Int64.ofInt (-7046029254386353131) * d = Int64.ofInt (-5995951349977708269) := by
  rw [h]
  unfold j0
  rw [Int64.mul_comm (Int64.ofInt (-5995951349977708269) - x), ← Int64.mul_assoc, show Int64.ofInt (-7046029254386353131) * Int64.ofInt (-1018231460777725123) = 1 from by decide, Int64.one_mul, Int64.add_comm, Int64.sub_add_cancel]
def dd (x d : Int64) : Nat := if (j0 x - d).toBitVec.toNat = 0 then 18446744073709551616 else (j0 x - d).toBitVec.toNat
theorem dd_n (x d : Int64) : (j0 x - d).toBitVec.toNat = (18446744073709551616 - d.toBitVec.toNat + (j0 x).toBitVec.toNat) % 18446744073709551616 := by
  rw [Int64.toBitVec_sub, BitVec.toNat_sub]
theorem dd_le (x d : Int64) : dd x d ≤ 18446744073709551616 := by
  unfold dd
  have h := (j0 x - d).toBitVec.isLt
  split
  · exact Nat.le_refl _
  · omega
theorem dd_0 (x d : Int64) : dd x d + (Int32.ofInt 0).toInt.toNat = dd x d := by
  have h : (Int32.ofInt 0).toInt.toNat = 0 := rfl
  rw [h, Nat.add_zero]
theorem dm_1 {a b k x y W : Nat} (h : b * W + y < k + 1) (hx : x < y) (ha : a ≤ b) : a * W + x < k := by
  have := Nat.mul_le_mul_right W ha
  omega
theorem dm_2 {a b k x y W : Nat} (h : b * W + y < k + 1) (hx : x < W) (ha : a < b) : a * W + x < k := by
  have := Nat.mul_le_mul_right W (show a + 1 ≤ b from ha)
  rw [Nat.add_mul, Nat.one_mul] at this
  omega
theorem dd_e {d e : Int64} (he : e = d + Int64.ofInt 1) : e.toBitVec.toNat = (d.toBitVec.toNat + 1) % 18446744073709551616 := by
  rw [he, Int64.toBitVec_add, BitVec.toNat_add]
  rfl
theorem dd_s {x d e : Int64} (he : e = d + Int64.ofInt 1) (h : ¬ dd x d = 1) : dd x e + 1 = dd x d := by
  have h1 := dd_e he
  have l1 := d.toBitVec.isLt
  have l2 := (j0 x).toBitVec.isLt
  unfold dd at h ⊢
  rw [dd_n] at h ⊢
  rw [dd_n, h1]
  generalize d.toBitVec.toNat = b at *
  generalize (j0 x).toBitVec.toNat = a at *
  split <;> split at h <;> split <;> omega
theorem dd_1 {x d e : Int64} (he : e = d + Int64.ofInt 1) (h : dd x d = 1) : e = j0 x := by
  have h1 := dd_e he
  have l1 := d.toBitVec.isLt
  have l2 := (j0 x).toBitVec.isLt
  unfold dd at h
  rw [dd_n] at h
  have h2 : e.toBitVec.toNat = (j0 x).toBitVec.toNat := by
    rw [h1]
    generalize d.toBitVec.toNat = b at *
    generalize (j0 x).toBitVec.toNat = a at *
    split at h <;> omega
  exact Int64.toBitVec_inj.mp (BitVec.eq_of_toNat_eq h2)
theorem sG_get {s : GS} {q j : Nat} {x : Int64} : x = (sG s q j x).2.2.2.1 q j := by simp [sG]
