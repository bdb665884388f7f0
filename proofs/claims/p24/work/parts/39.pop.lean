/-! bitCount answers at most 32: byte by byte -/
theorem land_split (q b m c : Nat) (hb : b < 256) (hc : c < 256) : (256 * q + b) &&& (256 * m + c) = 256 * (q &&& m) + (b &&& c) := by
  apply Nat.eq_of_testBit_eq
  intro i
  have hbc : b &&& c < 2 ^ 8 := Nat.lt_of_le_of_lt Nat.and_le_left hb
  have e1 := Nat.testBit_two_pow_mul_add q (i := 8) hb i
  have e2 := Nat.testBit_two_pow_mul_add m (i := 8) hc i
  have e3 := Nat.testBit_two_pow_mul_add (q &&& m) (i := 8) hbc i
  rw [Nat.testBit_and, show 256 * q + b = 2 ^ 8 * q + b from rfl, show 256 * m + c = 2 ^ 8 * m + c from rfl, show 256 * (q &&& m) + (b &&& c) = 2 ^ 8 * (q &&& m) + (b &&& c) from rfl, e1, e2, e3]
  by_cases h : i < 8
  · simp [h]
  · simp [h]
def PA (m n : Nat) : Nat := n - ((n / 2) &&& m)
def PB (m n : Nat) : Nat := (n &&& m) + ((n / 4) &&& m)
def PC (m n : Nat) : Nat := (n + n / 16) &&& m
theorem pa_0 : ∀ (e : Fin 2) (c : Fin 128), (128 * e.val + c.val) &&& 85 = c.val &&& 85 := by decide +kernel
theorem pb_0 : ∀ (e : Fin 4) (c : Fin 64), (64 * e.val + c.val) &&& 51 = c.val &&& 51 := by decide +kernel
theorem pb_1 : ∀ b : Fin 256, PA 85 b.val < 256 ∧ PB 51 (PA 85 b.val) ≤ 68 ∧ PB 51 (PA 85 b.val) % 16 ≤ 4 ∧ PC 15 (PB 51 (PA 85 b.val)) ≤ 8 := by decide +kernel
theorem pa_s (m q b : Nat) (hb : b < 256) : PA (256 * m + 85) (256 * q + b) = 256 * PA m q + PA 85 b := by
  unfold PA
  have e1 : (256 * q + b) / 2 = 256 * (q / 2) + (128 * (q % 2) + b / 2) := by omega
  rw [e1, land_split _ _ _ _ (by omega) (by decide), pa_0 ⟨q % 2, by omega⟩ ⟨b / 2, by omega⟩]
  have h1 : (q / 2) &&& m ≤ q / 2 := Nat.and_le_left
  have h2 : (b / 2) &&& 85 ≤ b / 2 := Nat.and_le_left
  show 256 * q + b - (256 * (q / 2 &&& m) + (b / 2 &&& 85)) = _
  omega
theorem pb_s (m q b : Nat) (hb : b < 256) : PB (256 * m + 51) (256 * q + b) = 256 * PB m q + PB 51 b := by
  unfold PB
  have e1 : (256 * q + b) / 4 = 256 * (q / 4) + (64 * (q % 4) + b / 4) := by omega
  have e2 := pb_0 ⟨q % 4, by omega⟩ ⟨b / 4, by omega⟩
  have e2 : (64 * (q % 4) + b / 4) &&& 51 = (b / 4) &&& 51 := e2
  rw [land_split q b m 51 hb (by decide), e1, land_split (q / 4) (64 * (q % 4) + b / 4) m 51 (by omega) (by decide), e2]
  show 256 * (q &&& m) + (b &&& 51) + (256 * (q / 4 &&& m) + (b / 4 &&& 51)) = _
  omega
theorem pc_s (m q b : Nat) (hb : b ≤ 68) (hq : q % 16 ≤ 4) : PC (256 * m + 15) (256 * q + b) = 256 * PC m q + PC 15 b := by
  unfold PC
  have e1 : 256 * q + b + (256 * q + b) / 16 = 256 * (q + q / 16) + (b + b / 16 + 16 * (q % 16)) := by omega
  rw [e1, land_split _ _ _ _ (by omega) (by decide)]
  have e2 : ∀ x : Nat, x &&& 15 = x % 16 := fun x => Nat.and_two_pow_sub_one_eq_mod x 4
  rw [e2, e2]
  omega
theorem pop_le (n : Nat) (hn : n < 4294967296) : PC 252645135 (PB 858993459 (PA 1431655765 n)) / 1 + 0 = PC 252645135 (PB 858993459 (PA 1431655765 n)) ∧ ∃ a b c d : Nat, a ≤ 8 ∧ b ≤ 8 ∧ c ≤ 8 ∧ d ≤ 8 ∧ PC 252645135 (PB 858993459 (PA 1431655765 n)) = a + 256 * (b + 256 * (c + 256 * d)) := by
  refine ⟨by omega, ?_⟩
  obtain ⟨b0, b1, b2, b3, h0, h1, h2, h3, rfl⟩ : ∃ b0 b1 b2 b3 : Nat, b0 < 256 ∧ b1 < 256 ∧ b2 < 256 ∧ b3 < 256 ∧ n = 256 * (256 * (256 * b3 + b2) + b1) + b0 := ⟨n % 256, n / 256 % 256, n / 65536 % 256, n / 16777216, by omega, by omega, by omega, by omega, by omega⟩
  have p0 : PA 85 b0 < 256 := (pb_1 ⟨b0, h0⟩).1
  have q0 : PB 51 (PA 85 b0) ≤ 68 := (pb_1 ⟨b0, h0⟩).2.1
  have r0 : PB 51 (PA 85 b0) % 16 ≤ 4 := (pb_1 ⟨b0, h0⟩).2.2.1
  have s0 : PC 15 (PB 51 (PA 85 b0)) ≤ 8 := (pb_1 ⟨b0, h0⟩).2.2.2
  have p1 : PA 85 b1 < 256 := (pb_1 ⟨b1, h1⟩).1
  have q1 : PB 51 (PA 85 b1) ≤ 68 := (pb_1 ⟨b1, h1⟩).2.1
  have r1 : PB 51 (PA 85 b1) % 16 ≤ 4 := (pb_1 ⟨b1, h1⟩).2.2.1
  have s1 : PC 15 (PB 51 (PA 85 b1)) ≤ 8 := (pb_1 ⟨b1, h1⟩).2.2.2
  have p2 : PA 85 b2 < 256 := (pb_1 ⟨b2, h2⟩).1
  have q2 : PB 51 (PA 85 b2) ≤ 68 := (pb_1 ⟨b2, h2⟩).2.1
  have r2 : PB 51 (PA 85 b2) % 16 ≤ 4 := (pb_1 ⟨b2, h2⟩).2.2.1
  have s2 : PC 15 (PB 51 (PA 85 b2)) ≤ 8 := (pb_1 ⟨b2, h2⟩).2.2.2
  have p3 : PA 85 b3 < 256 := (pb_1 ⟨b3, h3⟩).1
  have q3 : PB 51 (PA 85 b3) ≤ 68 := (pb_1 ⟨b3, h3⟩).2.1
  have r3 : PB 51 (PA 85 b3) % 16 ≤ 4 := (pb_1 ⟨b3, h3⟩).2.2.1
  have s3 : PC 15 (PB 51 (PA 85 b3)) ≤ 8 := (pb_1 ⟨b3, h3⟩).2.2.2
  have a1 : PA 1431655765 (256 * (256 * (256 * b3 + b2) + b1) + b0) = 256 * (256 * (256 * PA 85 b3 + PA 85 b2) + PA 85 b1) + PA 85 b0 := by
    rw [show (1431655765 : Nat) = 256 * 5592405 + 85 from rfl, pa_s _ _ _ h0, show (5592405 : Nat) = 256 * 21845 + 85 from rfl, pa_s _ _ _ h1, show (21845 : Nat) = 256 * 85 + 85 from rfl, pa_s _ _ _ h2]
  have a2 : PB 858993459 (256 * (256 * (256 * PA 85 b3 + PA 85 b2) + PA 85 b1) + PA 85 b0) = 256 * (256 * (256 * PB 51 (PA 85 b3) + PB 51 (PA 85 b2)) + PB 51 (PA 85 b1)) + PB 51 (PA 85 b0) := by
    rw [show (858993459 : Nat) = 256 * 3355443 + 51 from rfl, pb_s _ _ _ p0, show (3355443 : Nat) = 256 * 13107 + 51 from rfl, pb_s _ _ _ p1, show (13107 : Nat) = 256 * 51 + 51 from rfl, pb_s _ _ _ p2]
  refine ⟨PC 15 (PB 51 (PA 85 b0)), PC 15 (PB 51 (PA 85 b1)), PC 15 (PB 51 (PA 85 b2)), PC 15 (PB 51 (PA 85 b3)), s0, s1, s2, s3, ?_⟩
  have q1' : PB 51 (PA 85 b1) % 16 ≤ 4 := r1
  have q2' : PB 51 (PA 85 b2) % 16 ≤ 4 := r2
  have q3' : PB 51 (PA 85 b3) % 16 ≤ 4 := r3
  rw [a1, a2, show (252645135 : Nat) = 256 * 986895 + 15 from rfl, pc_s _ _ _ q0 (by omega), show (986895 : Nat) = 256 * 3855 + 15 from rfl, pc_s _ _ _ q1 (by omega), show (3855 : Nat) = 256 * 15 + 15 from rfl, pc_s _ _ _ q2 (by omega)]
  omega
theorem ush_n (x : Int32) : (x.toUInt32 >>> ((Int32.ofInt 1).toUInt32 &&& Int32.toUInt32 31)).toInt32.toBitVec.toNat = x.toBitVec.toNat / 2 ∧ (x.toUInt32 >>> ((Int32.ofInt 2).toUInt32 &&& Int32.toUInt32 31)).toInt32.toBitVec.toNat = x.toBitVec.toNat / 4 ∧ (x.toUInt32 >>> ((Int32.ofInt 4).toUInt32 &&& Int32.toUInt32 31)).toInt32.toBitVec.toNat = x.toBitVec.toNat / 16 ∧ (x.toUInt32 >>> ((Int32.ofInt 8).toUInt32 &&& Int32.toUInt32 31)).toInt32.toBitVec.toNat = x.toBitVec.toNat / 256 ∧ (x.toUInt32 >>> ((Int32.ofInt 16).toUInt32 &&& Int32.toUInt32 31)).toInt32.toBitVec.toNat = x.toBitVec.toNat / 65536 := by
  have h : ∀ k : Nat, (x.toBitVec >>> k).toNat = x.toBitVec.toNat / 2 ^ k := fun k => by rw [BitVec.toNat_ushiftRight, Nat.shiftRight_eq_div_pow]
  exact ⟨h 1, h 2, h 4, h 8, h 16⟩
theorem and_n (x y : Int32) : (x &&& y).toBitVec.toNat = x.toBitVec.toNat &&& y.toBitVec.toNat := BitVec.toNat_and _ _
theorem add_n (x y : Int32) (h : x.toBitVec.toNat + y.toBitVec.toNat < 4294967296) : (x + y).toBitVec.toNat = x.toBitVec.toNat + y.toBitVec.toNat := by
  show (x.toBitVec + y.toBitVec).toNat = _
  rw [BitVec.toNat_add]
  exact Nat.mod_eq_of_lt h
theorem sub_n (x y : Int32) (h : y.toBitVec.toNat ≤ x.toBitVec.toNat) : (x - y).toBitVec.toNat = x.toBitVec.toNat - y.toBitVec.toNat := by
  show (x.toBitVec - y.toBitVec).toNat = _
  exact BitVec.toNat_sub_of_le h
theorem bc_le (x : Int32) : In (bc0 x) 0 32 := by
  have hn := x.toBitVec.isLt
  have m5 : (Int32.ofInt 1431655765).toBitVec.toNat = 1431655765 := rfl
  have m3 : (Int32.ofInt 858993459).toBitVec.toNat = 858993459 := rfl
  have mf : (Int32.ofInt 252645135).toBitVec.toNat = 252645135 := rfl
  have m6 : (Int32.ofInt 63).toBitVec.toNat = 63 := rfl
  unfold bc0
  generalize e1 : x - ((x.toUInt32 >>> ((Int32.ofInt 1).toUInt32 &&& Int32.toUInt32 31)).toInt32 &&& Int32.ofInt 1431655765) = v1
  generalize e2 : (v1 &&& Int32.ofInt 858993459) + ((v1.toUInt32 >>> ((Int32.ofInt 2).toUInt32 &&& Int32.toUInt32 31)).toInt32 &&& Int32.ofInt 858993459) = v2
  generalize e3 : (v2 + (v2.toUInt32 >>> ((Int32.ofInt 4).toUInt32 &&& Int32.toUInt32 31)).toInt32) &&& Int32.ofInt 252645135 = v3
  generalize e4 : v3 + (v3.toUInt32 >>> ((Int32.ofInt 8).toUInt32 &&& Int32.toUInt32 31)).toInt32 = v4
  generalize e5 : v4 + (v4.toUInt32 >>> ((Int32.ofInt 16).toUInt32 &&& Int32.toUInt32 31)).toInt32 = v5
  have n1 : v1.toBitVec.toNat = PA 1431655765 x.toBitVec.toNat := by
    rw [← e1, sub_n]
    · rw [and_n, (ush_n x).1, m5]; rfl
    · rw [and_n, (ush_n x).1]
      exact Nat.le_trans Nat.and_le_left (Nat.div_le_self _ _)
  have n2 : v2.toBitVec.toNat = PB 858993459 v1.toBitVec.toNat := by
    have l1 : v1.toBitVec.toNat &&& 858993459 ≤ 858993459 := Nat.and_le_right
    have l2 : (v1.toBitVec.toNat / 4) &&& 858993459 ≤ 858993459 := Nat.and_le_right
    rw [← e2, add_n]
    · rw [and_n, and_n, (ush_n v1).2.1, m3]; rfl
    · rw [and_n, and_n, (ush_n v1).2.1, m3]; omega
  have b2 : v2.toBitVec.toNat ≤ 1717986918 := by
    have l1 : v1.toBitVec.toNat &&& 858993459 ≤ 858993459 := Nat.and_le_right
    have l2 : (v1.toBitVec.toNat / 4) &&& 858993459 ≤ 858993459 := Nat.and_le_right
    rw [n2]
    unfold PB
    omega
  have n3 : v3.toBitVec.toNat = PC 252645135 v2.toBitVec.toNat := by
    rw [← e3, and_n, add_n]
    · rw [(ush_n v2).2.2.1, mf]; rfl
    · rw [(ush_n v2).2.2.1]; omega
  obtain ⟨-, a, b, c, d, ha, hb, hc, hd, he⟩ := pop_le x.toBitVec.toNat (by omega)
  rw [← n1, ← n2, ← n3] at he
  have n4 : v4.toBitVec.toNat = v3.toBitVec.toNat + v3.toBitVec.toNat / 256 := by
    rw [← e4, add_n]
    · rw [(ush_n v3).2.2.2.1]
    · rw [(ush_n v3).2.2.2.1]; omega
  have n5 : v5.toBitVec.toNat = v4.toBitVec.toNat + v4.toBitVec.toNat / 65536 := by
    rw [← e5, add_n]
    · rw [(ush_n v4).2.2.2.2]
    · rw [(ush_n v4).2.2.2.2]; omega
  have n6 : (v5 &&& Int32.ofInt 63).toBitVec.toNat = v5.toBitVec.toNat % 64 := by
    rw [and_n, m6]
    exact Nat.and_two_pow_sub_one_eq_mod _ 6
  have h4 : v4.toBitVec.toNat = (a + b) + 256 * (b + c) + 65536 * (c + d) + 16777216 * d := by
    rw [n4, he]
    omega
  have h5 : v5.toBitVec.toNat = (a + b + c + d) + 64 * (4 * (b + c + d) + 1024 * (c + d) + 262144 * d) := by
    have hq : (a + b + 256 * (b + c) + 65536 * (c + d) + 16777216 * d) / 65536 = c + d + 256 * d := by
      rw [show a + b + 256 * (b + c) + 65536 * (c + d) + 16777216 * d = (a + b + 256 * (b + c)) + 65536 * (c + d + 256 * d) by omega, Nat.add_mul_div_left _ _ (by decide), Nat.div_eq_of_lt (by omega)]
      omega
    rw [n5, h4, hq]
    omega
  have hz : (v5 &&& Int32.ofInt 63).toBitVec.toNat ≤ 32 := by
    rw [n6, h5, Nat.add_mul_mod_self_left]
    exact Nat.le_trans (Nat.mod_le _ _) (show a + b + c + d ≤ 32 by omega)
  have e : (v5 &&& Int32.ofInt 63).toInt = ((v5 &&& Int32.ofInt 63).toBitVec.toNat : Int) := BitVec.toInt_eq_toNat_of_lt (by omega)
  exact ⟨by omega, by omega⟩
theorem k_414b {Z : AmZ} {A : Nat → Nat} {s : GS} {ex : va_W} {d : Nat} {X : AmX} {x0 : Int32} (hd : 1 ≤ d) (_ : Inv s) : GC Z d 414 [.int x0] (WW Z A s ++ ex) 0 0 (fun v u => ∃ z : Int32, v = some (.int z) ∧ u = WW Z A s ++ ex ∧ In z 0 32) X := by
  intro post xp hP hX
  exact x_414 hd post xp (fun v u h => hP v u ⟨_, h.1, h.2, bc_le _⟩) hX
