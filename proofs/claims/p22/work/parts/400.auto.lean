section
theorem gwg {b n c r k q : Nat} (h : Nat.ble (b + n * c) r = true) : b + n * c ≤ r + k + q := by
  have := Nat.le_of_ble_eq_true h
  omega
theorem gwh {b n c r k : Nat} (h : Nat.ble (b + n * c) r = true) : b + n * c ≤ r + k := by
  have := Nat.le_of_ble_eq_true h
  omega
theorem zt_l {a : Int} {n : Nat} (h0 : 0 < n) (h : a < (n : Int)) : a.toNat < n := by omega
theorem zt_e {a : Int} {n : Nat} (h : a = (n : Int)) : a.toNat = n := by omega
theorem zt_u {a : Int} {n : Nat} (h : a ≤ (n : Int)) : a.toNat ≤ n := by omega
theorem zt_s {a b : Int} (h0 : 0 ≤ b) (h : a = b + 1) : a.toNat = b.toNat + 1 := by omega
theorem zt_a {a b c : Int} (h0 : 0 ≤ b) (h1 : 0 ≤ c) (h : a = b + c) : a.toNat = b.toNat + c.toNat := by omega
theorem zt_m {a b c : Int} (h0 : 0 ≤ b) (h1 : 0 ≤ c) (h : a = 32 * b + c) : a.toNat = 32 * b.toNat + c.toNat := by omega
theorem zt_q {a b : Int} (h : a = b) : a.toNat = b.toNat := by rw [h]
theorem zt_t {a b : Int} (h0 : 0 < b) (h : a < b) : a.toNat < b.toNat := by omega
theorem zt_v {a b : Int} (h : a ≤ b) : a.toNat ≤ b.toNat := by omega
theorem oa2 {x0 : Int32} {l0 u0 : Int} {x1 : Int32} {l1 u1 : Int} (h0 : In x0 l0 u0) (h1 : In x1 l1 u1) : (l0 ≤ x0.toInt ∧ x0.toInt ≤ u0) ∧ (l1 ≤ x1.toInt ∧ x1.toInt ≤ u1) := ⟨h0, h1⟩
theorem oa3 {x0 : Int32} {l0 u0 : Int} {x1 : Int32} {l1 u1 : Int} {x2 : Int32} {l2 u2 : Int} (h0 : In x0 l0 u0) (h1 : In x1 l1 u1) (h2 : In x2 l2 u2) : (l0 ≤ x0.toInt ∧ x0.toInt ≤ u0) ∧ (l1 ≤ x1.toInt ∧ x1.toInt ≤ u1) ∧ (l2 ≤ x2.toInt ∧ x2.toInt ≤ u2) := ⟨h0, h1, h2⟩
theorem oa4 {x0 : Int32} {l0 u0 : Int} {x1 : Int32} {l1 u1 : Int} {x2 : Int32} {l2 u2 : Int} {x3 : Int32} {l3 u3 : Int} (h0 : In x0 l0 u0) (h1 : In x1 l1 u1) (h2 : In x2 l2 u2) (h3 : In x3 l3 u3) : (l0 ≤ x0.toInt ∧ x0.toInt ≤ u0) ∧ (l1 ≤ x1.toInt ∧ x1.toInt ≤ u1) ∧ (l2 ≤ x2.toInt ∧ x2.toInt ≤ u2) ∧ (l3 ≤ x3.toInt ∧ x3.toInt ≤ u3) := ⟨h0, h1, h2, h3⟩
theorem oa5 {x0 : Int32} {l0 u0 : Int} {x1 : Int32} {l1 u1 : Int} {x2 : Int32} {l2 u2 : Int} {x3 : Int32} {l3 u3 : Int} {x4 : Int32} {l4 u4 : Int} (h0 : In x0 l0 u0) (h1 : In x1 l1 u1) (h2 : In x2 l2 u2) (h3 : In x3 l3 u3) (h4 : In x4 l4 u4) : (l0 ≤ x0.toInt ∧ x0.toInt ≤ u0) ∧ (l1 ≤ x1.toInt ∧ x1.toInt ≤ u1) ∧ (l2 ≤ x2.toInt ∧ x2.toInt ≤ u2) ∧ (l3 ≤ x3.toInt ∧ x3.toInt ≤ u3) ∧ (l4 ≤ x4.toInt ∧ x4.toInt ≤ u4) := ⟨h0, h1, h2, h3, h4⟩
theorem oa6 {x0 : Int32} {l0 u0 : Int} {x1 : Int32} {l1 u1 : Int} {x2 : Int32} {l2 u2 : Int} {x3 : Int32} {l3 u3 : Int} {x4 : Int32} {l4 u4 : Int} {x5 : Int32} {l5 u5 : Int} (h0 : In x0 l0 u0) (h1 : In x1 l1 u1) (h2 : In x2 l2 u2) (h3 : In x3 l3 u3) (h4 : In x4 l4 u4) (h5 : In x5 l5 u5) : (l0 ≤ x0.toInt ∧ x0.toInt ≤ u0) ∧ (l1 ≤ x1.toInt ∧ x1.toInt ≤ u1) ∧ (l2 ≤ x2.toInt ∧ x2.toInt ≤ u2) ∧ (l3 ≤ x3.toInt ∧ x3.toInt ≤ u3) ∧ (l4 ≤ x4.toInt ∧ x4.toInt ≤ u4) ∧ (l5 ≤ x5.toInt ∧ x5.toInt ≤ u5) := ⟨h0, h1, h2, h3, h4, h5⟩
theorem oa7 {x0 : Int32} {l0 u0 : Int} {x1 : Int32} {l1 u1 : Int} {x2 : Int32} {l2 u2 : Int} {x3 : Int32} {l3 u3 : Int} {x4 : Int32} {l4 u4 : Int} {x5 : Int32} {l5 u5 : Int} {x6 : Int32} {l6 u6 : Int} (h0 : In x0 l0 u0) (h1 : In x1 l1 u1) (h2 : In x2 l2 u2) (h3 : In x3 l3 u3) (h4 : In x4 l4 u4) (h5 : In x5 l5 u5) (h6 : In x6 l6 u6) : (l0 ≤ x0.toInt ∧ x0.toInt ≤ u0) ∧ (l1 ≤ x1.toInt ∧ x1.toInt ≤ u1) ∧ (l2 ≤ x2.toInt ∧ x2.toInt ≤ u2) ∧ (l3 ≤ x3.toInt ∧ x3.toInt ≤ u3) ∧ (l4 ≤ x4.toInt ∧ x4.toInt ≤ u4) ∧ (l5 ≤ x5.toInt ∧ x5.toInt ≤ u5) ∧ (l6 ≤ x6.toInt ∧ x6.toInt ≤ u6) := ⟨h0, h1, h2, h3, h4, h5, h6⟩
theorem oa8 {x0 : Int32} {l0 u0 : Int} {x1 : Int32} {l1 u1 : Int} {x2 : Int32} {l2 u2 : Int} {x3 : Int32} {l3 u3 : Int} {x4 : Int32} {l4 u4 : Int} {x5 : Int32} {l5 u5 : Int} {x6 : Int32} {l6 u6 : Int} {x7 : Int32} {l7 u7 : Int} (h0 : In x0 l0 u0) (h1 : In x1 l1 u1) (h2 : In x2 l2 u2) (h3 : In x3 l3 u3) (h4 : In x4 l4 u4) (h5 : In x5 l5 u5) (h6 : In x6 l6 u6) (h7 : In x7 l7 u7) : (l0 ≤ x0.toInt ∧ x0.toInt ≤ u0) ∧ (l1 ≤ x1.toInt ∧ x1.toInt ≤ u1) ∧ (l2 ≤ x2.toInt ∧ x2.toInt ≤ u2) ∧ (l3 ≤ x3.toInt ∧ x3.toInt ≤ u3) ∧ (l4 ≤ x4.toInt ∧ x4.toInt ≤ u4) ∧ (l5 ≤ x5.toInt ∧ x5.toInt ≤ u5) ∧ (l6 ≤ x6.toInt ∧ x6.toInt ≤ u6) ∧ (l7 ≤ x7.toInt ∧ x7.toInt ≤ u7) := ⟨h0, h1, h2, h3, h4, h5, h6, h7⟩
theorem oa9 {x0 : Int32} {l0 u0 : Int} {x1 : Int32} {l1 u1 : Int} {x2 : Int32} {l2 u2 : Int} {x3 : Int32} {l3 u3 : Int} {x4 : Int32} {l4 u4 : Int} {x5 : Int32} {l5 u5 : Int} {x6 : Int32} {l6 u6 : Int} {x7 : Int32} {l7 u7 : Int} {x8 : Int32} {l8 u8 : Int} (h0 : In x0 l0 u0) (h1 : In x1 l1 u1) (h2 : In x2 l2 u2) (h3 : In x3 l3 u3) (h4 : In x4 l4 u4) (h5 : In x5 l5 u5) (h6 : In x6 l6 u6) (h7 : In x7 l7 u7) (h8 : In x8 l8 u8) : (l0 ≤ x0.toInt ∧ x0.toInt ≤ u0) ∧ (l1 ≤ x1.toInt ∧ x1.toInt ≤ u1) ∧ (l2 ≤ x2.toInt ∧ x2.toInt ≤ u2) ∧ (l3 ≤ x3.toInt ∧ x3.toInt ≤ u3) ∧ (l4 ≤ x4.toInt ∧ x4.toInt ≤ u4) ∧ (l5 ≤ x5.toInt ∧ x5.toInt ≤ u5) ∧ (l6 ≤ x6.toInt ∧ x6.toInt ≤ u6) ∧ (l7 ≤ x7.toInt ∧ x7.toInt ≤ u7) ∧ (l8 ≤ x8.toInt ∧ x8.toInt ≤ u8) := ⟨h0, h1, h2, h3, h4, h5, h6, h7, h8⟩
theorem oa10 {x0 : Int32} {l0 u0 : Int} {x1 : Int32} {l1 u1 : Int} {x2 : Int32} {l2 u2 : Int} {x3 : Int32} {l3 u3 : Int} {x4 : Int32} {l4 u4 : Int} {x5 : Int32} {l5 u5 : Int} {x6 : Int32} {l6 u6 : Int} {x7 : Int32} {l7 u7 : Int} {x8 : Int32} {l8 u8 : Int} {x9 : Int32} {l9 u9 : Int} (h0 : In x0 l0 u0) (h1 : In x1 l1 u1) (h2 : In x2 l2 u2) (h3 : In x3 l3 u3) (h4 : In x4 l4 u4) (h5 : In x5 l5 u5) (h6 : In x6 l6 u6) (h7 : In x7 l7 u7) (h8 : In x8 l8 u8) (h9 : In x9 l9 u9) : (l0 ≤ x0.toInt ∧ x0.toInt ≤ u0) ∧ (l1 ≤ x1.toInt ∧ x1.toInt ≤ u1) ∧ (l2 ≤ x2.toInt ∧ x2.toInt ≤ u2) ∧ (l3 ≤ x3.toInt ∧ x3.toInt ≤ u3) ∧ (l4 ≤ x4.toInt ∧ x4.toInt ≤ u4) ∧ (l5 ≤ x5.toInt ∧ x5.toInt ≤ u5) ∧ (l6 ≤ x6.toInt ∧ x6.toInt ≤ u6) ∧ (l7 ≤ x7.toInt ∧ x7.toInt ≤ u7) ∧ (l8 ≤ x8.toInt ∧ x8.toInt ≤ u8) ∧ (l9 ≤ x9.toInt ∧ x9.toInt ≤ u9) := ⟨h0, h1, h2, h3, h4, h5, h6, h7, h8, h9⟩
theorem oa11 {x0 : Int32} {l0 u0 : Int} {x1 : Int32} {l1 u1 : Int} {x2 : Int32} {l2 u2 : Int} {x3 : Int32} {l3 u3 : Int} {x4 : Int32} {l4 u4 : Int} {x5 : Int32} {l5 u5 : Int} {x6 : Int32} {l6 u6 : Int} {x7 : Int32} {l7 u7 : Int} {x8 : Int32} {l8 u8 : Int} {x9 : Int32} {l9 u9 : Int} {x10 : Int32} {l10 u10 : Int} (h0 : In x0 l0 u0) (h1 : In x1 l1 u1) (h2 : In x2 l2 u2) (h3 : In x3 l3 u3) (h4 : In x4 l4 u4) (h5 : In x5 l5 u5) (h6 : In x6 l6 u6) (h7 : In x7 l7 u7) (h8 : In x8 l8 u8) (h9 : In x9 l9 u9) (h10 : In x10 l10 u10) : (l0 ≤ x0.toInt ∧ x0.toInt ≤ u0) ∧ (l1 ≤ x1.toInt ∧ x1.toInt ≤ u1) ∧ (l2 ≤ x2.toInt ∧ x2.toInt ≤ u2) ∧ (l3 ≤ x3.toInt ∧ x3.toInt ≤ u3) ∧ (l4 ≤ x4.toInt ∧ x4.toInt ≤ u4) ∧ (l5 ≤ x5.toInt ∧ x5.toInt ≤ u5) ∧ (l6 ≤ x6.toInt ∧ x6.toInt ≤ u6) ∧ (l7 ≤ x7.toInt ∧ x7.toInt ≤ u7) ∧ (l8 ≤ x8.toInt ∧ x8.toInt ≤ u8) ∧ (l9 ≤ x9.toInt ∧ x9.toInt ≤ u9) ∧ (l10 ≤ x10.toInt ∧ x10.toInt ≤ u10) := ⟨h0, h1, h2, h3, h4, h5, h6, h7, h8, h9, h10⟩
theorem oa12 {x0 : Int32} {l0 u0 : Int} {x1 : Int32} {l1 u1 : Int} {x2 : Int32} {l2 u2 : Int} {x3 : Int32} {l3 u3 : Int} {x4 : Int32} {l4 u4 : Int} {x5 : Int32} {l5 u5 : Int} {x6 : Int32} {l6 u6 : Int} {x7 : Int32} {l7 u7 : Int} {x8 : Int32} {l8 u8 : Int} {x9 : Int32} {l9 u9 : Int} {x10 : Int32} {l10 u10 : Int} {x11 : Int32} {l11 u11 : Int} (h0 : In x0 l0 u0) (h1 : In x1 l1 u1) (h2 : In x2 l2 u2) (h3 : In x3 l3 u3) (h4 : In x4 l4 u4) (h5 : In x5 l5 u5) (h6 : In x6 l6 u6) (h7 : In x7 l7 u7) (h8 : In x8 l8 u8) (h9 : In x9 l9 u9) (h10 : In x10 l10 u10) (h11 : In x11 l11 u11) : (l0 ≤ x0.toInt ∧ x0.toInt ≤ u0) ∧ (l1 ≤ x1.toInt ∧ x1.toInt ≤ u1) ∧ (l2 ≤ x2.toInt ∧ x2.toInt ≤ u2) ∧ (l3 ≤ x3.toInt ∧ x3.toInt ≤ u3) ∧ (l4 ≤ x4.toInt ∧ x4.toInt ≤ u4) ∧ (l5 ≤ x5.toInt ∧ x5.toInt ≤ u5) ∧ (l6 ≤ x6.toInt ∧ x6.toInt ≤ u6) ∧ (l7 ≤ x7.toInt ∧ x7.toInt ≤ u7) ∧ (l8 ≤ x8.toInt ∧ x8.toInt ≤ u8) ∧ (l9 ≤ x9.toInt ∧ x9.toInt ≤ u9) ∧ (l10 ≤ x10.toInt ∧ x10.toInt ≤ u10) ∧ (l11 ≤ x11.toInt ∧ x11.toInt ≤ u11) := ⟨h0, h1, h2, h3, h4, h5, h6, h7, h8, h9, h10, h11⟩
theorem oa13 {x0 : Int32} {l0 u0 : Int} {x1 : Int32} {l1 u1 : Int} {x2 : Int32} {l2 u2 : Int} {x3 : Int32} {l3 u3 : Int} {x4 : Int32} {l4 u4 : Int} {x5 : Int32} {l5 u5 : Int} {x6 : Int32} {l6 u6 : Int} {x7 : Int32} {l7 u7 : Int} {x8 : Int32} {l8 u8 : Int} {x9 : Int32} {l9 u9 : Int} {x10 : Int32} {l10 u10 : Int} {x11 : Int32} {l11 u11 : Int} {x12 : Int32} {l12 u12 : Int} (h0 : In x0 l0 u0) (h1 : In x1 l1 u1) (h2 : In x2 l2 u2) (h3 : In x3 l3 u3) (h4 : In x4 l4 u4) (h5 : In x5 l5 u5) (h6 : In x6 l6 u6) (h7 : In x7 l7 u7) (h8 : In x8 l8 u8) (h9 : In x9 l9 u9) (h10 : In x10 l10 u10) (h11 : In x11 l11 u11) (h12 : In x12 l12 u12) : (l0 ≤ x0.toInt ∧ x0.toInt ≤ u0) ∧ (l1 ≤ x1.toInt ∧ x1.toInt ≤ u1) ∧ (l2 ≤ x2.toInt ∧ x2.toInt ≤ u2) ∧ (l3 ≤ x3.toInt ∧ x3.toInt ≤ u3) ∧ (l4 ≤ x4.toInt ∧ x4.toInt ≤ u4) ∧ (l5 ≤ x5.toInt ∧ x5.toInt ≤ u5) ∧ (l6 ≤ x6.toInt ∧ x6.toInt ≤ u6) ∧ (l7 ≤ x7.toInt ∧ x7.toInt ≤ u7) ∧ (l8 ≤ x8.toInt ∧ x8.toInt ≤ u8) ∧ (l9 ≤ x9.toInt ∧ x9.toInt ≤ u9) ∧ (l10 ≤ x10.toInt ∧ x10.toInt ≤ u10) ∧ (l11 ≤ x11.toInt ∧ x11.toInt ≤ u11) ∧ (l12 ≤ x12.toInt ∧ x12.toInt ≤ u12) := ⟨h0, h1, h2, h3, h4, h5, h6, h7, h8, h9, h10, h11, h12⟩
theorem oa14 {x0 : Int32} {l0 u0 : Int} {x1 : Int32} {l1 u1 : Int} {x2 : Int32} {l2 u2 : Int} {x3 : Int32} {l3 u3 : Int} {x4 : Int32} {l4 u4 : Int} {x5 : Int32} {l5 u5 : Int} {x6 : Int32} {l6 u6 : Int} {x7 : Int32} {l7 u7 : Int} {x8 : Int32} {l8 u8 : Int} {x9 : Int32} {l9 u9 : Int} {x10 : Int32} {l10 u10 : Int} {x11 : Int32} {l11 u11 : Int} {x12 : Int32} {l12 u12 : Int} {x13 : Int32} {l13 u13 : Int} (h0 : In x0 l0 u0) (h1 : In x1 l1 u1) (h2 : In x2 l2 u2) (h3 : In x3 l3 u3) (h4 : In x4 l4 u4) (h5 : In x5 l5 u5) (h6 : In x6 l6 u6) (h7 : In x7 l7 u7) (h8 : In x8 l8 u8) (h9 : In x9 l9 u9) (h10 : In x10 l10 u10) (h11 : In x11 l11 u11) (h12 : In x12 l12 u12) (h13 : In x13 l13 u13) : (l0 ≤ x0.toInt ∧ x0.toInt ≤ u0) ∧ (l1 ≤ x1.toInt ∧ x1.toInt ≤ u1) ∧ (l2 ≤ x2.toInt ∧ x2.toInt ≤ u2) ∧ (l3 ≤ x3.toInt ∧ x3.toInt ≤ u3) ∧ (l4 ≤ x4.toInt ∧ x4.toInt ≤ u4) ∧ (l5 ≤ x5.toInt ∧ x5.toInt ≤ u5) ∧ (l6 ≤ x6.toInt ∧ x6.toInt ≤ u6) ∧ (l7 ≤ x7.toInt ∧ x7.toInt ≤ u7) ∧ (l8 ≤ x8.toInt ∧ x8.toInt ≤ u8) ∧ (l9 ≤ x9.toInt ∧ x9.toInt ≤ u9) ∧ (l10 ≤ x10.toInt ∧ x10.toInt ≤ u10) ∧ (l11 ≤ x11.toInt ∧ x11.toInt ≤ u11) ∧ (l12 ≤ x12.toInt ∧ x12.toInt ≤ u12) ∧ (l13 ≤ x13.toInt ∧ x13.toInt ≤ u13) := ⟨h0, h1, h2, h3, h4, h5, h6, h7, h8, h9, h10, h11, h12, h13⟩
theorem oa15 {x0 : Int32} {l0 u0 : Int} {x1 : Int32} {l1 u1 : Int} {x2 : Int32} {l2 u2 : Int} {x3 : Int32} {l3 u3 : Int} {x4 : Int32} {l4 u4 : Int} {x5 : Int32} {l5 u5 : Int} {x6 : Int32} {l6 u6 : Int} {x7 : Int32} {l7 u7 : Int} {x8 : Int32} {l8 u8 : Int} {x9 : Int32} {l9 u9 : Int} {x10 : Int32} {l10 u10 : Int} {x11 : Int32} {l11 u11 : Int} {x12 : Int32} {l12 u12 : Int} {x13 : Int32} {l13 u13 : Int} {x14 : Int32} {l14 u14 : Int} (h0 : In x0 l0 u0) (h1 : In x1 l1 u1) (h2 : In x2 l2 u2) (h3 : In x3 l3 u3) (h4 : In x4 l4 u4) (h5 : In x5 l5 u5) (h6 : In x6 l6 u6) (h7 : In x7 l7 u7) (h8 : In x8 l8 u8) (h9 : In x9 l9 u9) (h10 : In x10 l10 u10) (h11 : In x11 l11 u11) (h12 : In x12 l12 u12) (h13 : In x13 l13 u13) (h14 : In x14 l14 u14) : (l0 ≤ x0.toInt ∧ x0.toInt ≤ u0) ∧ (l1 ≤ x1.toInt ∧ x1.toInt ≤ u1) ∧ (l2 ≤ x2.toInt ∧ x2.toInt ≤ u2) ∧ (l3 ≤ x3.toInt ∧ x3.toInt ≤ u3) ∧ (l4 ≤ x4.toInt ∧ x4.toInt ≤ u4) ∧ (l5 ≤ x5.toInt ∧ x5.toInt ≤ u5) ∧ (l6 ≤ x6.toInt ∧ x6.toInt ≤ u6) ∧ (l7 ≤ x7.toInt ∧ x7.toInt ≤ u7) ∧ (l8 ≤ x8.toInt ∧ x8.toInt ≤ u8) ∧ (l9 ≤ x9.toInt ∧ x9.toInt ≤ u9) ∧ (l10 ≤ x10.toInt ∧ x10.toInt ≤ u10) ∧ (l11 ≤ x11.toInt ∧ x11.toInt ≤ u11) ∧ (l12 ≤ x12.toInt ∧ x12.toInt ≤ u12) ∧ (l13 ≤ x13.toInt ∧ x13.toInt ≤ u13) ∧ (l14 ≤ x14.toInt ∧ x14.toInt ≤ u14) := ⟨h0, h1, h2, h3, h4, h5, h6, h7, h8, h9, h10, h11, h12, h13, h14⟩
/-! methods, by vc.py -/
def fm_335 : FM := ([138], [], [], [])
/-- GraphHouseModel.findBeside -/
theorem k_335 {Z : AmZ} {A : Nat → Nat} {s : GS} {ex : va_W} {d : Nat} {X : AmX}  (hd : 3 ≤ d) (hI : Inv s)  : GC Z d 335 [.ref (A 109)] (WW Z A s ++ ex) 0 0 (fun v u => ∃ t : GS, Inv t ∧ Fr fm_335 s t ∧ v = none ∧ u = WW Z A t ++ ex ∧ (BSD t)) X := by
  intro post xp hP hX
  obtain ⟨u_109_19, e_109_19⟩ : ∃ w, w = s.2.2.1 109 19 := ⟨_, rfl⟩
  have ro_109_19 := inv_F hI 0 160 rfl e_109_19
  obtain ⟨u_109_20, e_109_20⟩ : ∃ w, w = s.2.2.1 109 20 := ⟨_, rfl⟩
  have ro_109_20 := inv_F hI 0 32 rfl e_109_20
  have ct25 : ∀ (k25 : Nat) (sc25 : GS) (y25_1 : Int32), Inv sc25 → Fr fm_335 s sc25 → (In y25_1 0 160) → (BSF (sc25.1 138) u_109_20.toInt) → 160 - (y25_1).toInt < (k25 : Int) → GG Z (d - 1) 335 post (gx xp) (1 + k25 * 900) 25 (fun j => xlook j [(0, .ref (A 109)), (1, .int y25_1)]) [] (WW Z A sc25 ++ ex) 0 0 := by
    intro k25
    induction k25 with
    | zero => intro sc25 y25_1 hIc25 hFc25 j25_1 g25_0 mm25; exact m_no mm25 j25_1 rfl
    | succ k25 ih25 =>
      intro sc25 y25_1 hIc25 hFc25 j25_1 g25_0 mm25
      refine gg_w (M := 1 + k25 * 900 + 900) gws ?_
      refine g_iload_n 26 (gd rfl) rfl rfl ?_
      refine g_sipush 160 29 (gd rfl) rfl rfl ?_
      refine g_cmp_ge 32 110 (gd rfl) rfl rfl (fun c29 => ?_) (fun c29 => ?_)
      · skip
        have i29 := r_le2 160 160 c29 (in_c 160 rfl) j25_1 rfl
        have n110 : BSD sc25 := by have h := g25_0; unfold BSD; rw [hFc25.2.2.1 109 20 rfl, ← e_109_20]; exact h
        exact g_return (gd rfl) rfl (hP _ _ ⟨sc25, hIc25, hFc25, rfl, rfl, n110⟩)
      · skip
        have i29 := r_lt1 0 159 c29 j25_1 (in_c 160 rfl) rfl
        refine g_aload_n 33 (gd rfl) rfl rfl ?_
        refine g_iload_n 34 (gd rfl) rfl rfl ?_
        refine g_callv (X := _) (As := [.int y25_1]) (r := []) (b := A 109) (q := 109) 37 (gd rfl) rfl rfl rfl rfl rfl (ww_o rfl) (Nat.le_of_ble_eq_true rfl) (mc := 0) (ms := 0) (Nat.zero_le _) (Nat.zero_le _) (P := fun v u => _) ?_ (fun e u h => h) (fun v u h => h)
        intro po34 xx34 hp34 hx34
        refine g_enter2 (k := 288) (N := 300) (by first | exact dq1 hd rfl | exact dq0 hd rfl | exact dq2 hd rfl | exact dq3 hd rfl | omega) rfl (Nat.le_of_ble_eq_true rfl) ?_
        refine g_aload_n 1 (gd rfl) rfl rfl ?_
        refine g_getA (q2 := 112) 4 (gd rfl) rfl rfl rfl rfl ?_
        refine g_aload_n 5 (gd rfl) rfl rfl ?_
        refine g_getI 8 (gd rfl) rfl rfl rfl (fun z34x5 e34x5 => ?_)
        have q34x5 : u_109_19 = z34x5 := (fr_F e_109_19 hFc25 rfl).trans e34x5.symm
        subst q34x5
        refine g_iload_n 9 (gd rfl) rfl rfl ?_
        refine g_iadd 10 (gd rfl) rfl (fun z34x9 e34x9 => ?_)
        have i34x9 := in_add 0 319 e34x9 ro_109_19 i29 rfl rfl
        refine g_baload 11 (gd rfl) rfl (n := 480) rfl (in_ix i34x9 rfl) (fun z34x10 e34x10 => ?_)
        have i34x10 := inv_I hIc25 (n := 480) (t := 3) 0 1 rfl (in_ix i34x9 rfl) rfl e34x10
        refine g_if_eq 14 43 (gd rfl) rfl rfl (fun c34x11 => ?_) (fun c34x11 => ?_)
        · skip
          have i34x11 := z_eq 0 0 c34x11 i34x10 rfl
          refine g_iconst 0 44 (gd rfl) rfl rfl ?_
          refine g_ireturn (gd rfl) rfl (nb01 (in_w 0 1 (in_c 0 rfl) rfl)) (hp34 _ _ ?_)
          show GG _ _ _ _ _ _ _ _ [.int (Int32.ofInt 0)] _ _ _
          refine g_if_eq 40 104 (gd rfl) rfl rfl (fun c37 => ?_) (fun c37 => ?_)
          · skip
            refine g_iinc 107 (gd rfl) rfl rfl (Nat.le_of_ble_eq_true rfl) (fun z104 e104 => ?_)
            have i104 := in_add 1 160 e104 i29 (in_c 1 rfl) rfl rfl
            refine g_goto 25 (gd rfl) rfl ?_
            have n25 : BSF (sc25.1 138) u_109_20.toInt := by exact g25_0
            exact gg_w (by first | exact Nat.le_add_right _ _ | exact gw2 | exact gw3 | exact gwe rfl | exact gwf rfl | exact gwg rfl | exact gwh rfl | omega) (gg_f (gf_cons rfl (gf_cons rfl gf_nil)) (ih25 sc25 z104 hIc25 hFc25 (in_w 0 160 i104 rfl) n25 (m_up mm25 (t_add e104 i29 (in_c 1 rfl) rfl) (in_w 1 1 (in_c 1 rfl) rfl))))
          · skip
            exact zn_ne c37 (in_c 0 rfl) rfl
        · skip
          have i34x11 := z_ne 1 1 c34x11 i34x10 rfl
          refine g_aload_n 15 (gd rfl) rfl rfl ?_
          refine g_getA (q2 := 113) 18 (gd rfl) rfl rfl rfl rfl ?_
          refine g_aload_n 19 (gd rfl) rfl rfl ?_
          refine g_getI 22 (gd rfl) rfl rfl rfl (fun z34x19 e34x19 => ?_)
          have q34x19 : u_109_19 = z34x19 := (fr_F e_109_19 hFc25 rfl).trans e34x19.symm
          subst q34x19
          refine g_iload_n 23 (gd rfl) rfl rfl ?_
          refine g_iadd 24 (gd rfl) rfl (fun z34x23 e34x23 => ?_)
          have i34x23 := in_add 0 319 e34x23 ro_109_19 i29 rfl rfl
          refine g_iaload 25 (gd rfl) rfl (n := 480) rfl (in_ix i34x23 rfl) (fun z34x24 e34x24 => ?_)
          have i34x24 := inv_I hIc25 (n := 480) (t := 0) 0 31 rfl (in_ix i34x23 rfl) rfl e34x24
          refine g_aload_n 26 (gd rfl) rfl rfl ?_
          refine g_getA (q2 := 114) 29 (gd rfl) rfl rfl rfl rfl ?_
          refine g_aload_n 30 (gd rfl) rfl rfl ?_
          refine g_getI 33 (gd rfl) rfl rfl rfl (fun z34x30 e34x30 => ?_)
          have q34x30 : u_109_19 = z34x30 := (fr_F e_109_19 hFc25 rfl).trans e34x30.symm
          subst q34x30
          refine g_iload_n 34 (gd rfl) rfl rfl ?_
          refine g_iadd 35 (gd rfl) rfl (fun z34x34 e34x34 => ?_)
          have i34x34 := in_add 0 319 e34x34 ro_109_19 i29 rfl rfl
          refine g_iaload 36 (gd rfl) rfl (n := 480) rfl (in_ix i34x34 rfl) (fun z34x35 e34x35 => ?_)
          have i34x35 := inv_I hIc25 (n := 480) (t := 0) 0 31 rfl (in_ix i34x34 rfl) rfl e34x35
          refine g_cmp_eq 39 43 (gd rfl) rfl rfl (fun c34x36 => ?_) (fun c34x36 => ?_)
          · skip
            refine g_iconst 0 44 (gd rfl) rfl rfl ?_
            refine g_ireturn (gd rfl) rfl (nb01 (in_w 0 1 (in_c 0 rfl) rfl)) (hp34 _ _ ?_)
            show GG _ _ _ _ _ _ _ _ [.int (Int32.ofInt 0)] _ _ _
            refine g_if_eq 40 104 (gd rfl) rfl rfl (fun c37 => ?_) (fun c37 => ?_)
            · skip
              refine g_iinc 107 (gd rfl) rfl rfl (Nat.le_of_ble_eq_true rfl) (fun z104 e104 => ?_)
              have i104 := in_add 1 160 e104 i29 (in_c 1 rfl) rfl rfl
              refine g_goto 25 (gd rfl) rfl ?_
              have n25 : BSF (sc25.1 138) u_109_20.toInt := by exact g25_0
              exact gg_w (by first | exact Nat.le_add_right _ _ | exact gw2 | exact gw3 | exact gwe rfl | exact gwf rfl | exact gwg rfl | exact gwh rfl | omega) (gg_f (gf_cons rfl (gf_cons rfl gf_nil)) (ih25 sc25 z104 hIc25 hFc25 (in_w 0 160 i104 rfl) n25 (m_up mm25 (t_add e104 i29 (in_c 1 rfl) rfl) (in_w 1 1 (in_c 1 rfl) rfl))))
            · skip
              exact zn_ne c37 (in_c 0 rfl) rfl
          · skip
            refine g_iconst 1 40 (gd rfl) rfl rfl ?_
            refine g_goto 44 (gd rfl) rfl ?_
            refine g_ireturn (gd rfl) rfl (nb01 (in_w 0 1 (in_c 1 rfl) rfl)) (hp34 _ _ ?_)
            show GG _ _ _ _ _ _ _ _ [.int (Int32.ofInt 1)] _ _ _
            refine g_if_eq 40 104 (gd rfl) rfl rfl (fun c37 => ?_) (fun c37 => ?_)
            · skip
              exact zn_eq c37 (in_c 1 rfl) rfl
            · skip
              refine g_aload_n 41 (gd rfl) rfl rfl ?_
              have hk := ke_n hIc25 (i := z34x9.toNatClampNeg) (by rw [← (show u_109_19 = sc25.2.2.1 109 19 from fr_F e_109_19 hFc25 rfl)]; show _ ≤ ((z34x9.toInt.toNat : Nat) : Int); (first | have a0 := oa4 ro_109_20 ro_109_19 i29 i34x34 | ((first | have a0 := in_u ro_109_20 | (have a0 := ro_109_20; unfold In at a0)); (first | have a1 := in_u ro_109_19 | (have a1 := ro_109_19; unfold In at a1)); (first | have a2 := in_u i29 | (have a2 := i29; unfold In at a2)); (first | have a3 := in_u i34x34 | (have a3 := i34x34; unfold In at a3)))); have a4 := t_add e34x34 ro_109_19 i29 rfl; (first | have a5 := in_u i34x23 | (have a5 := i34x23; unfold In at a5)); have a6 := t_add e34x23 ro_109_19 i29 rfl; (first | have a7 := in_u i34x9 | (have a7 := i34x9; unfold In at a7)); have a8 := t_add e34x9 ro_109_19 i29 rfl; omega) (by rw [← (show u_109_19 = sc25.2.2.1 109 19 from fr_F e_109_19 hFc25 rfl)]; show ((z34x9.toInt.toNat : Nat) : Int) < _; (first | have a0 := oa4 ro_109_20 ro_109_19 i29 i34x34 | ((first | have a0 := in_u ro_109_20 | (have a0 := ro_109_20; unfold In at a0)); (first | have a1 := in_u ro_109_19 | (have a1 := ro_109_19; unfold In at a1)); (first | have a2 := in_u i29 | (have a2 := i29; unfold In at a2)); (first | have a3 := in_u i34x34 | (have a3 := i34x34; unfold In at a3)))); have a4 := t_add e34x34 ro_109_19 i29 rfl; (first | have a5 := in_u i34x23 | (have a5 := i34x23; unfold In at a5)); have a6 := t_add e34x23 ro_109_19 i29 rfl; (first | have a7 := in_u i34x9 | (have a7 := i34x9; unfold In at a7)); have a8 := t_add e34x9 ro_109_19 i29 rfl; omega) (by rw [← e34x10]; exact c34x11); rw [hFc25.2.2.1 109 20 rfl, ← e_109_20] at hk
              refine g_getA (q2 := 138) 44 (gd rfl) rfl rfl rfl rfl ?_
              refine g_aload_n 45 (gd rfl) rfl rfl ?_
              refine g_getA (q2 := 113) 48 (gd rfl) rfl rfl rfl rfl ?_
              refine g_aload_n 49 (gd rfl) rfl rfl ?_
              refine g_getI 52 (gd rfl) rfl rfl rfl (fun z49 e49 => ?_)
              have q49 : u_109_19 = z49 := (fr_F e_109_19 hFc25 rfl).trans e49.symm
              subst q49
              refine g_iload_n 53 (gd rfl) rfl rfl ?_
              refine g_iadd 54 (gd rfl) rfl (fun z53 e53 => ?_)
              have i53 := in_add 0 319 e53 ro_109_19 i29 rfl rfl
              refine g_iaload 55 (gd rfl) rfl (n := 480) rfl (in_ix i53 rfl) (fun z54 e54 => ?_)
              have i54 := inv_I hIc25 (n := 480) (t := 0) 0 31 rfl (in_ix i53 rfl) rfl e54
              refine g_dup2 56 (gd rfl) rfl rfl rfl ?_
              refine g_iaload 57 (gd rfl) rfl (n := 32) rfl (in_ix i54 rfl) (fun z56 e56 => ?_)
              refine g_iconst 1 58 (gd rfl) rfl rfl ?_
              refine g_aload_n 59 (gd rfl) rfl rfl ?_
              refine g_getA (q2 := 114) 62 (gd rfl) rfl rfl rfl rfl ?_
              refine g_aload_n 63 (gd rfl) rfl rfl ?_
              refine g_getI 66 (gd rfl) rfl rfl rfl (fun z63 e63 => ?_)
              have q63 : u_109_19 = z63 := (fr_F e_109_19 hFc25 rfl).trans e63.symm
              subst q63
              refine g_iload_n 67 (gd rfl) rfl rfl ?_
              refine g_iadd 68 (gd rfl) rfl (fun z67 e67 => ?_)
              have i67 := in_add 0 319 e67 ro_109_19 i29 rfl rfl
              refine g_iaload 69 (gd rfl) rfl (n := 480) rfl (in_ix i67 rfl) (fun z68 e68 => ?_)
              have i68 := inv_I hIc25 (n := 480) (t := 0) 0 31 rfl (in_ix i67 rfl) rfl e68
              refine g_ishl 70 (gd rfl) rfl (fun z69 e69 => ?_)
              refine g_ior 71 (gd rfl) rfl (fun z70 e70 => ?_)
              refine g_iastore 72 (gd rfl) rfl (n := 32) rfl (in_ix i54 rfl) ?_
              have hI71 := inv_sI (q := 138) (j := z54.toNatClampNeg) hIc25 rfl (in_w (-2147483648) 2147483647 (i_rng z70) rfl)
              refine g_aload_n 73 (gd rfl) rfl rfl ?_
              refine g_getA (q2 := 138) 76 (gd rfl) rfl rfl rfl rfl ?_
              refine g_aload_n 77 (gd rfl) rfl rfl ?_
              refine g_getA (q2 := 114) 80 (gd rfl) rfl rfl rfl rfl ?_
              refine g_aload_n 81 (gd rfl) rfl rfl ?_
              refine g_getI 84 (gd rfl) rfl rfl rfl (fun z81 e81 => ?_)
              have q81 : u_109_19 = z81 := (sI_F (fr_F e_109_19 hFc25 rfl)).trans e81.symm
              subst q81
              refine g_iload_n 85 (gd rfl) rfl rfl ?_
              refine g_iadd 86 (gd rfl) rfl (fun z85 e85 => ?_)
              have i85 := in_add 0 319 e85 ro_109_19 i29 rfl rfl
              refine g_iaload 87 (gd rfl) rfl (n := 480) rfl (in_ix i85 rfl) (fun z86 e86 => ?_)
              have i86 := inv_I hI71 (n := 480) (t := 0) 0 31 rfl (in_ix i85 rfl) rfl e86
              refine g_dup2 88 (gd rfl) rfl rfl rfl ?_
              refine g_iaload 89 (gd rfl) rfl (n := 32) rfl (in_ix i86 rfl) (fun z88 e88 => ?_)
              refine g_iconst 1 90 (gd rfl) rfl rfl ?_
              refine g_aload_n 91 (gd rfl) rfl rfl ?_
              refine g_getA (q2 := 113) 94 (gd rfl) rfl rfl rfl rfl ?_
              refine g_aload_n 95 (gd rfl) rfl rfl ?_
              refine g_getI 98 (gd rfl) rfl rfl rfl (fun z95 e95 => ?_)
              have q95 : u_109_19 = z95 := (sI_F (fr_F e_109_19 hFc25 rfl)).trans e95.symm
              subst q95
              refine g_iload_n 99 (gd rfl) rfl rfl ?_
              refine g_iadd 100 (gd rfl) rfl (fun z99 e99 => ?_)
              have i99 := in_add 0 319 e99 ro_109_19 i29 rfl rfl
              refine g_iaload 101 (gd rfl) rfl (n := 480) rfl (in_ix i99 rfl) (fun z100 e100 => ?_)
              have i100 := inv_I hI71 (n := 480) (t := 0) 0 31 rfl (in_ix i99 rfl) rfl e100
              refine g_ishl 102 (gd rfl) rfl (fun z101 e101 => ?_)
              refine g_ior 103 (gd rfl) rfl (fun z102 e102 => ?_)
              refine g_iastore 104 (gd rfl) rfl (n := 32) rfl (in_ix i86 rfl) ?_
              have hI103 := inv_sI (q := 138) (j := z86.toNatClampNeg) hI71 rfl (in_w (-2147483648) 2147483647 (i_rng z102) rfl)
              refine g_iinc 107 (gd rfl) rfl rfl (Nat.le_of_ble_eq_true rfl) (fun z104 e104 => ?_)
              have i104 := in_add 1 160 e104 i29 (in_c 1 rfl) rfl rfl
              refine g_goto 25 (gd rfl) rfl ?_
              have n25 : BSF ((sI (sI sc25 138 z54.toNatClampNeg z70) 138 z86.toNatClampNeg z102).1 138) u_109_20.toInt := by (have q86 : z86 = z68 := (by rw [e86, sI_p rfl, e85.trans e67.symm]; exact e68.symm); have q100 : z100 = z54 := (by rw [e100, sI_p rfl, e99.trans e53.symm]; exact e54.symm); subst q86; subst q100; rw [sI_q, sI_q]; exact bsf_s g25_0 i54 i68 (by rw [e54, e53.trans e34x9.symm]; exact hk.1) (by rw [e68, e67.trans e34x9.symm]; exact hk.2) (by rw [e54, e68, e53.trans e34x23.symm, e67.trans e34x34.symm, ← e34x24, ← e34x35]; exact c34x36) e56 e69 e70 (by rw [e88, sI_q]) e101 e102)
              exact gg_w (by first | exact Nat.le_add_right _ _ | exact gw2 | exact gw3 | exact gwe rfl | exact gwf rfl | exact gwg rfl | exact gwh rfl | omega) (gg_f (gf_cons rfl (gf_cons rfl gf_nil)) (ih25 (sI (sI sc25 138 z54.toNatClampNeg z70) 138 z86.toNatClampNeg z102) z104 hI103 (fr_sI rfl (fr_sI rfl hFc25)) (in_w 0 160 i104 rfl) n25 (m_up mm25 (t_add e104 i29 (in_c 1 rfl) rfl) (in_w 1 1 (in_c 1 rfl) rfl))))
  have ct2 : ∀ (k2 : Nat) (sc2 : GS) (y2_1 : Int32), Inv sc2 → Fr fm_335 s sc2 → (In y2_1 0 32) → (∀ k : Nat, (k : Int) < (y2_1).toInt → sc2.1 138 k = Int32.ofInt 0) → 32 - (y2_1).toInt < (k2 : Int) → GG Z (d - 1) 335 post (gx xp) (144902 + k2 * 900) 2 (fun j => xlook j [(0, .ref (A 109)), (1, .int y2_1)]) [] (WW Z A sc2 ++ ex) 0 0 := by
    intro k2
    induction k2 with
    | zero => intro sc2 y2_1 hIc2 hFc2 j2_1 g2_0 mm2; exact m_no mm2 j2_1 rfl
    | succ k2 ih2 =>
      intro sc2 y2_1 hIc2 hFc2 j2_1 g2_0 mm2
      refine gg_w (M := 144902 + k2 * 900 + 900) gws ?_
      refine g_iload_n 3 (gd rfl) rfl rfl ?_
      refine g_aload_n 4 (gd rfl) rfl rfl ?_
      refine g_getI 7 (gd rfl) rfl rfl rfl (fun z4 e4 => ?_)
      have q4 : u_109_20 = z4 := (fr_F e_109_20 hFc2 rfl).trans e4.symm
      subst q4
      refine g_cmp_ge 10 23 (gd rfl) rfl rfl (fun c7 => ?_) (fun c7 => ?_)
      · skip
        refine g_iconst 0 24 (gd rfl) rfl rfl ?_
        refine g_istore_n 25 (gd rfl) rfl (Nat.le_of_ble_eq_true rfl) ?_
        have n25 : BSF (sc2.1 138) u_109_20.toInt := by (intro a b ha hb; exfalso; rw [g2_0 a (by (first | have a0 := oa4 ro_109_20 ro_109_19 j2_1 ((in_c 0 rfl)) | ((first | have a0 := in_u ro_109_20 | (have a0 := ro_109_20; unfold In at a0)); (first | have a1 := in_u ro_109_19 | (have a1 := ro_109_19; unfold In at a1)); (first | have a2 := in_u j2_1 | (have a2 := j2_1; unfold In at a2)); (first | have a3 := in_u ((in_c 0 rfl)) | (have a3 := (in_c 0 rfl); unfold In at a3)))); omega), show (Int32.ofInt 0) = (0 : Int32) from rfl, bt_z] at hb; cases hb)
        exact gg_w (by first | exact Nat.le_add_right _ _ | exact gw2 | exact gw3 | exact gwe rfl | exact gwf rfl | exact gwg rfl | exact gwh rfl | omega) (gg_f (gf_cons rfl (gf_cons rfl gf_nil)) (ct25 161 sc2 (Int32.ofInt 0) hIc2 hFc2 (in_w 0 160 (in_c 0 rfl) rfl) n25 (m_in 161 (in_w 0 160 (in_c 0 rfl) rfl) rfl)))
      · skip
        have i7 := r_lt1 0 31 c7 j2_1 ro_109_20 rfl
        have i7a := r_lt2 1 32 c7 j2_1 ro_109_20 rfl
        refine g_aload_n 11 (gd rfl) rfl rfl ?_
        refine g_getA (q2 := 138) 14 (gd rfl) rfl rfl rfl rfl ?_
        refine g_iload_n 15 (gd rfl) rfl rfl ?_
        refine g_iconst 0 16 (gd rfl) rfl rfl ?_
        refine g_iastore 17 (gd rfl) rfl (n := 32) rfl (in_ix i7 rfl) ?_
        have hI16 := inv_sI (q := 138) (j := y2_1.toNatClampNeg) hIc2 rfl (in_w (-2147483648) 2147483647 (in_c 0 rfl) rfl)
        refine g_iinc 20 (gd rfl) rfl rfl (Nat.le_of_ble_eq_true rfl) (fun z17 e17 => ?_)
        have i17 := in_add 1 32 e17 i7 (in_c 1 rfl) rfl rfl
        refine g_goto 2 (gd rfl) rfl ?_
        have n2 : ∀ k : Nat, (k : Int) < (z17).toInt → (sI sc2 138 y2_1.toNatClampNeg (Int32.ofInt 0)).1 138 k = Int32.ofInt 0 := by (intro k hk; rw [sI_q]; have e1 : y2_1.toNatClampNeg = y2_1.toInt.toNat := rfl; by_cases c : k = y2_1.toNatClampNeg; (rw [c, up_e]); (rw [up_n c]; exact g2_0 k (by (first | have a0 := oa4 i7a ro_109_19 i7 i17 | ((first | have a0 := in_u i7a | (have a0 := i7a; unfold In at a0)); (first | have a1 := in_u ro_109_19 | (have a1 := ro_109_19; unfold In at a1)); (first | have a2 := in_u i7 | (have a2 := i7; unfold In at a2)); (first | have a3 := in_u i17 | (have a3 := i17; unfold In at a3)))); have a4 := t_add e17 i7 (in_c 1 rfl) rfl; (first | have a5 := in_u ((in_c 1 rfl)) | (have a5 := (in_c 1 rfl); unfold In at a5)); omega)))
        exact gg_w (by first | exact Nat.le_add_right _ _ | exact gw2 | exact gw3 | exact gwe rfl | exact gwf rfl | exact gwg rfl | exact gwh rfl | omega) (gg_f (gf_cons rfl (gf_cons rfl gf_nil)) (ih2 (sI sc2 138 y2_1.toNatClampNeg (Int32.ofInt 0)) z17 hI16 (fr_sI rfl hFc2) (in_w 0 32 i17 rfl) n2 (m_up mm2 (t_add e17 i7 (in_c 1 rfl) rfl) (in_w 1 1 (in_c 1 rfl) rfl))))
  refine g_enter2 (k := 335) (N := 175502) (by first | exact dq1 hd rfl | exact dq0 hd rfl | exact dq2 hd rfl | exact dq3 hd rfl | omega) rfl (Nat.le_of_ble_eq_true rfl) ?_
  refine g_iconst 0 1 (gd rfl) rfl rfl ?_
  refine g_istore_n 2 (gd rfl) rfl (Nat.le_of_ble_eq_true rfl) ?_
  have n2 : ∀ k : Nat, (k : Int) < ((Int32.ofInt 0)).toInt → s.1 138 k = Int32.ofInt 0 := by (intro k hk; exfalso; have h0 : (Int32.ofInt 0).toInt = 0 := rfl; omega)
  exact gg_w (by first | exact Nat.le_of_ble_eq_true rfl | omega) (gg_f (gf_cons rfl (gf_cons rfl gf_nil)) (ct2 33 s (Int32.ofInt 0) hI fr_rf (in_w 0 32 (in_c 0 rfl) rfl) n2 (m_in 33 (in_w 0 32 (in_c 0 rfl) rfl) rfl)))

/-- GraphHouseModel.count -/
theorem k_336 {Z : AmZ} {A : Nat → Nat} {s : GS} {ex : va_W} {d : Nat} {X : AmX} {x0 : Int32} (hd : 1 ≤ d) (hI : Inv s)  : GC Z d 336 [.int x0] (WW Z A s ++ ex) 0 0 (fun v u => ∃ z : Int32, v = some (.int z) ∧ u = WW Z A s ++ ex ∧ In z 0 32 ∧ ((z).toInt = (cb (x0) : Int))) X := by
  intro post xp hP hX
  have ct4 : ∀ (k4 : Nat) (y4_1 : Int32) (y4_2 : Int32), (In y4_1 0 32) → (In y4_2 0 32) → ((y4_1).toInt ≤ (y4_2).toInt) → ((y4_1).toInt = (cbf (bt (x0)) (y4_2).toNatClampNeg : Int)) → 32 - (y4_2).toInt < (k4 : Int) → GG Z (d - 1) 336 post (gx xp) (1 + k4 * 900) 4 (fun j => xlook j [(0, .int x0), (1, .int y4_1), (2, .int y4_2)]) [] (WW Z A s ++ ex) 0 0 := by
    intro k4
    induction k4 with
    | zero => intro y4_1 y4_2 j4_1 j4_2 n4_0 g4_0 mm4; exact m_no mm4 j4_2 rfl
    | succ k4 ih4 =>
      intro y4_1 y4_2 j4_1 j4_2 n4_0 g4_0 mm4
      refine gg_w (M := 1 + k4 * 900 + 900) gws ?_
      refine g_iload_n 5 (gd rfl) rfl rfl ?_
      refine g_bipush 32 7 (gd rfl) rfl rfl ?_
      refine g_cmp_ge 10 24 (gd rfl) rfl rfl (fun c7 => ?_) (fun c7 => ?_)
      · skip
        have i7 := r_le2 32 32 c7 (in_c 32 rfl) j4_2 rfl
        refine g_iload_n 25 (gd rfl) rfl rfl ?_
        have n25 : (y4_1).toInt = (cb (x0) : Int) := by have h := g4_0; rw [show y4_2.toNatClampNeg = 32 from (by show y4_2.toInt.toNat = 32; (first | have a0 := oa2 i7 j4_1 | ((first | have a0 := in_u i7 | (have a0 := i7; unfold In at a0)); (first | have a1 := in_u j4_1 | (have a1 := j4_1; unfold In at a1)))); (first | exact zt_e (by omega) | omega))] at h; exact h
        exact g_ireturn (gd rfl) rfl rfl (hP _ _ ⟨y4_1, rfl, rfl, in_w 0 32 j4_1 rfl, n25⟩)
      · skip
        have i7 := r_lt1 0 31 c7 j4_2 (in_c 32 rfl) rfl
        refine g_iload_n 11 (gd rfl) rfl rfl ?_
        refine g_iload_n 12 (gd rfl) rfl rfl ?_
        refine g_iload_n 13 (gd rfl) rfl rfl ?_
        refine g_ishr 14 (gd rfl) rfl (fun z13 e13 => ?_)
        refine g_iconst 1 15 (gd rfl) rfl rfl ?_
        refine g_iand 16 (gd rfl) rfl (fun z15 e15 => ?_)
        have i15 := in_and2 e15 (in_c 1 rfl) rfl
        refine g_iadd 17 (gd rfl) rfl (fun z16 e16 => ?_)
        have i16 := in_add 0 33 e16 j4_1 i15 rfl rfl
        refine g_istore_n 18 (gd rfl) rfl (Nat.le_of_ble_eq_true rfl) ?_
        refine g_iinc 21 (gd rfl) rfl rfl (Nat.le_of_ble_eq_true rfl) (fun z18 e18 => ?_)
        have i18 := in_add 1 32 e18 i7 (in_c 1 rfl) rfl rfl
        refine g_goto 4 (gd rfl) rfl ?_
        have i4 : In z16 0 32 := by exact ⟨by (first | have a0 := oa3 i7 j4_1 i18 | ((first | have a0 := in_u i7 | (have a0 := i7; unfold In at a0)); (first | have a1 := in_u j4_1 | (have a1 := j4_1; unfold In at a1)); (first | have a2 := in_u i18 | (have a2 := i18; unfold In at a2)))); have a3 := t_add e18 i7 (in_c 1 rfl) rfl; (first | have a4 := oa2 ((in_c 1 rfl)) i16 | ((first | have a4 := in_u ((in_c 1 rfl)) | (have a4 := (in_c 1 rfl); unfold In at a4)); (first | have a5 := in_u i16 | (have a5 := i16; unfold In at a5)))); have a6 := t_add e16 j4_1 i15 rfl; (first | have a7 := in_u i15 | (have a7 := i15; unfold In at a7)); omega, by (first | have a0 := oa3 i7 j4_1 i18 | ((first | have a0 := in_u i7 | (have a0 := i7; unfold In at a0)); (first | have a1 := in_u j4_1 | (have a1 := j4_1; unfold In at a1)); (first | have a2 := in_u i18 | (have a2 := i18; unfold In at a2)))); have a3 := t_add e18 i7 (in_c 1 rfl) rfl; (first | have a4 := oa2 ((in_c 1 rfl)) i16 | ((first | have a4 := in_u ((in_c 1 rfl)) | (have a4 := (in_c 1 rfl); unfold In at a4)); (first | have a5 := in_u i16 | (have a5 := i16; unfold In at a5)))); have a6 := t_add e16 j4_1 i15 rfl; (first | have a7 := in_u i15 | (have a7 := i15; unfold In at a7)); omega⟩
        have n4 : (z16).toInt ≤ (z18).toInt := by (first | have a0 := oa3 i7 j4_1 i18 | ((first | have a0 := in_u i7 | (have a0 := i7; unfold In at a0)); (first | have a1 := in_u j4_1 | (have a1 := j4_1; unfold In at a1)); (first | have a2 := in_u i18 | (have a2 := i18; unfold In at a2)))); have a3 := t_add e18 i7 (in_c 1 rfl) rfl; (first | have a4 := oa2 ((in_c 1 rfl)) i4 | ((first | have a4 := in_u ((in_c 1 rfl)) | (have a4 := (in_c 1 rfl); unfold In at a4)); (first | have a5 := in_u i4 | (have a5 := i4; unfold In at a5)))); have a6 := t_add e16 j4_1 i15 rfl; (first | have a7 := in_u i15 | (have a7 := i15; unfold In at a7)); omega
        have n4a : (z16).toInt = (cbf (bt (x0)) (z18).toNatClampNeg : Int) := by rw [show z18.toNatClampNeg = y4_2.toNatClampNeg + 1 from (by show z18.toInt.toNat = y4_2.toInt.toNat + 1; (first | have a0 := oa3 i7 j4_1 i18 | ((first | have a0 := in_u i7 | (have a0 := i7; unfold In at a0)); (first | have a1 := in_u j4_1 | (have a1 := j4_1; unfold In at a1)); (first | have a2 := in_u i18 | (have a2 := i18; unfold In at a2)))); have a3 := t_add e18 i7 (in_c 1 rfl) rfl; (first | have a4 := oa2 ((in_c 1 rfl)) i4 | ((first | have a4 := in_u ((in_c 1 rfl)) | (have a4 := (in_c 1 rfl); unfold In at a4)); (first | have a5 := in_u i4 | (have a5 := i4; unfold In at a5)))); have a6 := t_add e16 j4_1 i15 rfl; (first | have a7 := in_u i15 | (have a7 := i15; unfold In at a7)); (first | exact zt_s (by omega) (by omega) | omega)), cbf_s, ← g4_0, show z16.toInt = y4_1.toInt + z15.toInt from (by (first | have a0 := oa3 i7 j4_1 i18 | ((first | have a0 := in_u i7 | (have a0 := i7; unfold In at a0)); (first | have a1 := in_u j4_1 | (have a1 := j4_1; unfold In at a1)); (first | have a2 := in_u i18 | (have a2 := i18; unfold In at a2)))); have a3 := t_add e18 i7 (in_c 1 rfl) rfl; (first | have a4 := oa2 ((in_c 1 rfl)) i4 | ((first | have a4 := in_u ((in_c 1 rfl)) | (have a4 := (in_c 1 rfl); unfold In at a4)); (first | have a5 := in_u i4 | (have a5 := i4; unfold In at a5)))); have a6 := t_add e16 j4_1 i15 rfl; (first | have a7 := in_u i15 | (have a7 := i15; unfold In at a7)); omega), bt_ask e13 e15 i7]
        exact gg_w (by first | exact Nat.le_add_right _ _ | exact gw2 | exact gw3 | exact gwe rfl | exact gwf rfl | exact gwg rfl | exact gwh rfl | omega) (gg_f (gf_cons rfl (gf_cons rfl (gf_cons rfl gf_nil))) (ih4  z16 z18  i4 (in_w 0 32 i18 rfl) n4 n4a (m_up mm4 (t_add e18 i7 (in_c 1 rfl) rfl) (in_w 1 1 (in_c 1 rfl) rfl))))
  refine g_enter2 (k := 336) (N := 30601) (by first | exact dq1 hd rfl | exact dq0 hd rfl | exact dq2 hd rfl | exact dq3 hd rfl | omega) rfl (Nat.le_of_ble_eq_true rfl) ?_
  refine g_iconst 0 1 (gd rfl) rfl rfl ?_
  refine g_istore_n 2 (gd rfl) rfl (Nat.le_of_ble_eq_true rfl) ?_
  refine g_iconst 0 3 (gd rfl) rfl rfl ?_
  refine g_istore_n 4 (gd rfl) rfl (Nat.le_of_ble_eq_true rfl) ?_
  have n4 : ((Int32.ofInt 0)).toInt ≤ ((Int32.ofInt 0)).toInt := by exact Int.le_refl _
  have n4a : ((Int32.ofInt 0)).toInt = (cbf (bt (x0)) ((Int32.ofInt 0)).toNatClampNeg : Int) := by rfl
  exact gg_w (by first | exact Nat.le_of_ble_eq_true rfl | omega) (gg_f (gf_cons rfl (gf_cons rfl (gf_cons rfl gf_nil))) (ct4 33  (Int32.ofInt 0) (Int32.ofInt 0)  (in_w 0 32 (in_c 0 rfl) rfl) (in_w 0 32 (in_c 0 rfl) rfl) n4 n4a (m_in 33 (in_w 0 32 (in_c 0 rfl) rfl) rfl)))

def fm_337 : FM := ([138, 139, 140], [], [], [])
/-- GraphHouseModel.findClique -/
theorem k_337 {Z : AmZ} {A : Nat → Nat} {s : GS} {ex : va_W} {d : Nat} {X : AmX}  (hd : 4 ≤ d) (hI : Inv s)  : GC Z d 337 [.ref (A 109)] (WW Z A s ++ ex) 0 0 (fun v u => ∃ t : GS, Inv t ∧ Fr fm_337 s t ∧ ∃ z : Int32, v = some (.int z) ∧ u = WW Z A t ++ ex ∧ In z (-2147483648) 2147483647 ∧ (BSD t)) X := by
  intro post xp hP hX
  obtain ⟨u_109_20, e_109_20⟩ : ∃ w, w = s.2.2.1 109 20 := ⟨_, rfl⟩
  have ro_109_20 := inv_F hI 0 32 rfl e_109_20
  have ct44 : ∀ (k44 : Nat) (sc44 : GS) (y44_1 : Int32) (y44_2 : Int32) (y44_3 : Int32), Inv sc44 → Fr fm_337 s sc44 → (In y44_2 0 32) → (In y44_3 (-1) 32) → (∀ d : Nat, (d : Int) ≤ (y44_3).toInt → cb (sc44.1 140 d) + d ≤ 32) → (BSD sc44) → sW (sc44.1 140) ((y44_3).toInt + 1).toNat < k44 → GG Z (d - 1) 337 post (gx xp) (1 + k44 * 900) 44 (fun j => xlook j [(0, .ref (A 109)), (1, .int y44_1), (2, .int y44_2), (3, .int y44_3)]) [] (WW Z A sc44 ++ ex) 0 0 := by
    intro k44
    induction k44 with
    | zero => intro sc44 y44_1 y44_2 y44_3 hIc44 hFc44 j44_2 j44_3 g44_0 g44_1 mm44; exact absurd mm44 (Nat.not_lt_zero _)
    | succ k44 ih44 =>
      intro sc44 y44_1 y44_2 y44_3 hIc44 hFc44 j44_2 j44_3 g44_0 g44_1 mm44
      refine gg_w (M := 1 + k44 * 900 + 900) gws ?_
      refine g_iload_n 45 (gd rfl) rfl rfl ?_
      refine g_if_lt 48 165 (gd rfl) rfl rfl (fun c45 => ?_) (fun c45 => ?_)
      · skip
        have i45 := z_lt (-1) (-1) c45 j44_3 rfl
        refine g_iload_n 166 (gd rfl) rfl rfl ?_
        have n166 : BSD sc44 := by exact g44_1
        exact g_ireturn (gd rfl) rfl rfl (hP _ _ ⟨sc44, hIc44, hFc44, y44_1, rfl, rfl, in_w (-2147483648) 2147483647 (i_rng y44_1) rfl, n166⟩)
      · skip
        have i45 := z_ge 0 32 c45 j44_3 rfl
        refine g_iload_n 49 (gd rfl) rfl rfl ?_
        refine g_iload_n 50 (gd rfl) rfl rfl ?_
        refine g_cmp_le 53 62 (gd rfl) rfl rfl (fun c50 => ?_) (fun c50 => ?_)
        · skip
          refine g_aload_n 63 (gd rfl) rfl rfl ?_
          refine g_getA (q2 := 140) 66 (gd rfl) rfl rfl rfl rfl ?_
          refine g_iload_n 67 (gd rfl) rfl rfl ?_
          refine g_iaload 68 (gd rfl) rfl (n := 33) rfl (in_ix i45 rfl) (fun z67 e67 => ?_)
          refine g_if_eq 71 86 (gd rfl) rfl rfl (fun c68 => ?_) (fun c68 => ?_)
          · skip
            have i68 := z_eq 0 0 c68 (i_rng z67) rfl
            refine g_iinc 89 (gd rfl) rfl rfl (Nat.le_of_ble_eq_true rfl) (fun z86 e86 => ?_)
            have i86 := in_add (-1) 31 e86 i45 (in_c (-1) rfl) rfl rfl
            refine g_goto 44 (gd rfl) rfl ?_
            have n44 : ∀ d : Nat, (d : Int) ≤ (z86).toInt → cb (sc44.1 140 d) + d ≤ 32 := by first | exact fun d hd => g44_0 d (by (first | have a0 := oa4 ro_109_20 i45 j44_2 i86 | ((first | have a0 := in_u ro_109_20 | (have a0 := ro_109_20; unfold In at a0)); (first | have a1 := in_u i45 | (have a1 := i45; unfold In at a1)); (first | have a2 := in_u j44_2 | (have a2 := j44_2; unfold In at a2)); (first | have a3 := in_u i86 | (have a3 := i86; unfold In at a3)))); have a4 := t_add e86 i45 (in_c (-1) rfl) rfl; (first | have a5 := in_u ((in_c (-1) rfl)) | (have a5 := (in_c (-1) rfl); unfold In at a5)); omega) | (have hS : (sc44).1 140 = upd (upd (sc44.1 140) y44_3.toNatClampNeg z116) z124.toNatClampNeg z138 := (by simp [sI]); rw [hS]; exact (fc_push (w := z159) i92 g44_0 e67 (t_add e124 i92 (in_c 1 rfl) rfl) (t_add e159 i92 (in_c 1 rfl) rfl) (cb_clr e113 e115 e116 i98 hb98) (cb_and_le e138)).1) | (intro d hd; have h0 : (Int32.ofInt 0).toInt = 0 := rfl; have hc := cb_le (sc44.1 140 d); omega)
            have n44a : BSD sc44 := by first | exact g44_1 | (unfold BSD; simp only [sI_p (show Nat.beq 138 139 = false from rfl), sI_p (show Nat.beq 138 140 = false from rfl)]; exact g44_1)
            have m44 : sW (sc44.1 140) ((z86).toInt + 1).toNat < k44 := by first | (have hS : (sc44).1 140 = upd (upd (sc44.1 140) y44_3.toNatClampNeg z116) z124.toNatClampNeg z138 := (by simp [sI]); rw [hS]; have h := (fc_push (w := z159) i92 g44_0 e67 (t_add e124 i92 (in_c 1 rfl) rfl) (t_add e159 i92 (in_c 1 rfl) rfl) (cb_clr e113 e115 e116 i98 hb98) (cb_and_le e138)).2; omega) | (have hp := sW_pop (sc44.1 140) ((z86).toInt + 1).toNat; have he : (y44_3.toInt + 1).toNat = ((z86).toInt + 1).toNat + 1 := (by (first | have a0 := oa4 ro_109_20 i45 j44_2 i86 | ((first | have a0 := in_u ro_109_20 | (have a0 := ro_109_20; unfold In at a0)); (first | have a1 := in_u i45 | (have a1 := i45; unfold In at a1)); (first | have a2 := in_u j44_2 | (have a2 := j44_2; unfold In at a2)); (first | have a3 := in_u i86 | (have a3 := i86; unfold In at a3)))); have a4 := t_add e86 i45 (in_c (-1) rfl) rfl; (first | have a5 := in_u ((in_c (-1) rfl)) | (have a5 := (in_c (-1) rfl); unfold In at a5)); omega); have hm := mm44; rw [he] at hm; omega)
            exact gg_w (by first | exact Nat.le_add_right _ _ | exact gw2 | exact gw3 | exact gwe rfl | exact gwf rfl | exact gwg rfl | exact gwh rfl | omega) (gg_f (gf_cons rfl (gf_cons rfl (gf_cons rfl (gf_cons rfl gf_nil)))) (ih44  sc44 y44_1 y44_2 z86 hIc44 hFc44 (in_w 0 32 j44_2 rfl) (in_w (-1) 32 i86 rfl) n44 n44a m44))
          · skip
            refine g_iload_n 72 (gd rfl) rfl rfl ?_
            refine g_aload_n 73 (gd rfl) rfl rfl ?_
            refine g_getA (q2 := 140) 76 (gd rfl) rfl rfl rfl rfl ?_
            refine g_iload_n 77 (gd rfl) rfl rfl ?_
            refine g_iaload 78 (gd rfl) rfl (n := 33) rfl (in_ix i45 rfl) (fun z77 e77 => ?_)
            have q77 : z67 = z77 := (e67).trans e77.symm
            subst q77
            refine g_calls (As := [.int z67]) (r := [.int y44_3]) 81 (gd rfl) rfl rfl rfl rfl rfl (Nat.le_of_ble_eq_true rfl) (Nat.zero_le _) (Nat.zero_le _) (k_336 (by first | exact dq1 hd rfl | exact dq0 hd rfl | exact dq2 hd rfl | exact dq3 hd rfl | omega) hIc44 ) (fun v u h => ?_)
            obtain ⟨z78, rfl, rfl, i78, p78⟩ := h
            show GG _ _ _ _ _ _ _ _ [.int z78, .int y44_3] _ _ _
            refine g_iadd 82 (gd rfl) rfl (fun z81 e81 => ?_)
            have i81 := in_add 0 64 e81 i45 i78 rfl rfl
            refine g_iload_n 83 (gd rfl) rfl rfl ?_
            refine g_cmp_gt 86 92 (gd rfl) rfl rfl (fun c83 => ?_) (fun c83 => ?_)
            · skip
              have i83 := r_lt2 1 64 c83 j44_2 i81 rfl
              have i92 : In y44_3 0 31 := by exact fc_ix (in_w 0 32 i45 rfl) g44_0 e67 c68
              refine g_aload_n 93 (gd rfl) rfl rfl ?_
              refine g_getA (q2 := 140) 96 (gd rfl) rfl rfl rfl rfl ?_
              refine g_iload_n 97 (gd rfl) rfl rfl ?_
              refine g_iaload 98 (gd rfl) rfl (n := 33) rfl (in_ix i92 rfl) (fun z97 e97 => ?_)
              have q97 : z67 = z97 := (e67).trans e97.symm
              subst q97
              refine g_calls (As := [.int z67]) (r := []) 101 (gd rfl) rfl rfl rfl rfl rfl (Nat.le_of_ble_eq_true rfl) (Nat.zero_le _) (Nat.zero_le _) (k_327n (by first | exact dq1 hd rfl | exact dq0 hd rfl | exact dq2 hd rfl | exact dq3 hd rfl | omega) c68) (fun v u h => ?_)
              obtain ⟨z98, rfl, rfl, i98, hb98⟩ := h
              show GG _ _ _ _ _ _ _ _ [.int z98] _ _ _
              refine g_istore 103 (gd rfl) rfl (Nat.le_of_ble_eq_true rfl) ?_
              refine g_aload_n 104 (gd rfl) rfl rfl ?_
              refine g_getA (q2 := 140) 107 (gd rfl) rfl rfl rfl rfl ?_
              refine g_iload_n 108 (gd rfl) rfl rfl ?_
              refine g_dup2 109 (gd rfl) rfl rfl rfl ?_
              refine g_iaload 110 (gd rfl) rfl (n := 33) rfl (in_ix i92 rfl) (fun z109 e109 => ?_)
              have q109 : z67 = z109 := (e67).trans e109.symm
              subst q109
              refine g_iconst 1 111 (gd rfl) rfl rfl ?_
              refine g_iload 113 (gd rfl) rfl rfl ?_
              refine g_ishl 114 (gd rfl) rfl (fun z113 e113 => ?_)
              refine g_iconst (-1) 115 (gd rfl) rfl rfl ?_
              refine g_ixor 116 (gd rfl) rfl (fun z115 e115 => ?_)
              refine g_iand 117 (gd rfl) rfl (fun z116 e116 => ?_)
              refine g_iastore 118 (gd rfl) rfl (n := 33) rfl (in_ix i92 rfl) ?_
              have hI117 := inv_sI (q := 140) (j := y44_3.toNatClampNeg) hIc44 rfl (in_w (-2147483648) 2147483647 (i_rng z116) rfl)
              refine g_aload_n 119 (gd rfl) rfl rfl ?_
              refine g_getA (q2 := 140) 122 (gd rfl) rfl rfl rfl rfl ?_
              refine g_iload_n 123 (gd rfl) rfl rfl ?_
              refine g_iconst 1 124 (gd rfl) rfl rfl ?_
              refine g_iadd 125 (gd rfl) rfl (fun z124 e124 => ?_)
              have i124 := in_add 1 32 e124 i92 (in_c 1 rfl) rfl rfl
              refine g_aload_n 126 (gd rfl) rfl rfl ?_
              refine g_getA (q2 := 140) 129 (gd rfl) rfl rfl rfl rfl ?_
              refine g_iload_n 130 (gd rfl) rfl rfl ?_
              refine g_iaload 131 (gd rfl) rfl (n := 33) rfl (in_ix i92 rfl) (fun z130 e130 => ?_)
              have q130 : z116 = z130 := (sI_get).trans e130.symm
              subst q130
              refine g_aload_n 132 (gd rfl) rfl rfl ?_
              refine g_getA (q2 := 138) 135 (gd rfl) rfl rfl rfl rfl ?_
              refine g_iload 137 (gd rfl) rfl rfl ?_
              refine g_iaload 138 (gd rfl) rfl (n := 32) rfl (in_ix i98 rfl) (fun z137 e137 => ?_)
              refine g_iand 139 (gd rfl) rfl (fun z138 e138 => ?_)
              refine g_iastore 140 (gd rfl) rfl (n := 33) rfl (in_ix i124 rfl) ?_
              have hI139 := inv_sI (q := 140) (j := z124.toNatClampNeg) hI117 rfl (in_w (-2147483648) 2147483647 (i_rng z138) rfl)
              refine g_aload_n 141 (gd rfl) rfl rfl ?_
              refine g_getA (q2 := 139) 144 (gd rfl) rfl rfl rfl rfl ?_
              refine g_iload_n 145 (gd rfl) rfl rfl ?_
              refine g_iconst 1 146 (gd rfl) rfl rfl ?_
              refine g_iadd 147 (gd rfl) rfl (fun z146 e146 => ?_)
              have i146 := in_add 1 32 e146 i92 (in_c 1 rfl) rfl rfl
              refine g_aload_n 148 (gd rfl) rfl rfl ?_
              refine g_getA (q2 := 139) 151 (gd rfl) rfl rfl rfl rfl ?_
              refine g_iload_n 152 (gd rfl) rfl rfl ?_
              refine g_iaload 153 (gd rfl) rfl (n := 33) rfl (in_ix i92 rfl) (fun z152 e152 => ?_)
              refine g_iconst 1 154 (gd rfl) rfl rfl ?_
              refine g_iload 156 (gd rfl) rfl rfl ?_
              refine g_ishl 157 (gd rfl) rfl (fun z156 e156 => ?_)
              refine g_ior 158 (gd rfl) rfl (fun z157 e157 => ?_)
              refine g_iastore 159 (gd rfl) rfl (n := 33) rfl (in_ix i146 rfl) ?_
              have hI158 := inv_sI (q := 139) (j := z146.toNatClampNeg) hI139 rfl (in_w (-2147483648) 2147483647 (i_rng z157) rfl)
              refine g_iinc 162 (gd rfl) rfl rfl (Nat.le_of_ble_eq_true rfl) (fun z159 e159 => ?_)
              have i159 := in_add 1 32 e159 i92 (in_c 1 rfl) rfl rfl
              refine g_goto 44 (gd rfl) rfl ?_
              have n44 : ∀ d : Nat, (d : Int) ≤ (z159).toInt → cb ((sI (sI (sI sc44 140 y44_3.toNatClampNeg z116) 140 z124.toNatClampNeg z138) 139 z146.toNatClampNeg z157).1 140 d) + d ≤ 32 := by first | exact fun d hd => g44_0 d (by (first | have a0 := oa5 ro_109_20 i92 j44_2 i98 i159 | ((first | have a0 := in_u ro_109_20 | (have a0 := ro_109_20; unfold In at a0)); (first | have a1 := in_u i92 | (have a1 := i92; unfold In at a1)); (first | have a2 := in_u j44_2 | (have a2 := j44_2; unfold In at a2)); (first | have a3 := in_u i98 | (have a3 := i98; unfold In at a3)); (first | have a4 := in_u i159 | (have a4 := i159; unfold In at a4)))); have a5 := t_add e159 i92 (in_c 1 rfl) rfl; (first | have a6 := oa2 ((in_c 1 rfl)) i146 | ((first | have a6 := in_u ((in_c 1 rfl)) | (have a6 := (in_c 1 rfl); unfold In at a6)); (first | have a7 := in_u i146 | (have a7 := i146; unfold In at a7)))); have a8 := t_add e146 i92 (in_c 1 rfl) rfl; (first | have a9 := in_u i124 | (have a9 := i124; unfold In at a9)); have a10 := t_add e124 i92 (in_c 1 rfl) rfl; (first | have a11 := in_u i83 | (have a11 := i83; unfold In at a11)); have a12 := t_add e81 i45 i78 rfl; (first | have a13 := in_u i78 | (have a13 := i78; unfold In at a13)); omega) | (have hS : ((sI (sI (sI sc44 140 y44_3.toNatClampNeg z116) 140 z124.toNatClampNeg z138) 139 z146.toNatClampNeg z157)).1 140 = upd (upd (sc44.1 140) y44_3.toNatClampNeg z116) z124.toNatClampNeg z138 := (by simp [sI]); rw [hS]; exact (fc_push (w := z159) i92 g44_0 e67 (t_add e124 i92 (in_c 1 rfl) rfl) (t_add e159 i92 (in_c 1 rfl) rfl) (cb_clr e113 e115 e116 i98 hb98) (cb_and_le e138)).1) | (intro d hd; have h0 : (Int32.ofInt 0).toInt = 0 := rfl; have hc := cb_le ((sI (sI (sI sc44 140 y44_3.toNatClampNeg z116) 140 z124.toNatClampNeg z138) 139 z146.toNatClampNeg z157).1 140 d); omega)
              have n44a : BSD (sI (sI (sI sc44 140 y44_3.toNatClampNeg z116) 140 z124.toNatClampNeg z138) 139 z146.toNatClampNeg z157) := by first | exact g44_1 | (unfold BSD; simp only [sI_p (show Nat.beq 138 139 = false from rfl), sI_p (show Nat.beq 138 140 = false from rfl)]; exact g44_1)
              have m44 : sW ((sI (sI (sI sc44 140 y44_3.toNatClampNeg z116) 140 z124.toNatClampNeg z138) 139 z146.toNatClampNeg z157).1 140) ((z159).toInt + 1).toNat < k44 := by first | (have hS : ((sI (sI (sI sc44 140 y44_3.toNatClampNeg z116) 140 z124.toNatClampNeg z138) 139 z146.toNatClampNeg z157)).1 140 = upd (upd (sc44.1 140) y44_3.toNatClampNeg z116) z124.toNatClampNeg z138 := (by simp [sI]); rw [hS]; have h := (fc_push (w := z159) i92 g44_0 e67 (t_add e124 i92 (in_c 1 rfl) rfl) (t_add e159 i92 (in_c 1 rfl) rfl) (cb_clr e113 e115 e116 i98 hb98) (cb_and_le e138)).2; omega) | (have hp := sW_pop ((sI (sI (sI sc44 140 y44_3.toNatClampNeg z116) 140 z124.toNatClampNeg z138) 139 z146.toNatClampNeg z157).1 140) ((z159).toInt + 1).toNat; have he : (y44_3.toInt + 1).toNat = ((z159).toInt + 1).toNat + 1 := (by (first | have a0 := oa5 ro_109_20 i92 j44_2 i98 i159 | ((first | have a0 := in_u ro_109_20 | (have a0 := ro_109_20; unfold In at a0)); (first | have a1 := in_u i92 | (have a1 := i92; unfold In at a1)); (first | have a2 := in_u j44_2 | (have a2 := j44_2; unfold In at a2)); (first | have a3 := in_u i98 | (have a3 := i98; unfold In at a3)); (first | have a4 := in_u i159 | (have a4 := i159; unfold In at a4)))); have a5 := t_add e159 i92 (in_c 1 rfl) rfl; (first | have a6 := oa2 ((in_c 1 rfl)) i146 | ((first | have a6 := in_u ((in_c 1 rfl)) | (have a6 := (in_c 1 rfl); unfold In at a6)); (first | have a7 := in_u i146 | (have a7 := i146; unfold In at a7)))); have a8 := t_add e146 i92 (in_c 1 rfl) rfl; (first | have a9 := in_u i124 | (have a9 := i124; unfold In at a9)); have a10 := t_add e124 i92 (in_c 1 rfl) rfl; (first | have a11 := in_u i83 | (have a11 := i83; unfold In at a11)); have a12 := t_add e81 i45 i78 rfl; (first | have a13 := in_u i78 | (have a13 := i78; unfold In at a13)); omega); have hm := mm44; rw [he] at hm; omega)
              exact gg_w (by first | exact Nat.le_add_right _ _ | exact gw2 | exact gw3 | exact gwe rfl | exact gwf rfl | exact gwg rfl | exact gwh rfl | omega) (gg_f (gf_cons rfl (gf_cons rfl (gf_cons rfl (gf_cons rfl gf_nil)))) (ih44  (sI (sI (sI sc44 140 y44_3.toNatClampNeg z116) 140 z124.toNatClampNeg z138) 139 z146.toNatClampNeg z157) y44_1 y44_2 z159 hI158 (fr_sI rfl (fr_sI rfl (fr_sI rfl hFc44))) (in_w 0 32 j44_2 rfl) (in_w (-1) 32 i159 rfl) n44 n44a m44))
            · skip
              have i83 := r_le1 0 32 c83 i81 j44_2 rfl
              refine g_iinc 89 (gd rfl) rfl rfl (Nat.le_of_ble_eq_true rfl) (fun z86 e86 => ?_)
              have i86 := in_add (-1) 31 e86 i45 (in_c (-1) rfl) rfl rfl
              refine g_goto 44 (gd rfl) rfl ?_
              have n44 : ∀ d : Nat, (d : Int) ≤ (z86).toInt → cb (sc44.1 140 d) + d ≤ 32 := by first | exact fun d hd => g44_0 d (by (first | have a0 := oa4 ro_109_20 i45 j44_2 i86 | ((first | have a0 := in_u ro_109_20 | (have a0 := ro_109_20; unfold In at a0)); (first | have a1 := in_u i45 | (have a1 := i45; unfold In at a1)); (first | have a2 := in_u j44_2 | (have a2 := j44_2; unfold In at a2)); (first | have a3 := in_u i86 | (have a3 := i86; unfold In at a3)))); have a4 := t_add e86 i45 (in_c (-1) rfl) rfl; (first | have a5 := oa2 ((in_c (-1) rfl)) i83 | ((first | have a5 := in_u ((in_c (-1) rfl)) | (have a5 := (in_c (-1) rfl); unfold In at a5)); (first | have a6 := in_u i83 | (have a6 := i83; unfold In at a6)))); have a7 := t_add e81 i45 i78 rfl; (first | have a8 := in_u i78 | (have a8 := i78; unfold In at a8)); omega) | (have hS : (sc44).1 140 = upd (upd (sc44.1 140) y44_3.toNatClampNeg z116) z124.toNatClampNeg z138 := (by simp [sI]); rw [hS]; exact (fc_push (w := z159) i92 g44_0 e67 (t_add e124 i92 (in_c 1 rfl) rfl) (t_add e159 i92 (in_c 1 rfl) rfl) (cb_clr e113 e115 e116 i98 hb98) (cb_and_le e138)).1) | (intro d hd; have h0 : (Int32.ofInt 0).toInt = 0 := rfl; have hc := cb_le (sc44.1 140 d); omega)
              have n44a : BSD sc44 := by first | exact g44_1 | (unfold BSD; simp only [sI_p (show Nat.beq 138 139 = false from rfl), sI_p (show Nat.beq 138 140 = false from rfl)]; exact g44_1)
              have m44 : sW (sc44.1 140) ((z86).toInt + 1).toNat < k44 := by first | (have hS : (sc44).1 140 = upd (upd (sc44.1 140) y44_3.toNatClampNeg z116) z124.toNatClampNeg z138 := (by simp [sI]); rw [hS]; have h := (fc_push (w := z159) i92 g44_0 e67 (t_add e124 i92 (in_c 1 rfl) rfl) (t_add e159 i92 (in_c 1 rfl) rfl) (cb_clr e113 e115 e116 i98 hb98) (cb_and_le e138)).2; omega) | (have hp := sW_pop (sc44.1 140) ((z86).toInt + 1).toNat; have he : (y44_3.toInt + 1).toNat = ((z86).toInt + 1).toNat + 1 := (by (first | have a0 := oa4 ro_109_20 i45 j44_2 i86 | ((first | have a0 := in_u ro_109_20 | (have a0 := ro_109_20; unfold In at a0)); (first | have a1 := in_u i45 | (have a1 := i45; unfold In at a1)); (first | have a2 := in_u j44_2 | (have a2 := j44_2; unfold In at a2)); (first | have a3 := in_u i86 | (have a3 := i86; unfold In at a3)))); have a4 := t_add e86 i45 (in_c (-1) rfl) rfl; (first | have a5 := oa2 ((in_c (-1) rfl)) i83 | ((first | have a5 := in_u ((in_c (-1) rfl)) | (have a5 := (in_c (-1) rfl); unfold In at a5)); (first | have a6 := in_u i83 | (have a6 := i83; unfold In at a6)))); have a7 := t_add e81 i45 i78 rfl; (first | have a8 := in_u i78 | (have a8 := i78; unfold In at a8)); omega); have hm := mm44; rw [he] at hm; omega)
              exact gg_w (by first | exact Nat.le_add_right _ _ | exact gw2 | exact gw3 | exact gwe rfl | exact gwf rfl | exact gwg rfl | exact gwh rfl | omega) (gg_f (gf_cons rfl (gf_cons rfl (gf_cons rfl (gf_cons rfl gf_nil)))) (ih44  sc44 y44_1 y44_2 z86 hIc44 hFc44 (in_w 0 32 j44_2 rfl) (in_w (-1) 32 i86 rfl) n44 n44a m44))
        · skip
          have i50 := r_lt1 0 31 c50 j44_2 i45 rfl
          have i50a := r_lt2 1 32 c50 j44_2 i45 rfl
          refine g_iload_n 54 (gd rfl) rfl rfl ?_
          refine g_istore_n 55 (gd rfl) rfl (Nat.le_of_ble_eq_true rfl) ?_
          refine g_aload_n 56 (gd rfl) rfl rfl ?_
          refine g_getA (q2 := 139) 59 (gd rfl) rfl rfl rfl rfl ?_
          refine g_iload_n 60 (gd rfl) rfl rfl ?_
          refine g_iaload 61 (gd rfl) rfl (n := 33) rfl (in_ix i50a rfl) (fun z60 e60 => ?_)
          refine g_istore_n 62 (gd rfl) rfl (Nat.le_of_ble_eq_true rfl) ?_
          refine g_aload_n 63 (gd rfl) rfl rfl ?_
          refine g_getA (q2 := 140) 66 (gd rfl) rfl rfl rfl rfl ?_
          refine g_iload_n 67 (gd rfl) rfl rfl ?_
          refine g_iaload 68 (gd rfl) rfl (n := 33) rfl (in_ix i50a rfl) (fun z67 e67 => ?_)
          refine g_if_eq 71 86 (gd rfl) rfl rfl (fun c68 => ?_) (fun c68 => ?_)
          · skip
            have i68 := z_eq 0 0 c68 (i_rng z67) rfl
            refine g_iinc 89 (gd rfl) rfl rfl (Nat.le_of_ble_eq_true rfl) (fun z86 e86 => ?_)
            have i86 := in_add 0 31 e86 i50a (in_c (-1) rfl) rfl rfl
            refine g_goto 44 (gd rfl) rfl ?_
            have n44 : ∀ d : Nat, (d : Int) ≤ (z86).toInt → cb (sc44.1 140 d) + d ≤ 32 := by first | exact fun d hd => g44_0 d (by (first | have a0 := oa4 ro_109_20 i50a i50 i86 | ((first | have a0 := in_u ro_109_20 | (have a0 := ro_109_20; unfold In at a0)); (first | have a1 := in_u i50a | (have a1 := i50a; unfold In at a1)); (first | have a2 := in_u i50 | (have a2 := i50; unfold In at a2)); (first | have a3 := in_u i86 | (have a3 := i86; unfold In at a3)))); have a4 := t_add e86 i50a (in_c (-1) rfl) rfl; (first | have a5 := in_u ((in_c (-1) rfl)) | (have a5 := (in_c (-1) rfl); unfold In at a5)); omega) | (have hS : (sc44).1 140 = upd (upd (sc44.1 140) y44_3.toNatClampNeg z116) z124.toNatClampNeg z138 := (by simp [sI]); rw [hS]; exact (fc_push (w := z159) i92 g44_0 e67 (t_add e124 i92 (in_c 1 rfl) rfl) (t_add e159 i92 (in_c 1 rfl) rfl) (cb_clr e113 e115 e116 i98 hb98) (cb_and_le e138)).1) | (intro d hd; have h0 : (Int32.ofInt 0).toInt = 0 := rfl; have hc := cb_le (sc44.1 140 d); omega)
            have n44a : BSD sc44 := by first | exact g44_1 | (unfold BSD; simp only [sI_p (show Nat.beq 138 139 = false from rfl), sI_p (show Nat.beq 138 140 = false from rfl)]; exact g44_1)
            have m44 : sW (sc44.1 140) ((z86).toInt + 1).toNat < k44 := by first | (have hS : (sc44).1 140 = upd (upd (sc44.1 140) y44_3.toNatClampNeg z116) z124.toNatClampNeg z138 := (by simp [sI]); rw [hS]; have h := (fc_push (w := z159) i92 g44_0 e67 (t_add e124 i92 (in_c 1 rfl) rfl) (t_add e159 i92 (in_c 1 rfl) rfl) (cb_clr e113 e115 e116 i98 hb98) (cb_and_le e138)).2; omega) | (have hp := sW_pop (sc44.1 140) ((z86).toInt + 1).toNat; have he : (y44_3.toInt + 1).toNat = ((z86).toInt + 1).toNat + 1 := (by (first | have a0 := oa4 ro_109_20 i50a i50 i86 | ((first | have a0 := in_u ro_109_20 | (have a0 := ro_109_20; unfold In at a0)); (first | have a1 := in_u i50a | (have a1 := i50a; unfold In at a1)); (first | have a2 := in_u i50 | (have a2 := i50; unfold In at a2)); (first | have a3 := in_u i86 | (have a3 := i86; unfold In at a3)))); have a4 := t_add e86 i50a (in_c (-1) rfl) rfl; (first | have a5 := in_u ((in_c (-1) rfl)) | (have a5 := (in_c (-1) rfl); unfold In at a5)); omega); have hm := mm44; rw [he] at hm; omega)
            exact gg_w (by first | exact Nat.le_add_right _ _ | exact gw2 | exact gw3 | exact gwe rfl | exact gwf rfl | exact gwg rfl | exact gwh rfl | omega) (gg_f (gf_cons rfl (gf_cons rfl (gf_cons rfl (gf_cons rfl gf_nil)))) (ih44  sc44 z60 y44_3 z86 hIc44 hFc44 (in_w 0 32 i50a rfl) (in_w (-1) 32 i86 rfl) n44 n44a m44))
          · skip
            refine g_iload_n 72 (gd rfl) rfl rfl ?_
            refine g_aload_n 73 (gd rfl) rfl rfl ?_
            refine g_getA (q2 := 140) 76 (gd rfl) rfl rfl rfl rfl ?_
            refine g_iload_n 77 (gd rfl) rfl rfl ?_
            refine g_iaload 78 (gd rfl) rfl (n := 33) rfl (in_ix i50a rfl) (fun z77 e77 => ?_)
            have q77 : z67 = z77 := (e67).trans e77.symm
            subst q77
            refine g_calls (As := [.int z67]) (r := [.int y44_3]) 81 (gd rfl) rfl rfl rfl rfl rfl (Nat.le_of_ble_eq_true rfl) (Nat.zero_le _) (Nat.zero_le _) (k_336 (by first | exact dq1 hd rfl | exact dq0 hd rfl | exact dq2 hd rfl | exact dq3 hd rfl | omega) hIc44 ) (fun v u h => ?_)
            obtain ⟨z78, rfl, rfl, i78, p78⟩ := h
            show GG _ _ _ _ _ _ _ _ [.int z78, .int y44_3] _ _ _
            refine g_iadd 82 (gd rfl) rfl (fun z81 e81 => ?_)
            have i81 := in_add 1 64 e81 i50a i78 rfl rfl
            refine g_iload_n 83 (gd rfl) rfl rfl ?_
            refine g_cmp_gt 86 92 (gd rfl) rfl rfl (fun c83 => ?_) (fun c83 => ?_)
            · skip
              have i83 := r_lt2 2 64 c83 i50a i81 rfl
              have i92 : In y44_3 0 31 := by exact fc_ix (in_w 0 32 i50a rfl) g44_0 e67 c68
              refine g_aload_n 93 (gd rfl) rfl rfl ?_
              refine g_getA (q2 := 140) 96 (gd rfl) rfl rfl rfl rfl ?_
              refine g_iload_n 97 (gd rfl) rfl rfl ?_
              refine g_iaload 98 (gd rfl) rfl (n := 33) rfl (in_ix i92 rfl) (fun z97 e97 => ?_)
              have q97 : z67 = z97 := (e67).trans e97.symm
              subst q97
              refine g_calls (As := [.int z67]) (r := []) 101 (gd rfl) rfl rfl rfl rfl rfl (Nat.le_of_ble_eq_true rfl) (Nat.zero_le _) (Nat.zero_le _) (k_327n (by first | exact dq1 hd rfl | exact dq0 hd rfl | exact dq2 hd rfl | exact dq3 hd rfl | omega) c68) (fun v u h => ?_)
              obtain ⟨z98, rfl, rfl, i98, hb98⟩ := h
              show GG _ _ _ _ _ _ _ _ [.int z98] _ _ _
              refine g_istore 103 (gd rfl) rfl (Nat.le_of_ble_eq_true rfl) ?_
              refine g_aload_n 104 (gd rfl) rfl rfl ?_
              refine g_getA (q2 := 140) 107 (gd rfl) rfl rfl rfl rfl ?_
              refine g_iload_n 108 (gd rfl) rfl rfl ?_
              refine g_dup2 109 (gd rfl) rfl rfl rfl ?_
              refine g_iaload 110 (gd rfl) rfl (n := 33) rfl (in_ix i92 rfl) (fun z109 e109 => ?_)
              have q109 : z67 = z109 := (e67).trans e109.symm
              subst q109
              refine g_iconst 1 111 (gd rfl) rfl rfl ?_
              refine g_iload 113 (gd rfl) rfl rfl ?_
              refine g_ishl 114 (gd rfl) rfl (fun z113 e113 => ?_)
              refine g_iconst (-1) 115 (gd rfl) rfl rfl ?_
              refine g_ixor 116 (gd rfl) rfl (fun z115 e115 => ?_)
              refine g_iand 117 (gd rfl) rfl (fun z116 e116 => ?_)
              refine g_iastore 118 (gd rfl) rfl (n := 33) rfl (in_ix i92 rfl) ?_
              have hI117 := inv_sI (q := 140) (j := y44_3.toNatClampNeg) hIc44 rfl (in_w (-2147483648) 2147483647 (i_rng z116) rfl)
              refine g_aload_n 119 (gd rfl) rfl rfl ?_
              refine g_getA (q2 := 140) 122 (gd rfl) rfl rfl rfl rfl ?_
              refine g_iload_n 123 (gd rfl) rfl rfl ?_
              refine g_iconst 1 124 (gd rfl) rfl rfl ?_
              refine g_iadd 125 (gd rfl) rfl (fun z124 e124 => ?_)
              have i124 := in_add 1 32 e124 i92 (in_c 1 rfl) rfl rfl
              refine g_aload_n 126 (gd rfl) rfl rfl ?_
              refine g_getA (q2 := 140) 129 (gd rfl) rfl rfl rfl rfl ?_
              refine g_iload_n 130 (gd rfl) rfl rfl ?_
              refine g_iaload 131 (gd rfl) rfl (n := 33) rfl (in_ix i92 rfl) (fun z130 e130 => ?_)
              have q130 : z116 = z130 := (sI_get).trans e130.symm
              subst q130
              refine g_aload_n 132 (gd rfl) rfl rfl ?_
              refine g_getA (q2 := 138) 135 (gd rfl) rfl rfl rfl rfl ?_
              refine g_iload 137 (gd rfl) rfl rfl ?_
              refine g_iaload 138 (gd rfl) rfl (n := 32) rfl (in_ix i98 rfl) (fun z137 e137 => ?_)
              refine g_iand 139 (gd rfl) rfl (fun z138 e138 => ?_)
              refine g_iastore 140 (gd rfl) rfl (n := 33) rfl (in_ix i124 rfl) ?_
              have hI139 := inv_sI (q := 140) (j := z124.toNatClampNeg) hI117 rfl (in_w (-2147483648) 2147483647 (i_rng z138) rfl)
              refine g_aload_n 141 (gd rfl) rfl rfl ?_
              refine g_getA (q2 := 139) 144 (gd rfl) rfl rfl rfl rfl ?_
              refine g_iload_n 145 (gd rfl) rfl rfl ?_
              refine g_iconst 1 146 (gd rfl) rfl rfl ?_
              refine g_iadd 147 (gd rfl) rfl (fun z146 e146 => ?_)
              have i146 := in_add 1 32 e146 i92 (in_c 1 rfl) rfl rfl
              refine g_aload_n 148 (gd rfl) rfl rfl ?_
              refine g_getA (q2 := 139) 151 (gd rfl) rfl rfl rfl rfl ?_
              refine g_iload_n 152 (gd rfl) rfl rfl ?_
              refine g_iaload 153 (gd rfl) rfl (n := 33) rfl (in_ix i92 rfl) (fun z152 e152 => ?_)
              have q152 : z60 = z152 := (sI_ne rfl (sI_ne rfl (e60))).trans e152.symm
              subst q152
              refine g_iconst 1 154 (gd rfl) rfl rfl ?_
              refine g_iload 156 (gd rfl) rfl rfl ?_
              refine g_ishl 157 (gd rfl) rfl (fun z156 e156 => ?_)
              refine g_ior 158 (gd rfl) rfl (fun z157 e157 => ?_)
              refine g_iastore 159 (gd rfl) rfl (n := 33) rfl (in_ix i146 rfl) ?_
              have hI158 := inv_sI (q := 139) (j := z146.toNatClampNeg) hI139 rfl (in_w (-2147483648) 2147483647 (i_rng z157) rfl)
              refine g_iinc 162 (gd rfl) rfl rfl (Nat.le_of_ble_eq_true rfl) (fun z159 e159 => ?_)
              have i159 := in_add 1 32 e159 i92 (in_c 1 rfl) rfl rfl
              refine g_goto 44 (gd rfl) rfl ?_
              have n44 : ∀ d : Nat, (d : Int) ≤ (z159).toInt → cb ((sI (sI (sI sc44 140 y44_3.toNatClampNeg z116) 140 z124.toNatClampNeg z138) 139 z146.toNatClampNeg z157).1 140 d) + d ≤ 32 := by first | exact fun d hd => g44_0 d (by (first | have a0 := oa5 ro_109_20 i92 i50 i98 i159 | ((first | have a0 := in_u ro_109_20 | (have a0 := ro_109_20; unfold In at a0)); (first | have a1 := in_u i92 | (have a1 := i92; unfold In at a1)); (first | have a2 := in_u i50 | (have a2 := i50; unfold In at a2)); (first | have a3 := in_u i98 | (have a3 := i98; unfold In at a3)); (first | have a4 := in_u i159 | (have a4 := i159; unfold In at a4)))); have a5 := t_add e159 i92 (in_c 1 rfl) rfl; (first | have a6 := oa2 ((in_c 1 rfl)) i146 | ((first | have a6 := in_u ((in_c 1 rfl)) | (have a6 := (in_c 1 rfl); unfold In at a6)); (first | have a7 := in_u i146 | (have a7 := i146; unfold In at a7)))); have a8 := t_add e146 i92 (in_c 1 rfl) rfl; (first | have a9 := in_u i124 | (have a9 := i124; unfold In at a9)); have a10 := t_add e124 i92 (in_c 1 rfl) rfl; (first | have a11 := in_u i83 | (have a11 := i83; unfold In at a11)); have a12 := t_add e81 i50a i78 rfl; (first | have a13 := in_u i78 | (have a13 := i78; unfold In at a13)); omega) | (have hS : ((sI (sI (sI sc44 140 y44_3.toNatClampNeg z116) 140 z124.toNatClampNeg z138) 139 z146.toNatClampNeg z157)).1 140 = upd (upd (sc44.1 140) y44_3.toNatClampNeg z116) z124.toNatClampNeg z138 := (by simp [sI]); rw [hS]; exact (fc_push (w := z159) i92 g44_0 e67 (t_add e124 i92 (in_c 1 rfl) rfl) (t_add e159 i92 (in_c 1 rfl) rfl) (cb_clr e113 e115 e116 i98 hb98) (cb_and_le e138)).1) | (intro d hd; have h0 : (Int32.ofInt 0).toInt = 0 := rfl; have hc := cb_le ((sI (sI (sI sc44 140 y44_3.toNatClampNeg z116) 140 z124.toNatClampNeg z138) 139 z146.toNatClampNeg z157).1 140 d); omega)
              have n44a : BSD (sI (sI (sI sc44 140 y44_3.toNatClampNeg z116) 140 z124.toNatClampNeg z138) 139 z146.toNatClampNeg z157) := by first | exact g44_1 | (unfold BSD; simp only [sI_p (show Nat.beq 138 139 = false from rfl), sI_p (show Nat.beq 138 140 = false from rfl)]; exact g44_1)
              have m44 : sW ((sI (sI (sI sc44 140 y44_3.toNatClampNeg z116) 140 z124.toNatClampNeg z138) 139 z146.toNatClampNeg z157).1 140) ((z159).toInt + 1).toNat < k44 := by first | (have hS : ((sI (sI (sI sc44 140 y44_3.toNatClampNeg z116) 140 z124.toNatClampNeg z138) 139 z146.toNatClampNeg z157)).1 140 = upd (upd (sc44.1 140) y44_3.toNatClampNeg z116) z124.toNatClampNeg z138 := (by simp [sI]); rw [hS]; have h := (fc_push (w := z159) i92 g44_0 e67 (t_add e124 i92 (in_c 1 rfl) rfl) (t_add e159 i92 (in_c 1 rfl) rfl) (cb_clr e113 e115 e116 i98 hb98) (cb_and_le e138)).2; omega) | (have hp := sW_pop ((sI (sI (sI sc44 140 y44_3.toNatClampNeg z116) 140 z124.toNatClampNeg z138) 139 z146.toNatClampNeg z157).1 140) ((z159).toInt + 1).toNat; have he : (y44_3.toInt + 1).toNat = ((z159).toInt + 1).toNat + 1 := (by (first | have a0 := oa5 ro_109_20 i92 i50 i98 i159 | ((first | have a0 := in_u ro_109_20 | (have a0 := ro_109_20; unfold In at a0)); (first | have a1 := in_u i92 | (have a1 := i92; unfold In at a1)); (first | have a2 := in_u i50 | (have a2 := i50; unfold In at a2)); (first | have a3 := in_u i98 | (have a3 := i98; unfold In at a3)); (first | have a4 := in_u i159 | (have a4 := i159; unfold In at a4)))); have a5 := t_add e159 i92 (in_c 1 rfl) rfl; (first | have a6 := oa2 ((in_c 1 rfl)) i146 | ((first | have a6 := in_u ((in_c 1 rfl)) | (have a6 := (in_c 1 rfl); unfold In at a6)); (first | have a7 := in_u i146 | (have a7 := i146; unfold In at a7)))); have a8 := t_add e146 i92 (in_c 1 rfl) rfl; (first | have a9 := in_u i124 | (have a9 := i124; unfold In at a9)); have a10 := t_add e124 i92 (in_c 1 rfl) rfl; (first | have a11 := in_u i83 | (have a11 := i83; unfold In at a11)); have a12 := t_add e81 i50a i78 rfl; (first | have a13 := in_u i78 | (have a13 := i78; unfold In at a13)); omega); have hm := mm44; rw [he] at hm; omega)
              exact gg_w (by first | exact Nat.le_add_right _ _ | exact gw2 | exact gw3 | exact gwe rfl | exact gwf rfl | exact gwg rfl | exact gwh rfl | omega) (gg_f (gf_cons rfl (gf_cons rfl (gf_cons rfl (gf_cons rfl gf_nil)))) (ih44  (sI (sI (sI sc44 140 y44_3.toNatClampNeg z116) 140 z124.toNatClampNeg z138) 139 z146.toNatClampNeg z157) z60 y44_3 z159 hI158 (fr_sI rfl (fr_sI rfl (fr_sI rfl hFc44))) (in_w 0 32 i92 rfl) (in_w (-1) 32 i159 rfl) n44 n44a m44))
            · skip
              have i83 := r_le1 1 32 c83 i81 i50a rfl
              refine g_iinc 89 (gd rfl) rfl rfl (Nat.le_of_ble_eq_true rfl) (fun z86 e86 => ?_)
              have i86 := in_add 0 31 e86 i50a (in_c (-1) rfl) rfl rfl
              refine g_goto 44 (gd rfl) rfl ?_
              have n44 : ∀ d : Nat, (d : Int) ≤ (z86).toInt → cb (sc44.1 140 d) + d ≤ 32 := by first | exact fun d hd => g44_0 d (by (first | have a0 := oa4 ro_109_20 i50a i50 i86 | ((first | have a0 := in_u ro_109_20 | (have a0 := ro_109_20; unfold In at a0)); (first | have a1 := in_u i50a | (have a1 := i50a; unfold In at a1)); (first | have a2 := in_u i50 | (have a2 := i50; unfold In at a2)); (first | have a3 := in_u i86 | (have a3 := i86; unfold In at a3)))); have a4 := t_add e86 i50a (in_c (-1) rfl) rfl; (first | have a5 := oa2 ((in_c (-1) rfl)) i83 | ((first | have a5 := in_u ((in_c (-1) rfl)) | (have a5 := (in_c (-1) rfl); unfold In at a5)); (first | have a6 := in_u i83 | (have a6 := i83; unfold In at a6)))); have a7 := t_add e81 i50a i78 rfl; (first | have a8 := in_u i78 | (have a8 := i78; unfold In at a8)); omega) | (have hS : (sc44).1 140 = upd (upd (sc44.1 140) y44_3.toNatClampNeg z116) z124.toNatClampNeg z138 := (by simp [sI]); rw [hS]; exact (fc_push (w := z159) i92 g44_0 e67 (t_add e124 i92 (in_c 1 rfl) rfl) (t_add e159 i92 (in_c 1 rfl) rfl) (cb_clr e113 e115 e116 i98 hb98) (cb_and_le e138)).1) | (intro d hd; have h0 : (Int32.ofInt 0).toInt = 0 := rfl; have hc := cb_le (sc44.1 140 d); omega)
              have n44a : BSD sc44 := by first | exact g44_1 | (unfold BSD; simp only [sI_p (show Nat.beq 138 139 = false from rfl), sI_p (show Nat.beq 138 140 = false from rfl)]; exact g44_1)
              have m44 : sW (sc44.1 140) ((z86).toInt + 1).toNat < k44 := by first | (have hS : (sc44).1 140 = upd (upd (sc44.1 140) y44_3.toNatClampNeg z116) z124.toNatClampNeg z138 := (by simp [sI]); rw [hS]; have h := (fc_push (w := z159) i92 g44_0 e67 (t_add e124 i92 (in_c 1 rfl) rfl) (t_add e159 i92 (in_c 1 rfl) rfl) (cb_clr e113 e115 e116 i98 hb98) (cb_and_le e138)).2; omega) | (have hp := sW_pop (sc44.1 140) ((z86).toInt + 1).toNat; have he : (y44_3.toInt + 1).toNat = ((z86).toInt + 1).toNat + 1 := (by (first | have a0 := oa4 ro_109_20 i50a i50 i86 | ((first | have a0 := in_u ro_109_20 | (have a0 := ro_109_20; unfold In at a0)); (first | have a1 := in_u i50a | (have a1 := i50a; unfold In at a1)); (first | have a2 := in_u i50 | (have a2 := i50; unfold In at a2)); (first | have a3 := in_u i86 | (have a3 := i86; unfold In at a3)))); have a4 := t_add e86 i50a (in_c (-1) rfl) rfl; (first | have a5 := oa2 ((in_c (-1) rfl)) i83 | ((first | have a5 := in_u ((in_c (-1) rfl)) | (have a5 := (in_c (-1) rfl); unfold In at a5)); (first | have a6 := in_u i83 | (have a6 := i83; unfold In at a6)))); have a7 := t_add e81 i50a i78 rfl; (first | have a8 := in_u i78 | (have a8 := i78; unfold In at a8)); omega); have hm := mm44; rw [he] at hm; omega)
              exact gg_w (by first | exact Nat.le_add_right _ _ | exact gw2 | exact gw3 | exact gwe rfl | exact gwf rfl | exact gwg rfl | exact gwh rfl | omega) (gg_f (gf_cons rfl (gf_cons rfl (gf_cons rfl (gf_cons rfl gf_nil)))) (ih44  sc44 z60 y44_3 z86 hIc44 hFc44 (in_w 0 32 i50a rfl) (in_w (-1) 32 i86 rfl) n44 n44a m44))
  refine g_enter2 (k := 337) (N := 989560464999301) (by first | exact dq1 hd rfl | exact dq0 hd rfl | exact dq2 hd rfl | exact dq3 hd rfl | omega) rfl (Nat.le_of_ble_eq_true rfl) ?_
  refine g_aload_n 1 (gd rfl) rfl rfl ?_
  refine g_callv (X := _) (As := []) (r := []) (b := A 109) (q := 109) 4 (gd rfl) rfl rfl rfl rfl rfl (ww_o rfl) (Nat.le_of_ble_eq_true rfl) (Nat.zero_le _) (Nat.zero_le _) (k_335 (by first | exact dq1 hd rfl | exact dq0 hd rfl | exact dq2 hd rfl | exact dq3 hd rfl | omega) hI ) (fun e u h => h) (fun v u h => ?_)
  obtain ⟨s1, hI1, hF1, rfl, rfl, p1⟩ := h
  show GG _ _ _ _ _ _ _ _ [] _ _ _
  refine g_iconst 0 5 (gd rfl) rfl rfl ?_
  refine g_istore_n 6 (gd rfl) rfl (Nat.le_of_ble_eq_true rfl) ?_
  refine g_iconst 0 7 (gd rfl) rfl rfl ?_
  refine g_istore_n 8 (gd rfl) rfl (Nat.le_of_ble_eq_true rfl) ?_
  refine g_iconst 0 9 (gd rfl) rfl rfl ?_
  refine g_istore_n 10 (gd rfl) rfl (Nat.le_of_ble_eq_true rfl) ?_
  refine g_aload_n 11 (gd rfl) rfl rfl ?_
  refine g_getA (q2 := 140) 14 (gd rfl) rfl rfl rfl rfl ?_
  refine g_iconst 0 15 (gd rfl) rfl rfl ?_
  refine g_aload_n 16 (gd rfl) rfl rfl ?_
  refine g_getI 19 (gd rfl) rfl rfl rfl (fun z16 e16 => ?_)
  have q16 : u_109_20 = z16 := (fr_F (e_109_20) hF1 rfl).trans e16.symm
  subst q16
  refine g_bipush 32 21 (gd rfl) rfl rfl ?_
  refine g_cmp_ne 24 28 (gd rfl) rfl rfl (fun c21 => ?_) (fun c21 => ?_)
  · skip
    have i21 := r_ne1 0 31 c21 ro_109_20 (in_c 32 rfl) rfl
    refine g_iconst 1 29 (gd rfl) rfl rfl ?_
    refine g_aload_n 30 (gd rfl) rfl rfl ?_
    refine g_getI 33 (gd rfl) rfl rfl rfl (fun z30 e30 => ?_)
    have q30 : u_109_20 = z30 := (fr_F (e_109_20) hF1 rfl).trans e30.symm
    subst q30
    refine g_ishl 34 (gd rfl) rfl (fun z33 e33 => ?_)
    refine g_iconst 1 35 (gd rfl) rfl rfl ?_
    refine g_isub 36 (gd rfl) rfl (fun z35 e35 => ?_)
    refine g_iastore 37 (gd rfl) rfl (n := 33) rfl (in_ix (in_c 0 rfl) rfl) ?_
    have hI36 := inv_sI (q := 140) (j := (Int32.ofInt 0).toNatClampNeg) hI1 rfl (in_w (-2147483648) 2147483647 (i_rng z35) rfl)
    refine g_aload_n 38 (gd rfl) rfl rfl ?_
    refine g_getA (q2 := 139) 41 (gd rfl) rfl rfl rfl rfl ?_
    refine g_iconst 0 42 (gd rfl) rfl rfl ?_
    refine g_iconst 0 43 (gd rfl) rfl rfl ?_
    refine g_iastore 44 (gd rfl) rfl (n := 33) rfl (in_ix (in_c 0 rfl) rfl) ?_
    have hI43 := inv_sI (q := 139) (j := (Int32.ofInt 0).toNatClampNeg) hI36 rfl (in_w (-2147483648) 2147483647 (in_c 0 rfl) rfl)
    have n44 : ∀ d : Nat, (d : Int) ≤ ((Int32.ofInt 0)).toInt → cb ((sI (sI s1 140 (Int32.ofInt 0).toNatClampNeg z35) 139 (Int32.ofInt 0).toNatClampNeg (Int32.ofInt 0)).1 140 d) + d ≤ 32 := by first | exact fun d hd => g44_0 d (by (first | have a0 := oa2 i21 ((in_c 0 rfl)) | ((first | have a0 := in_u i21 | (have a0 := i21; unfold In at a0)); (first | have a1 := in_u ((in_c 0 rfl)) | (have a1 := (in_c 0 rfl); unfold In at a1)))); omega) | (have hS : ((sI (sI s1 140 (Int32.ofInt 0).toNatClampNeg z35) 139 (Int32.ofInt 0).toNatClampNeg (Int32.ofInt 0))).1 140 = upd (upd (sc44.1 140) y44_3.toNatClampNeg z116) z124.toNatClampNeg z138 := (by simp [sI]); rw [hS]; exact (fc_push (w := z159) i92 g44_0 e67 (t_add e124 i92 (in_c 1 rfl) rfl) (t_add e159 i92 (in_c 1 rfl) rfl) (cb_clr e113 e115 e116 i98 hb98) (cb_and_le e138)).1) | (intro d hd; have h0 : (Int32.ofInt 0).toInt = 0 := rfl; have hc := cb_le ((sI (sI s1 140 (Int32.ofInt 0).toNatClampNeg z35) 139 (Int32.ofInt 0).toNatClampNeg (Int32.ofInt 0)).1 140 d); omega)
    have n44a : BSD (sI (sI s1 140 (Int32.ofInt 0).toNatClampNeg z35) 139 (Int32.ofInt 0).toNatClampNeg (Int32.ofInt 0)) := by first | exact p1 | (unfold BSD; simp only [sI_p (show Nat.beq 138 139 = false from rfl), sI_p (show Nat.beq 138 140 = false from rfl)]; exact p1)
    have m44 : sW ((sI (sI s1 140 (Int32.ofInt 0).toNatClampNeg z35) 139 (Int32.ofInt 0).toNatClampNeg (Int32.ofInt 0)).1 140) (((Int32.ofInt 0)).toInt + 1).toNat < 1099511627776 := by exact sW_one _ rfl
    exact gg_w (by first | exact Nat.le_of_ble_eq_true rfl | omega) (gg_f (gf_cons rfl (gf_cons rfl (gf_cons rfl (gf_cons rfl gf_nil)))) (ct44 (1099511627776) (sI (sI s1 140 (Int32.ofInt 0).toNatClampNeg z35) 139 (Int32.ofInt 0).toNatClampNeg (Int32.ofInt 0)) (Int32.ofInt 0) (Int32.ofInt 0) (Int32.ofInt 0) hI43 (fr_sI rfl (fr_sI rfl (fr_tr rfl fr_rf hF1))) (in_w 0 32 (in_c 0 rfl) rfl) (in_w (-1) 32 (in_c 0 rfl) rfl) n44 n44a m44))
  · skip
    have i21 := r_eq1 32 32 c21 ro_109_20 (in_c 32 rfl) rfl
    refine g_iconst (-1) 25 (gd rfl) rfl rfl ?_
    refine g_goto 36 (gd rfl) rfl ?_
    refine g_iastore 37 (gd rfl) rfl (n := 33) rfl (in_ix (in_c 0 rfl) rfl) ?_
    have hI36 := inv_sI (q := 140) (j := (Int32.ofInt 0).toNatClampNeg) hI1 rfl (in_w (-2147483648) 2147483647 (in_c (-1) rfl) rfl)
    refine g_aload_n 38 (gd rfl) rfl rfl ?_
    refine g_getA (q2 := 139) 41 (gd rfl) rfl rfl rfl rfl ?_
    refine g_iconst 0 42 (gd rfl) rfl rfl ?_
    refine g_iconst 0 43 (gd rfl) rfl rfl ?_
    refine g_iastore 44 (gd rfl) rfl (n := 33) rfl (in_ix (in_c 0 rfl) rfl) ?_
    have hI43 := inv_sI (q := 139) (j := (Int32.ofInt 0).toNatClampNeg) hI36 rfl (in_w (-2147483648) 2147483647 (in_c 0 rfl) rfl)
    have n44 : ∀ d : Nat, (d : Int) ≤ ((Int32.ofInt 0)).toInt → cb ((sI (sI s1 140 (Int32.ofInt 0).toNatClampNeg (Int32.ofInt (-1))) 139 (Int32.ofInt 0).toNatClampNeg (Int32.ofInt 0)).1 140 d) + d ≤ 32 := by first | exact fun d hd => g44_0 d (by (first | have a0 := oa2 i21 ((in_c 0 rfl)) | ((first | have a0 := in_u i21 | (have a0 := i21; unfold In at a0)); (first | have a1 := in_u ((in_c 0 rfl)) | (have a1 := (in_c 0 rfl); unfold In at a1)))); omega) | (have hS : ((sI (sI s1 140 (Int32.ofInt 0).toNatClampNeg (Int32.ofInt (-1))) 139 (Int32.ofInt 0).toNatClampNeg (Int32.ofInt 0))).1 140 = upd (upd (sc44.1 140) y44_3.toNatClampNeg z116) z124.toNatClampNeg z138 := (by simp [sI]); rw [hS]; exact (fc_push (w := z159) i92 g44_0 e67 (t_add e124 i92 (in_c 1 rfl) rfl) (t_add e159 i92 (in_c 1 rfl) rfl) (cb_clr e113 e115 e116 i98 hb98) (cb_and_le e138)).1) | (intro d hd; have h0 : (Int32.ofInt 0).toInt = 0 := rfl; have hc := cb_le ((sI (sI s1 140 (Int32.ofInt 0).toNatClampNeg (Int32.ofInt (-1))) 139 (Int32.ofInt 0).toNatClampNeg (Int32.ofInt 0)).1 140 d); omega)
    have n44a : BSD (sI (sI s1 140 (Int32.ofInt 0).toNatClampNeg (Int32.ofInt (-1))) 139 (Int32.ofInt 0).toNatClampNeg (Int32.ofInt 0)) := by first | exact p1 | (unfold BSD; simp only [sI_p (show Nat.beq 138 139 = false from rfl), sI_p (show Nat.beq 138 140 = false from rfl)]; exact p1)
    have m44 : sW ((sI (sI s1 140 (Int32.ofInt 0).toNatClampNeg (Int32.ofInt (-1))) 139 (Int32.ofInt 0).toNatClampNeg (Int32.ofInt 0)).1 140) (((Int32.ofInt 0)).toInt + 1).toNat < 1099511627776 := by exact sW_one _ rfl
    exact gg_w (by first | exact Nat.le_of_ble_eq_true rfl | omega) (gg_f (gf_cons rfl (gf_cons rfl (gf_cons rfl (gf_cons rfl gf_nil)))) (ct44 (1099511627776) (sI (sI s1 140 (Int32.ofInt 0).toNatClampNeg (Int32.ofInt (-1))) 139 (Int32.ofInt 0).toNatClampNeg (Int32.ofInt 0)) (Int32.ofInt 0) (Int32.ofInt 0) (Int32.ofInt 0) hI43 (fr_sI rfl (fr_sI rfl (fr_tr rfl fr_rf hF1))) (in_w 0 32 (in_c 0 rfl) rfl) (in_w (-1) 32 (in_c 0 rfl) rfl) n44 n44a m44))

/-- GraphHouseModel.barsOf -/
theorem k_339 {Z : AmZ} {A : Nat → Nat} {s : GS} {ex : va_W} {d : Nat} {X : AmX} {x1 : Int32} (hd : 3 ≤ d) (hI : Inv s) (h1 : In x1 0 31) : GC Z d 339 [.ref (A 109), .int x1] (WW Z A s ++ ex) 0 0 (fun v u => ∃ z : Int32, v = some (.int z) ∧ u = WW Z A s ++ ex ∧ In z (-2147483648) 2147483647 ∧ (BAR s (x1).toNatClampNeg (s.2.2.1 109 20).toInt (z))) X := by
  intro post xp hP hX
  obtain ⟨u_109_20, e_109_20⟩ : ∃ w, w = s.2.2.1 109 20 := ⟨_, rfl⟩
  have ro_109_20 := inv_F hI 0 32 rfl e_109_20
  have ct4 : ∀ (k4 : Nat) (y4_2 : Int32) (y4_3 : Int32), (In y4_3 0 32) → ((y4_3).toInt ≤ (u_109_20).toInt) → (BAR s (x1).toNatClampNeg (y4_3).toInt (y4_2)) → 32 - (y4_3).toInt < (k4 : Int) → GG Z (d - 1) 339 post (gx xp) (1 + k4 * 900) 4 (fun j => xlook j [(0, .ref (A 109)), (1, .int x1), (2, .int y4_2), (3, .int y4_3)]) [] (WW Z A s ++ ex) 0 0 := by
    intro k4
    induction k4 with
    | zero => intro y4_2 y4_3 j4_3 n4_0 g4_0 mm4; exact m_no mm4 j4_3 rfl
    | succ k4 ih4 =>
      intro y4_2 y4_3 j4_3 n4_0 g4_0 mm4
      refine gg_w (M := 1 + k4 * 900 + 900) gws ?_
      refine g_iload_n 5 (gd rfl) rfl rfl ?_
      refine g_aload_n 6 (gd rfl) rfl rfl ?_
      refine g_getI 9 (gd rfl) rfl rfl rfl (fun z6 e6 => ?_)
      have q6 : u_109_20 = z6 := (e_109_20).trans e6.symm
      subst q6
      refine g_cmp_ge 12 55 (gd rfl) rfl rfl (fun c9 => ?_) (fun c9 => ?_)
      · skip
        refine g_iload_n 56 (gd rfl) rfl rfl ?_
        have n56 : BAR s (x1).toNatClampNeg (s.2.2.1 109 20).toInt (y4_2) := by have h := g4_0; rw [show y4_3.toInt = (s.2.2.1 109 20).toInt from (by rw [← e_109_20]; (first | have a0 := oa3 h1 ro_109_20 j4_3 | ((first | have a0 := in_u h1 | (have a0 := h1; unfold In at a0)); (first | have a1 := in_u ro_109_20 | (have a1 := ro_109_20; unfold In at a1)); (first | have a2 := in_u j4_3 | (have a2 := j4_3; unfold In at a2)))); omega)] at h; exact h
        exact g_ireturn (gd rfl) rfl rfl (hP _ _ ⟨y4_2, rfl, rfl, in_w (-2147483648) 2147483647 (i_rng y4_2) rfl, n56⟩)
      · skip
        have i9 := r_lt1 0 31 c9 j4_3 ro_109_20 rfl
        have i9a := r_lt2 1 32 c9 j4_3 ro_109_20 rfl
        refine g_iload_n 13 (gd rfl) rfl rfl ?_
        refine g_aload_n 14 (gd rfl) rfl rfl ?_
        refine g_getA (q2 := 138) 17 (gd rfl) rfl rfl rfl rfl ?_
        refine g_iload_n 18 (gd rfl) rfl rfl ?_
        refine g_iaload 19 (gd rfl) rfl (n := 32) rfl (in_ix h1 rfl) (fun z18 e18 => ?_)
        refine g_iload_n 20 (gd rfl) rfl rfl ?_
        refine g_calls (As := [.int z18, .int y4_3]) (r := [.int y4_2]) 23 (gd rfl) rfl rfl rfl rfl rfl (Nat.le_of_ble_eq_true rfl) (mc := 0) (ms := 0) (Nat.zero_le _) (Nat.zero_le _) (P := fun v u => _) ?_ (fun v u h => h)
        intro po20 xx20 hp20 hx20
        refine g_enter2 (k := 311) (N := 300) (by first | exact dq1 hd rfl | exact dq0 hd rfl | exact dq2 hd rfl | exact dq3 hd rfl | omega) rfl (Nat.le_of_ble_eq_true rfl) ?_
        refine g_iload_n 1 (gd rfl) rfl rfl ?_
        refine g_iload_n 2 (gd rfl) rfl rfl ?_
        refine g_ishr 3 (gd rfl) rfl (fun z20x2 e20x2 => ?_)
        refine g_iconst 1 4 (gd rfl) rfl rfl ?_
        refine g_iand 5 (gd rfl) rfl (fun z20x4 e20x4 => ?_)
        have i20x4 := in_and2 e20x4 (in_c 1 rfl) rfl
        refine g_iconst 1 6 (gd rfl) rfl rfl ?_
        refine g_cmp_ne 9 13 (gd rfl) rfl rfl (fun c20x6 => ?_) (fun c20x6 => ?_)
        · skip
          have i20x6 := r_ne1 0 0 c20x6 i20x4 (in_c 1 rfl) rfl
          refine g_iconst 0 14 (gd rfl) rfl rfl ?_
          refine g_ireturn (gd rfl) rfl (nb01 (in_w 0 1 (in_c 0 rfl) rfl)) (hp20 _ _ ?_)
          show GG _ _ _ _ _ _ _ _ [.int (Int32.ofInt 0), .int y4_2] _ _ _
          refine g_if_eq 26 46 (gd rfl) rfl rfl (fun c23 => ?_) (fun c23 => ?_)
          · skip
            refine g_iconst 0 47 (gd rfl) rfl rfl ?_
            refine g_ior 48 (gd rfl) rfl (fun z47 e47 => ?_)
            refine g_istore_n 49 (gd rfl) rfl (Nat.le_of_ble_eq_true rfl) ?_
            refine g_iinc 52 (gd rfl) rfl rfl (Nat.le_of_ble_eq_true rfl) (fun z49 e49 => ?_)
            have i49 := in_add 1 32 e49 i9 (in_c 1 rfl) rfl rfl
            refine g_goto 4 (gd rfl) rfl ?_
            have n4 : (z49).toInt ≤ (u_109_20).toInt := by (first | have a0 := oa4 h1 i9a i9 i49 | ((first | have a0 := in_u h1 | (have a0 := h1; unfold In at a0)); (first | have a1 := in_u i9a | (have a1 := i9a; unfold In at a1)); (first | have a2 := in_u i9 | (have a2 := i9; unfold In at a2)); (first | have a3 := in_u i49 | (have a3 := i49; unfold In at a3)))); have a4 := t_add e49 i9 (in_c 1 rfl) rfl; (first | have a5 := in_u ((in_c 1 rfl)) | (have a5 := (in_c 1 rfl); unfold In at a5)); omega
            have n4a : BAR s (x1).toNatClampNeg (z49).toInt (z47) := by exact bar_no g4_0 (by (first | have a0 := oa4 h1 i9a i9 i49 | ((first | have a0 := in_u h1 | (have a0 := h1; unfold In at a0)); (first | have a1 := in_u i9a | (have a1 := i9a; unfold In at a1)); (first | have a2 := in_u i9 | (have a2 := i9; unfold In at a2)); (first | have a3 := in_u i49 | (have a3 := i49; unfold In at a3)))); have a4 := t_add e49 i9 (in_c 1 rfl) rfl; (first | have a5 := in_u ((in_c 1 rfl)) | (have a5 := (in_c 1 rfl); unfold In at a5)); omega) (by (first | have a0 := oa4 h1 i9a i9 i49 | ((first | have a0 := in_u h1 | (have a0 := h1; unfold In at a0)); (first | have a1 := in_u i9a | (have a1 := i9a; unfold In at a1)); (first | have a2 := in_u i9 | (have a2 := i9; unfold In at a2)); (first | have a3 := in_u i49 | (have a3 := i49; unfold In at a3)))); have a4 := t_add e49 i9 (in_c 1 rfl) rfl; (first | have a5 := in_u ((in_c 1 rfl)) | (have a5 := (in_c 1 rfl); unfold In at a5)); omega) (fun h _ => by have hb := bt_no e20x2 e20x4 i9 c20x6; rw [e18, h] at hb; cases hb) e47
            exact gg_w (by first | exact Nat.le_add_right _ _ | exact gw2 | exact gw3 | exact gwe rfl | exact gwf rfl | exact gwg rfl | exact gwh rfl | omega) (gg_f (gf_cons rfl (gf_cons rfl (gf_cons rfl (gf_cons rfl gf_nil)))) (ih4  z47 z49  (in_w 0 32 i49 rfl) n4 n4a (m_up mm4 (t_add e49 i9 (in_c 1 rfl) rfl) (in_w 1 1 (in_c 1 rfl) rfl))))
          · skip
            exact zn_ne c23 (in_c 0 rfl) rfl
        · skip
          have i20x6 := r_eq1 1 1 c20x6 i20x4 (in_c 1 rfl) rfl
          refine g_iconst 1 10 (gd rfl) rfl rfl ?_
          refine g_goto 14 (gd rfl) rfl ?_
          refine g_ireturn (gd rfl) rfl (nb01 (in_w 0 1 (in_c 1 rfl) rfl)) (hp20 _ _ ?_)
          show GG _ _ _ _ _ _ _ _ [.int (Int32.ofInt 1), .int y4_2] _ _ _
          refine g_if_eq 26 46 (gd rfl) rfl rfl (fun c23 => ?_) (fun c23 => ?_)
          · skip
            exact zn_eq c23 (in_c 1 rfl) rfl
          · skip
            refine g_aload_n 27 (gd rfl) rfl rfl ?_
            refine g_getA (q2 := 142) 30 (gd rfl) rfl rfl rfl rfl ?_
            refine g_iload_n 31 (gd rfl) rfl rfl ?_
            refine g_iaload 32 (gd rfl) rfl (n := 32) rfl (in_ix i9 rfl) (fun z31 e31 => ?_)
            have i31 := inv_I hI (n := 32) (t := 0) (-2147483648) 31 rfl (in_ix i9 rfl) rfl e31
            refine g_if_lt 35 46 (gd rfl) rfl rfl (fun c32 => ?_) (fun c32 => ?_)
            · skip
              have i32 := z_lt (-2147483648) (-1) c32 i31 rfl
              refine g_iconst 0 47 (gd rfl) rfl rfl ?_
              refine g_ior 48 (gd rfl) rfl (fun z47 e47 => ?_)
              refine g_istore_n 49 (gd rfl) rfl (Nat.le_of_ble_eq_true rfl) ?_
              refine g_iinc 52 (gd rfl) rfl rfl (Nat.le_of_ble_eq_true rfl) (fun z49 e49 => ?_)
              have i49 := in_add 1 32 e49 i9 (in_c 1 rfl) rfl rfl
              refine g_goto 4 (gd rfl) rfl ?_
              have n4 : (z49).toInt ≤ (u_109_20).toInt := by (first | have a0 := oa4 h1 i9a i9 i49 | ((first | have a0 := in_u h1 | (have a0 := h1; unfold In at a0)); (first | have a1 := in_u i9a | (have a1 := i9a; unfold In at a1)); (first | have a2 := in_u i9 | (have a2 := i9; unfold In at a2)); (first | have a3 := in_u i49 | (have a3 := i49; unfold In at a3)))); have a4 := t_add e49 i9 (in_c 1 rfl) rfl; (first | have a5 := in_u ((in_c 1 rfl)) | (have a5 := (in_c 1 rfl); unfold In at a5)); omega
              have n4a : BAR s (x1).toNatClampNeg (z49).toInt (z47) := by exact bar_no g4_0 (by (first | have a0 := oa4 h1 i9a i9 i49 | ((first | have a0 := in_u h1 | (have a0 := h1; unfold In at a0)); (first | have a1 := in_u i9a | (have a1 := i9a; unfold In at a1)); (first | have a2 := in_u i9 | (have a2 := i9; unfold In at a2)); (first | have a3 := in_u i49 | (have a3 := i49; unfold In at a3)))); have a4 := t_add e49 i9 (in_c 1 rfl) rfl; (first | have a5 := in_u ((in_c 1 rfl)) | (have a5 := (in_c 1 rfl); unfold In at a5)); omega) (by (first | have a0 := oa4 h1 i9a i9 i49 | ((first | have a0 := in_u h1 | (have a0 := h1; unfold In at a0)); (first | have a1 := in_u i9a | (have a1 := i9a; unfold In at a1)); (first | have a2 := in_u i9 | (have a2 := i9; unfold In at a2)); (first | have a3 := in_u i49 | (have a3 := i49; unfold In at a3)))); have a4 := t_add e49 i9 (in_c 1 rfl) rfl; (first | have a5 := in_u ((in_c 1 rfl)) | (have a5 := (in_c 1 rfl); unfold In at a5)); omega) (fun _ h => by rw [← e31] at h; have hc := c32; omega) e47
              exact gg_w (by first | exact Nat.le_add_right _ _ | exact gw2 | exact gw3 | exact gwe rfl | exact gwf rfl | exact gwg rfl | exact gwh rfl | omega) (gg_f (gf_cons rfl (gf_cons rfl (gf_cons rfl (gf_cons rfl gf_nil)))) (ih4  z47 z49  (in_w 0 32 i49 rfl) n4 n4a (m_up mm4 (t_add e49 i9 (in_c 1 rfl) rfl) (in_w 1 1 (in_c 1 rfl) rfl))))
            · skip
              have i32 := z_ge 0 31 c32 i31 rfl
              refine g_iconst 1 36 (gd rfl) rfl rfl ?_
              refine g_aload_n 37 (gd rfl) rfl rfl ?_
              refine g_getA (q2 := 142) 40 (gd rfl) rfl rfl rfl rfl ?_
              refine g_iload_n 41 (gd rfl) rfl rfl ?_
              refine g_iaload 42 (gd rfl) rfl (n := 32) rfl (in_ix i9 rfl) (fun z41 e41 => ?_)
              have q41 : z31 = z41 := (e31).trans e41.symm
              subst q41
              refine g_ishl 43 (gd rfl) rfl (fun z42 e42 => ?_)
              refine g_goto 47 (gd rfl) rfl ?_
              refine g_ior 48 (gd rfl) rfl (fun z47 e47 => ?_)
              refine g_istore_n 49 (gd rfl) rfl (Nat.le_of_ble_eq_true rfl) ?_
              refine g_iinc 52 (gd rfl) rfl rfl (Nat.le_of_ble_eq_true rfl) (fun z49 e49 => ?_)
              have i49 := in_add 1 32 e49 i9 (in_c 1 rfl) rfl rfl
              refine g_goto 4 (gd rfl) rfl ?_
              have n4 : (z49).toInt ≤ (u_109_20).toInt := by (first | have a0 := oa4 h1 i9a i9 i49 | ((first | have a0 := in_u h1 | (have a0 := h1; unfold In at a0)); (first | have a1 := in_u i9a | (have a1 := i9a; unfold In at a1)); (first | have a2 := in_u i9 | (have a2 := i9; unfold In at a2)); (first | have a3 := in_u i49 | (have a3 := i49; unfold In at a3)))); have a4 := t_add e49 i9 (in_c 1 rfl) rfl; (first | have a5 := in_u ((in_c 1 rfl)) | (have a5 := (in_c 1 rfl); unfold In at a5)); omega
              have n4a : BAR s (x1).toNatClampNeg (z49).toInt (z47) := by exact bar_yes g4_0 (by (first | have a0 := oa4 h1 i9a i9 i49 | ((first | have a0 := in_u h1 | (have a0 := h1; unfold In at a0)); (first | have a1 := in_u i9a | (have a1 := i9a; unfold In at a1)); (first | have a2 := in_u i9 | (have a2 := i9; unfold In at a2)); (first | have a3 := in_u i49 | (have a3 := i49; unfold In at a3)))); have a4 := t_add e49 i9 (in_c 1 rfl) rfl; (first | have a5 := in_u ((in_c 1 rfl)) | (have a5 := (in_c 1 rfl); unfold In at a5)); omega) (by (first | have a0 := oa4 h1 i9a i9 i49 | ((first | have a0 := in_u h1 | (have a0 := h1; unfold In at a0)); (first | have a1 := in_u i9a | (have a1 := i9a; unfold In at a1)); (first | have a2 := in_u i9 | (have a2 := i9; unfold In at a2)); (first | have a3 := in_u i49 | (have a3 := i49; unfold In at a3)))); have a4 := t_add e49 i9 (in_c 1 rfl) rfl; (first | have a5 := in_u ((in_c 1 rfl)) | (have a5 := (in_c 1 rfl); unfold In at a5)); omega) (by rw [← e18]; exact bt_yes e20x2 e20x4 i9 c20x6) e31 i32 e42 e47
              exact gg_w (by first | exact Nat.le_add_right _ _ | exact gw2 | exact gw3 | exact gwe rfl | exact gwf rfl | exact gwg rfl | exact gwh rfl | omega) (gg_f (gf_cons rfl (gf_cons rfl (gf_cons rfl (gf_cons rfl gf_nil)))) (ih4  z47 z49  (in_w 0 32 i49 rfl) n4 n4a (m_up mm4 (t_add e49 i9 (in_c 1 rfl) rfl) (in_w 1 1 (in_c 1 rfl) rfl))))
  refine g_enter2 (k := 339) (N := 30601) (by first | exact dq1 hd rfl | exact dq0 hd rfl | exact dq2 hd rfl | exact dq3 hd rfl | omega) rfl (Nat.le_of_ble_eq_true rfl) ?_
  refine g_iconst 0 1 (gd rfl) rfl rfl ?_
  refine g_istore_n 2 (gd rfl) rfl (Nat.le_of_ble_eq_true rfl) ?_
  refine g_iconst 0 3 (gd rfl) rfl rfl ?_
  refine g_istore_n 4 (gd rfl) rfl (Nat.le_of_ble_eq_true rfl) ?_
  have n4 : ((Int32.ofInt 0)).toInt ≤ (u_109_20).toInt := by (first | have a0 := oa3 ro_109_20 h1 ((in_c 0 rfl)) | ((first | have a0 := in_u ro_109_20 | (have a0 := ro_109_20; unfold In at a0)); (first | have a1 := in_u h1 | (have a1 := h1; unfold In at a1)); (first | have a2 := in_u ((in_c 0 rfl)) | (have a2 := (in_c 0 rfl); unfold In at a2)))); omega
  have n4a : BAR s (x1).toNatClampNeg ((Int32.ofInt 0)).toInt ((Int32.ofInt 0)) := by exact bar_0
  exact gg_w (by first | exact Nat.le_of_ble_eq_true rfl | omega) (gg_f (gf_cons rfl (gf_cons rfl (gf_cons rfl (gf_cons rfl gf_nil)))) (ct4 33  (Int32.ofInt 0) (Int32.ofInt 0)  (in_w 0 32 (in_c 0 rfl) rfl) n4 n4a (m_in 33 (in_w 0 32 (in_c 0 rfl) rfl) rfl)))

/-- GraphHouseModel.tightest -/
theorem k_340 {Z : AmZ} {A : Nat → Nat} {s : GS} {ex : va_W} {d : Nat} {X : AmX} {x1 : Int32} (hd : 4 ≤ d) (hI : Inv s) (h1 : In x1 0 200) : GC Z d 340 [.ref (A 109), .int x1] (WW Z A s ++ ex) 0 0 (fun v u => ∃ z : Int32, v = some (.int z) ∧ u = WW Z A s ++ ex ∧ In z (-1) 31 ∧ (TGT s (s.2.2.1 109 20).toInt (z))) X := by
  intro post xp hP hX
  obtain ⟨u_109_20, e_109_20⟩ : ∃ w, w = s.2.2.1 109 20 := ⟨_, rfl⟩
  have ro_109_20 := inv_F hI 0 32 rfl e_109_20
  obtain ⟨u_109_53, e_109_53⟩ : ∃ w, w = s.2.2.1 109 53 := ⟨_, rfl⟩
  have ct10 : ∀ (k10 : Nat) (y10_2 : Int32) (y10_3 : Int32) (y10_4 : Int32) (y10_5 : Int32), (In y10_2 (-1) 31) → (In y10_3 (-32) 200) → (In y10_4 0 32) → (In y10_5 0 32) → ((y10_5).toInt ≤ (u_109_20).toInt) → (TGT s (y10_5).toInt (y10_2)) → 32 - (y10_5).toInt < (k10 : Int) → GG Z (d - 1) 340 post (gx xp) (1 + k10 * 900) 10 (fun j => xlook j [(0, .ref (A 109)), (1, .int x1), (2, .int y10_2), (3, .int y10_3), (4, .int y10_4), (5, .int y10_5)]) [] (WW Z A s ++ ex) 0 0 := by
    intro k10
    induction k10 with
    | zero => intro y10_2 y10_3 y10_4 y10_5 j10_2 j10_3 j10_4 j10_5 n10_0 g10_0 mm10; exact m_no mm10 j10_5 rfl
    | succ k10 ih10 =>
      intro y10_2 y10_3 y10_4 y10_5 j10_2 j10_3 j10_4 j10_5 n10_0 g10_0 mm10
      refine gg_w (M := 1 + k10 * 900 + 900) gws ?_
      refine g_iload 12 (gd rfl) rfl rfl ?_
      refine g_aload_n 13 (gd rfl) rfl rfl ?_
      refine g_getI 16 (gd rfl) rfl rfl rfl (fun z13 e13 => ?_)
      have q13 : u_109_20 = z13 := (e_109_20).trans e13.symm
      subst q13
      refine g_cmp_ge 19 105 (gd rfl) rfl rfl (fun c16 => ?_) (fun c16 => ?_)
      · skip
        refine g_iload_n 106 (gd rfl) rfl rfl ?_
        have n106 : TGT s (s.2.2.1 109 20).toInt (y10_2) := by have h := g10_0; rw [show y10_5.toInt = (s.2.2.1 109 20).toInt from (by rw [← e_109_20]; (first | have a0 := oa6 h1 ro_109_20 j10_5 j10_4 j10_3 j10_2 | ((first | have a0 := in_u h1 | (have a0 := h1; unfold In at a0)); (first | have a1 := in_u ro_109_20 | (have a1 := ro_109_20; unfold In at a1)); (first | have a2 := in_u j10_5 | (have a2 := j10_5; unfold In at a2)); (first | have a3 := in_u j10_4 | (have a3 := j10_4; unfold In at a3)); (first | have a4 := in_u j10_3 | (have a4 := j10_3; unfold In at a4)); (first | have a5 := in_u j10_2 | (have a5 := j10_2; unfold In at a5)))); omega)] at h; exact h
        exact g_ireturn (gd rfl) rfl rfl (hP _ _ ⟨y10_2, rfl, rfl, in_w (-1) 31 j10_2 rfl, n106⟩)
      · skip
        have i16 := r_lt1 0 31 c16 j10_5 ro_109_20 rfl
        have i16a := r_lt2 1 32 c16 j10_5 ro_109_20 rfl
        refine g_aload_n 20 (gd rfl) rfl rfl ?_
        refine g_getI 23 (gd rfl) rfl rfl rfl (fun z20 e20 => ?_)
        have q20 : u_109_53 = z20 := (e_109_53).trans e20.symm
        subst q20
        refine g_iload 25 (gd rfl) rfl rfl ?_
        refine g_calls (As := [.int u_109_53, .int y10_5]) (r := []) 28 (gd rfl) rfl rfl rfl rfl rfl (Nat.le_of_ble_eq_true rfl) (mc := 0) (ms := 0) (Nat.zero_le _) (Nat.zero_le _) (P := fun v u => _) ?_ (fun v u h => h)
        intro po25 xx25 hp25 hx25
        refine g_enter2 (k := 311) (N := 300) (by first | exact dq1 hd rfl | exact dq0 hd rfl | exact dq2 hd rfl | exact dq3 hd rfl | omega) rfl (Nat.le_of_ble_eq_true rfl) ?_
        refine g_iload_n 1 (gd rfl) rfl rfl ?_
        refine g_iload_n 2 (gd rfl) rfl rfl ?_
        refine g_ishr 3 (gd rfl) rfl (fun z25x2 e25x2 => ?_)
        refine g_iconst 1 4 (gd rfl) rfl rfl ?_
        refine g_iand 5 (gd rfl) rfl (fun z25x4 e25x4 => ?_)
        have i25x4 := in_and2 e25x4 (in_c 1 rfl) rfl
        refine g_iconst 1 6 (gd rfl) rfl rfl ?_
        refine g_cmp_ne 9 13 (gd rfl) rfl rfl (fun c25x6 => ?_) (fun c25x6 => ?_)
        · skip
          have i25x6 := r_ne1 0 0 c25x6 i25x4 (in_c 1 rfl) rfl
          refine g_iconst 0 14 (gd rfl) rfl rfl ?_
          refine g_ireturn (gd rfl) rfl (nb01 (in_w 0 1 (in_c 0 rfl) rfl)) (hp25 _ _ ?_)
          show GG _ _ _ _ _ _ _ _ [.int (Int32.ofInt 0)] _ _ _
          refine g_if_eq 31 99 (gd rfl) rfl rfl (fun c28 => ?_) (fun c28 => ?_)
          · skip
            refine g_iinc 102 (gd rfl) rfl rfl (Nat.le_of_ble_eq_true rfl) (fun z99 e99 => ?_)
            have i99 := in_add 1 32 e99 i16 (in_c 1 rfl) rfl rfl
            refine g_goto 10 (gd rfl) rfl ?_
            have n10 : (z99).toInt ≤ (u_109_20).toInt := by (first | have a0 := oa7 h1 i16a i16 j10_4 j10_3 j10_2 i99 | ((first | have a0 := in_u h1 | (have a0 := h1; unfold In at a0)); (first | have a1 := in_u i16a | (have a1 := i16a; unfold In at a1)); (first | have a2 := in_u i16 | (have a2 := i16; unfold In at a2)); (first | have a3 := in_u j10_4 | (have a3 := j10_4; unfold In at a3)); (first | have a4 := in_u j10_3 | (have a4 := j10_3; unfold In at a4)); (first | have a5 := in_u j10_2 | (have a5 := j10_2; unfold In at a5)); (first | have a6 := in_u i99 | (have a6 := i99; unfold In at a6)))); have a7 := t_add e99 i16 (in_c 1 rfl) rfl; (first | have a8 := in_u ((in_c 1 rfl)) | (have a8 := (in_c 1 rfl); unfold In at a8)); omega
            have n10a : TGT s (z99).toInt (y10_2) := by exact tgt_no g10_0 (by (first | have a0 := oa7 h1 i16a i16 j10_4 j10_3 j10_2 i99 | ((first | have a0 := in_u h1 | (have a0 := h1; unfold In at a0)); (first | have a1 := in_u i16a | (have a1 := i16a; unfold In at a1)); (first | have a2 := in_u i16 | (have a2 := i16; unfold In at a2)); (first | have a3 := in_u j10_4 | (have a3 := j10_4; unfold In at a3)); (first | have a4 := in_u j10_3 | (have a4 := j10_3; unfold In at a4)); (first | have a5 := in_u j10_2 | (have a5 := j10_2; unfold In at a5)); (first | have a6 := in_u i99 | (have a6 := i99; unfold In at a6)))); have a7 := t_add e99 i16 (in_c 1 rfl) rfl; (first | have a8 := in_u ((in_c 1 rfl)) | (have a8 := (in_c 1 rfl); unfold In at a8)); omega) (by (first | have a0 := oa7 h1 i16a i16 j10_4 j10_3 j10_2 i99 | ((first | have a0 := in_u h1 | (have a0 := h1; unfold In at a0)); (first | have a1 := in_u i16a | (have a1 := i16a; unfold In at a1)); (first | have a2 := in_u i16 | (have a2 := i16; unfold In at a2)); (first | have a3 := in_u j10_4 | (have a3 := j10_4; unfold In at a3)); (first | have a4 := in_u j10_3 | (have a4 := j10_3; unfold In at a4)); (first | have a5 := in_u j10_2 | (have a5 := j10_2; unfold In at a5)); (first | have a6 := in_u i99 | (have a6 := i99; unfold In at a6)))); have a7 := t_add e99 i16 (in_c 1 rfl) rfl; (first | have a8 := in_u ((in_c 1 rfl)) | (have a8 := (in_c 1 rfl); unfold In at a8)); omega) (fun h => by have hb := bt_no e25x2 e25x4 i16 c25x6; rw [← e_109_53, hb] at h; cases h)
            exact gg_w (by first | exact Nat.le_add_right _ _ | exact gw2 | exact gw3 | exact gwe rfl | exact gwf rfl | exact gwg rfl | exact gwh rfl | omega) (gg_f (gf_cons rfl (gf_cons rfl (gf_cons rfl (gf_cons rfl (gf_cons rfl (gf_cons rfl gf_nil)))))) (ih10  y10_2 y10_3 y10_4 z99  (in_w (-1) 31 j10_2 rfl) (in_w (-32) 200 j10_3 rfl) (in_w 0 32 j10_4 rfl) (in_w 0 32 i99 rfl) n10 n10a (m_up mm10 (t_add e99 i16 (in_c 1 rfl) rfl) (in_w 1 1 (in_c 1 rfl) rfl))))
          · skip
            exact zn_ne c28 (in_c 0 rfl) rfl
        · skip
          have i25x6 := r_eq1 1 1 c25x6 i25x4 (in_c 1 rfl) rfl
          refine g_iconst 1 10 (gd rfl) rfl rfl ?_
          refine g_goto 14 (gd rfl) rfl ?_
          refine g_ireturn (gd rfl) rfl (nb01 (in_w 0 1 (in_c 1 rfl) rfl)) (hp25 _ _ ?_)
          show GG _ _ _ _ _ _ _ _ [.int (Int32.ofInt 1)] _ _ _
          refine g_if_eq 31 99 (gd rfl) rfl rfl (fun c28 => ?_) (fun c28 => ?_)
          · skip
            exact zn_eq c28 (in_c 1 rfl) rfl
          · skip
            refine g_aload_n 32 (gd rfl) rfl rfl ?_
            refine g_getA (q2 := 142) 35 (gd rfl) rfl rfl rfl rfl ?_
            refine g_iload 37 (gd rfl) rfl rfl ?_
            refine g_iaload 38 (gd rfl) rfl (n := 32) rfl (in_ix i16 rfl) (fun z37 e37 => ?_)
            have i37 := inv_I hI (n := 32) (t := 0) (-2147483648) 31 rfl (in_ix i16 rfl) rfl e37
            refine g_if_ge 41 99 (gd rfl) rfl rfl (fun c38 => ?_) (fun c38 => ?_)
            · skip
              have i38 := z_ge 0 31 c38 i37 rfl
              refine g_iinc 102 (gd rfl) rfl rfl (Nat.le_of_ble_eq_true rfl) (fun z99 e99 => ?_)
              have i99 := in_add 1 32 e99 i16 (in_c 1 rfl) rfl rfl
              refine g_goto 10 (gd rfl) rfl ?_
              have n10 : (z99).toInt ≤ (u_109_20).toInt := by (first | have a0 := oa7 h1 i16a i16 j10_4 j10_3 j10_2 i99 | ((first | have a0 := in_u h1 | (have a0 := h1; unfold In at a0)); (first | have a1 := in_u i16a | (have a1 := i16a; unfold In at a1)); (first | have a2 := in_u i16 | (have a2 := i16; unfold In at a2)); (first | have a3 := in_u j10_4 | (have a3 := j10_4; unfold In at a3)); (first | have a4 := in_u j10_3 | (have a4 := j10_3; unfold In at a4)); (first | have a5 := in_u j10_2 | (have a5 := j10_2; unfold In at a5)); (first | have a6 := in_u i99 | (have a6 := i99; unfold In at a6)))); have a7 := t_add e99 i16 (in_c 1 rfl) rfl; (first | have a8 := in_u ((in_c 1 rfl)) | (have a8 := (in_c 1 rfl); unfold In at a8)); omega
              have n10a : TGT s (z99).toInt (y10_2) := by exact tgt_no g10_0 (by (first | have a0 := oa7 h1 i16a i16 j10_4 j10_3 j10_2 i99 | ((first | have a0 := in_u h1 | (have a0 := h1; unfold In at a0)); (first | have a1 := in_u i16a | (have a1 := i16a; unfold In at a1)); (first | have a2 := in_u i16 | (have a2 := i16; unfold In at a2)); (first | have a3 := in_u j10_4 | (have a3 := j10_4; unfold In at a3)); (first | have a4 := in_u j10_3 | (have a4 := j10_3; unfold In at a4)); (first | have a5 := in_u j10_2 | (have a5 := j10_2; unfold In at a5)); (first | have a6 := in_u i99 | (have a6 := i99; unfold In at a6)))); have a7 := t_add e99 i16 (in_c 1 rfl) rfl; (first | have a8 := in_u ((in_c 1 rfl)) | (have a8 := (in_c 1 rfl); unfold In at a8)); omega) (by (first | have a0 := oa7 h1 i16a i16 j10_4 j10_3 j10_2 i99 | ((first | have a0 := in_u h1 | (have a0 := h1; unfold In at a0)); (first | have a1 := in_u i16a | (have a1 := i16a; unfold In at a1)); (first | have a2 := in_u i16 | (have a2 := i16; unfold In at a2)); (first | have a3 := in_u j10_4 | (have a3 := j10_4; unfold In at a3)); (first | have a4 := in_u j10_3 | (have a4 := j10_3; unfold In at a4)); (first | have a5 := in_u j10_2 | (have a5 := j10_2; unfold In at a5)); (first | have a6 := in_u i99 | (have a6 := i99; unfold In at a6)))); have a7 := t_add e99 i16 (in_c 1 rfl) rfl; (first | have a8 := in_u ((in_c 1 rfl)) | (have a8 := (in_c 1 rfl); unfold In at a8)); omega) (fun _ => by rw [← e37]; have hc := c38; omega)
              exact gg_w (by first | exact Nat.le_add_right _ _ | exact gw2 | exact gw3 | exact gwe rfl | exact gwf rfl | exact gwg rfl | exact gwh rfl | omega) (gg_f (gf_cons rfl (gf_cons rfl (gf_cons rfl (gf_cons rfl (gf_cons rfl (gf_cons rfl gf_nil)))))) (ih10  y10_2 y10_3 y10_4 z99  (in_w (-1) 31 j10_2 rfl) (in_w (-32) 200 j10_3 rfl) (in_w 0 32 j10_4 rfl) (in_w 0 32 i99 rfl) n10 n10a (m_up mm10 (t_add e99 i16 (in_c 1 rfl) rfl) (in_w 1 1 (in_c 1 rfl) rfl))))
            · skip
              have i38 := z_lt (-2147483648) (-1) c38 i37 rfl
              refine g_iload_n 42 (gd rfl) rfl rfl ?_
              refine g_aload_n 43 (gd rfl) rfl rfl ?_
              refine g_iload 45 (gd rfl) rfl rfl ?_
              refine g_callv (X := _) (As := [.int y10_5]) (r := [.int x1]) (b := A 109) (q := 109) 48 (gd rfl) rfl rfl rfl rfl rfl (ww_o rfl) (Nat.le_of_ble_eq_true rfl) (Nat.zero_le _) (Nat.zero_le _) (k_339 (by first | exact dq1 hd rfl | exact dq0 hd rfl | exact dq2 hd rfl | exact dq3 hd rfl | omega) hI (in_w 0 31 i16 rfl)) (fun e u h => h) (fun v u h => ?_)
              obtain ⟨z45, rfl, rfl, i45, p45⟩ := h
              show GG _ _ _ _ _ _ _ _ [.int z45, .int x1] _ _ _
              refine g_calls (As := [.int z45]) (r := [.int x1]) 51 (gd rfl) rfl rfl rfl rfl rfl (Nat.le_of_ble_eq_true rfl) (Nat.zero_le _) (Nat.zero_le _) (k_336 (by first | exact dq1 hd rfl | exact dq0 hd rfl | exact dq2 hd rfl | exact dq3 hd rfl | omega) hI ) (fun v u h => ?_)
              obtain ⟨z48, rfl, rfl, i48, p48⟩ := h
              show GG _ _ _ _ _ _ _ _ [.int z48, .int x1] _ _ _
              refine g_isub 52 (gd rfl) rfl (fun z51 e51 => ?_)
              have i51 := in_sub (-32) 200 e51 h1 i48 rfl rfl
              refine g_istore 54 (gd rfl) rfl (Nat.le_of_ble_eq_true rfl) ?_
              refine g_aload_n 55 (gd rfl) rfl rfl ?_
              refine g_getA (q2 := 138) 58 (gd rfl) rfl rfl rfl rfl ?_
              refine g_iload 60 (gd rfl) rfl rfl ?_
              refine g_iaload 61 (gd rfl) rfl (n := 32) rfl (in_ix i16 rfl) (fun z60 e60 => ?_)
              refine g_calls (As := [.int z60]) (r := []) 64 (gd rfl) rfl rfl rfl rfl rfl (Nat.le_of_ble_eq_true rfl) (Nat.zero_le _) (Nat.zero_le _) (k_336 (by first | exact dq1 hd rfl | exact dq0 hd rfl | exact dq2 hd rfl | exact dq3 hd rfl | omega) hI ) (fun v u h => ?_)
              obtain ⟨z61, rfl, rfl, i61, p61⟩ := h
              show GG _ _ _ _ _ _ _ _ [.int z61] _ _ _
              refine g_istore 66 (gd rfl) rfl (Nat.le_of_ble_eq_true rfl) ?_
              refine g_iload_n 67 (gd rfl) rfl rfl ?_
              refine g_if_lt 70 89 (gd rfl) rfl rfl (fun c67 => ?_) (fun c67 => ?_)
              · skip
                have i67 := z_lt (-1) (-1) c67 j10_2 rfl
                refine g_iload 91 (gd rfl) rfl rfl ?_
                refine g_istore_n 92 (gd rfl) rfl (Nat.le_of_ble_eq_true rfl) ?_
                refine g_iload 94 (gd rfl) rfl rfl ?_
                refine g_istore_n 95 (gd rfl) rfl (Nat.le_of_ble_eq_true rfl) ?_
                refine g_iload 97 (gd rfl) rfl rfl ?_
                refine g_istore 99 (gd rfl) rfl (Nat.le_of_ble_eq_true rfl) ?_
                refine g_iinc 102 (gd rfl) rfl rfl (Nat.le_of_ble_eq_true rfl) (fun z99 e99 => ?_)
                have i99 := in_add 1 32 e99 i16 (in_c 1 rfl) rfl rfl
                refine g_goto 10 (gd rfl) rfl ?_
                have n10 : (z99).toInt ≤ (u_109_20).toInt := by (first | have a0 := oa8 h1 i16a i16 j10_4 j10_3 i67 i61 i51 | ((first | have a0 := in_u h1 | (have a0 := h1; unfold In at a0)); (first | have a1 := in_u i16a | (have a1 := i16a; unfold In at a1)); (first | have a2 := in_u i16 | (have a2 := i16; unfold In at a2)); (first | have a3 := in_u j10_4 | (have a3 := j10_4; unfold In at a3)); (first | have a4 := in_u j10_3 | (have a4 := j10_3; unfold In at a4)); (first | have a5 := in_u i67 | (have a5 := i67; unfold In at a5)); (first | have a6 := in_u i61 | (have a6 := i61; unfold In at a6)); (first | have a7 := in_u i51 | (have a7 := i51; unfold In at a7)))); have a8 := t_sub e51 h1 i48 rfl; (first | have a9 := oa2 i48 i99 | ((first | have a9 := in_u i48 | (have a9 := i48; unfold In at a9)); (first | have a10 := in_u i99 | (have a10 := i99; unfold In at a10)))); have a11 := t_add e99 i16 (in_c 1 rfl) rfl; (first | have a12 := in_u ((in_c 1 rfl)) | (have a12 := (in_c 1 rfl); unfold In at a12)); omega
                have n10a : TGT s (z99).toInt (y10_5) := by first | exact tgt_k g10_0 (by (first | have a0 := oa8 h1 i16a i16 j10_4 j10_3 i67 i61 i51 | ((first | have a0 := in_u h1 | (have a0 := h1; unfold In at a0)); (first | have a1 := in_u i16a | (have a1 := i16a; unfold In at a1)); (first | have a2 := in_u i16 | (have a2 := i16; unfold In at a2)); (first | have a3 := in_u j10_4 | (have a3 := j10_4; unfold In at a3)); (first | have a4 := in_u j10_3 | (have a4 := j10_3; unfold In at a4)); (first | have a5 := in_u i67 | (have a5 := i67; unfold In at a5)); (first | have a6 := in_u i61 | (have a6 := i61; unfold In at a6)); (first | have a7 := in_u i51 | (have a7 := i51; unfold In at a7)))); have a8 := t_sub e51 h1 i48 rfl; (first | have a9 := oa2 i48 i99 | ((first | have a9 := in_u i48 | (have a9 := i48; unfold In at a9)); (first | have a10 := in_u i99 | (have a10 := i99; unfold In at a10)))); have a11 := t_add e99 i16 (in_c 1 rfl) rfl; (first | have a12 := in_u ((in_c 1 rfl)) | (have a12 := (in_c 1 rfl); unfold In at a12)); omega) (by (first | have a0 := oa8 h1 i16a i16 j10_4 j10_3 i67 i61 i51 | ((first | have a0 := in_u h1 | (have a0 := h1; unfold In at a0)); (first | have a1 := in_u i16a | (have a1 := i16a; unfold In at a1)); (first | have a2 := in_u i16 | (have a2 := i16; unfold In at a2)); (first | have a3 := in_u j10_4 | (have a3 := j10_4; unfold In at a3)); (first | have a4 := in_u j10_3 | (have a4 := j10_3; unfold In at a4)); (first | have a5 := in_u i67 | (have a5 := i67; unfold In at a5)); (first | have a6 := in_u i61 | (have a6 := i61; unfold In at a6)); (first | have a7 := in_u i51 | (have a7 := i51; unfold In at a7)))); have a8 := t_sub e51 h1 i48 rfl; (first | have a9 := oa2 i48 i99 | ((first | have a9 := in_u i48 | (have a9 := i48; unfold In at a9)); (first | have a10 := in_u i99 | (have a10 := i99; unfold In at a10)))); have a11 := t_add e99 i16 (in_c 1 rfl) rfl; (first | have a12 := in_u ((in_c 1 rfl)) | (have a12 := (in_c 1 rfl); unfold In at a12)); omega) | exact tgt_c (by (first | have a0 := oa8 h1 i16a i16 j10_4 j10_3 i67 i61 i51 | ((first | have a0 := in_u h1 | (have a0 := h1; unfold In at a0)); (first | have a1 := in_u i16a | (have a1 := i16a; unfold In at a1)); (first | have a2 := in_u i16 | (have a2 := i16; unfold In at a2)); (first | have a3 := in_u j10_4 | (have a3 := j10_4; unfold In at a3)); (first | have a4 := in_u j10_3 | (have a4 := j10_3; unfold In at a4)); (first | have a5 := in_u i67 | (have a5 := i67; unfold In at a5)); (first | have a6 := in_u i61 | (have a6 := i61; unfold In at a6)); (first | have a7 := in_u i51 | (have a7 := i51; unfold In at a7)))); have a8 := t_sub e51 h1 i48 rfl; (first | have a9 := oa2 i48 i99 | ((first | have a9 := in_u i48 | (have a9 := i48; unfold In at a9)); (first | have a10 := in_u i99 | (have a10 := i99; unfold In at a10)))); have a11 := t_add e99 i16 (in_c 1 rfl) rfl; (first | have a12 := in_u ((in_c 1 rfl)) | (have a12 := (in_c 1 rfl); unfold In at a12)); omega) (by (first | have a0 := oa8 h1 i16a i16 j10_4 j10_3 i67 i61 i51 | ((first | have a0 := in_u h1 | (have a0 := h1; unfold In at a0)); (first | have a1 := in_u i16a | (have a1 := i16a; unfold In at a1)); (first | have a2 := in_u i16 | (have a2 := i16; unfold In at a2)); (first | have a3 := in_u j10_4 | (have a3 := j10_4; unfold In at a3)); (first | have a4 := in_u j10_3 | (have a4 := j10_3; unfold In at a4)); (first | have a5 := in_u i67 | (have a5 := i67; unfold In at a5)); (first | have a6 := in_u i61 | (have a6 := i61; unfold In at a6)); (first | have a7 := in_u i51 | (have a7 := i51; unfold In at a7)))); have a8 := t_sub e51 h1 i48 rfl; (first | have a9 := oa2 i48 i99 | ((first | have a9 := in_u i48 | (have a9 := i48; unfold In at a9)); (first | have a10 := in_u i99 | (have a10 := i99; unfold In at a10)))); have a11 := t_add e99 i16 (in_c 1 rfl) rfl; (first | have a12 := in_u ((in_c 1 rfl)) | (have a12 := (in_c 1 rfl); unfold In at a12)); omega) (by rw [← e_109_53]; exact bt_yes e25x2 e25x4 i16 c25x6) (by rw [← e37]; exact c38)
                exact gg_w (by first | exact Nat.le_add_right _ _ | exact gw2 | exact gw3 | exact gwe rfl | exact gwf rfl | exact gwg rfl | exact gwh rfl | omega) (gg_f (gf_cons rfl (gf_cons rfl (gf_cons rfl (gf_cons rfl (gf_cons rfl (gf_cons rfl gf_nil)))))) (ih10  y10_5 z51 z61 z99  (in_w (-1) 31 i16 rfl) (in_w (-32) 200 i51 rfl) (in_w 0 32 i61 rfl) (in_w 0 32 i99 rfl) n10 n10a (m_up mm10 (t_add e99 i16 (in_c 1 rfl) rfl) (in_w 1 1 (in_c 1 rfl) rfl))))
              · skip
                have i67 := z_ge 0 31 c67 j10_2 rfl
                refine g_iload 72 (gd rfl) rfl rfl ?_
                refine g_iload_n 73 (gd rfl) rfl rfl ?_
                refine g_cmp_lt 76 89 (gd rfl) rfl rfl (fun c73 => ?_) (fun c73 => ?_)
                · skip
                  have i73 := r_lt1 (-32) 199 c73 i51 j10_3 rfl
                  have i73a := r_lt2 (-31) 200 c73 i51 j10_3 rfl
                  refine g_iload 91 (gd rfl) rfl rfl ?_
                  refine g_istore_n 92 (gd rfl) rfl (Nat.le_of_ble_eq_true rfl) ?_
                  refine g_iload 94 (gd rfl) rfl rfl ?_
                  refine g_istore_n 95 (gd rfl) rfl (Nat.le_of_ble_eq_true rfl) ?_
                  refine g_iload 97 (gd rfl) rfl rfl ?_
                  refine g_istore 99 (gd rfl) rfl (Nat.le_of_ble_eq_true rfl) ?_
                  refine g_iinc 102 (gd rfl) rfl rfl (Nat.le_of_ble_eq_true rfl) (fun z99 e99 => ?_)
                  have i99 := in_add 1 32 e99 i16 (in_c 1 rfl) rfl rfl
                  refine g_goto 10 (gd rfl) rfl ?_
                  have n10 : (z99).toInt ≤ (u_109_20).toInt := by (first | have a0 := oa8 h1 i16a i16 j10_4 i73a i67 i61 i73 | ((first | have a0 := in_u h1 | (have a0 := h1; unfold In at a0)); (first | have a1 := in_u i16a | (have a1 := i16a; unfold In at a1)); (first | have a2 := in_u i16 | (have a2 := i16; unfold In at a2)); (first | have a3 := in_u j10_4 | (have a3 := j10_4; unfold In at a3)); (first | have a4 := in_u i73a | (have a4 := i73a; unfold In at a4)); (first | have a5 := in_u i67 | (have a5 := i67; unfold In at a5)); (first | have a6 := in_u i61 | (have a6 := i61; unfold In at a6)); (first | have a7 := in_u i73 | (have a7 := i73; unfold In at a7)))); have a8 := t_sub e51 h1 i48 rfl; (first | have a9 := oa2 i48 i99 | ((first | have a9 := in_u i48 | (have a9 := i48; unfold In at a9)); (first | have a10 := in_u i99 | (have a10 := i99; unfold In at a10)))); have a11 := t_add e99 i16 (in_c 1 rfl) rfl; (first | have a12 := in_u ((in_c 1 rfl)) | (have a12 := (in_c 1 rfl); unfold In at a12)); omega
                  have n10a : TGT s (z99).toInt (y10_5) := by first | exact tgt_k g10_0 (by (first | have a0 := oa8 h1 i16a i16 j10_4 i73a i67 i61 i73 | ((first | have a0 := in_u h1 | (have a0 := h1; unfold In at a0)); (first | have a1 := in_u i16a | (have a1 := i16a; unfold In at a1)); (first | have a2 := in_u i16 | (have a2 := i16; unfold In at a2)); (first | have a3 := in_u j10_4 | (have a3 := j10_4; unfold In at a3)); (first | have a4 := in_u i73a | (have a4 := i73a; unfold In at a4)); (first | have a5 := in_u i67 | (have a5 := i67; unfold In at a5)); (first | have a6 := in_u i61 | (have a6 := i61; unfold In at a6)); (first | have a7 := in_u i73 | (have a7 := i73; unfold In at a7)))); have a8 := t_sub e51 h1 i48 rfl; (first | have a9 := oa2 i48 i99 | ((first | have a9 := in_u i48 | (have a9 := i48; unfold In at a9)); (first | have a10 := in_u i99 | (have a10 := i99; unfold In at a10)))); have a11 := t_add e99 i16 (in_c 1 rfl) rfl; (first | have a12 := in_u ((in_c 1 rfl)) | (have a12 := (in_c 1 rfl); unfold In at a12)); omega) (by (first | have a0 := oa8 h1 i16a i16 j10_4 i73a i67 i61 i73 | ((first | have a0 := in_u h1 | (have a0 := h1; unfold In at a0)); (first | have a1 := in_u i16a | (have a1 := i16a; unfold In at a1)); (first | have a2 := in_u i16 | (have a2 := i16; unfold In at a2)); (first | have a3 := in_u j10_4 | (have a3 := j10_4; unfold In at a3)); (first | have a4 := in_u i73a | (have a4 := i73a; unfold In at a4)); (first | have a5 := in_u i67 | (have a5 := i67; unfold In at a5)); (first | have a6 := in_u i61 | (have a6 := i61; unfold In at a6)); (first | have a7 := in_u i73 | (have a7 := i73; unfold In at a7)))); have a8 := t_sub e51 h1 i48 rfl; (first | have a9 := oa2 i48 i99 | ((first | have a9 := in_u i48 | (have a9 := i48; unfold In at a9)); (first | have a10 := in_u i99 | (have a10 := i99; unfold In at a10)))); have a11 := t_add e99 i16 (in_c 1 rfl) rfl; (first | have a12 := in_u ((in_c 1 rfl)) | (have a12 := (in_c 1 rfl); unfold In at a12)); omega) | exact tgt_c (by (first | have a0 := oa8 h1 i16a i16 j10_4 i73a i67 i61 i73 | ((first | have a0 := in_u h1 | (have a0 := h1; unfold In at a0)); (first | have a1 := in_u i16a | (have a1 := i16a; unfold In at a1)); (first | have a2 := in_u i16 | (have a2 := i16; unfold In at a2)); (first | have a3 := in_u j10_4 | (have a3 := j10_4; unfold In at a3)); (first | have a4 := in_u i73a | (have a4 := i73a; unfold In at a4)); (first | have a5 := in_u i67 | (have a5 := i67; unfold In at a5)); (first | have a6 := in_u i61 | (have a6 := i61; unfold In at a6)); (first | have a7 := in_u i73 | (have a7 := i73; unfold In at a7)))); have a8 := t_sub e51 h1 i48 rfl; (first | have a9 := oa2 i48 i99 | ((first | have a9 := in_u i48 | (have a9 := i48; unfold In at a9)); (first | have a10 := in_u i99 | (have a10 := i99; unfold In at a10)))); have a11 := t_add e99 i16 (in_c 1 rfl) rfl; (first | have a12 := in_u ((in_c 1 rfl)) | (have a12 := (in_c 1 rfl); unfold In at a12)); omega) (by (first | have a0 := oa8 h1 i16a i16 j10_4 i73a i67 i61 i73 | ((first | have a0 := in_u h1 | (have a0 := h1; unfold In at a0)); (first | have a1 := in_u i16a | (have a1 := i16a; unfold In at a1)); (first | have a2 := in_u i16 | (have a2 := i16; unfold In at a2)); (first | have a3 := in_u j10_4 | (have a3 := j10_4; unfold In at a3)); (first | have a4 := in_u i73a | (have a4 := i73a; unfold In at a4)); (first | have a5 := in_u i67 | (have a5 := i67; unfold In at a5)); (first | have a6 := in_u i61 | (have a6 := i61; unfold In at a6)); (first | have a7 := in_u i73 | (have a7 := i73; unfold In at a7)))); have a8 := t_sub e51 h1 i48 rfl; (first | have a9 := oa2 i48 i99 | ((first | have a9 := in_u i48 | (have a9 := i48; unfold In at a9)); (first | have a10 := in_u i99 | (have a10 := i99; unfold In at a10)))); have a11 := t_add e99 i16 (in_c 1 rfl) rfl; (first | have a12 := in_u ((in_c 1 rfl)) | (have a12 := (in_c 1 rfl); unfold In at a12)); omega) (by rw [← e_109_53]; exact bt_yes e25x2 e25x4 i16 c25x6) (by rw [← e37]; exact c38)
                  exact gg_w (by first | exact Nat.le_add_right _ _ | exact gw2 | exact gw3 | exact gwe rfl | exact gwf rfl | exact gwg rfl | exact gwh rfl | omega) (gg_f (gf_cons rfl (gf_cons rfl (gf_cons rfl (gf_cons rfl (gf_cons rfl (gf_cons rfl gf_nil)))))) (ih10  y10_5 z51 z61 z99  (in_w (-1) 31 i16 rfl) (in_w (-32) 200 i73 rfl) (in_w 0 32 i61 rfl) (in_w 0 32 i99 rfl) n10 n10a (m_up mm10 (t_add e99 i16 (in_c 1 rfl) rfl) (in_w 1 1 (in_c 1 rfl) rfl))))
                · skip
                  refine g_iload 78 (gd rfl) rfl rfl ?_
                  refine g_iload_n 79 (gd rfl) rfl rfl ?_
                  refine g_cmp_ne 82 99 (gd rfl) rfl rfl (fun c79 => ?_) (fun c79 => ?_)
                  · skip
                    refine g_iinc 102 (gd rfl) rfl rfl (Nat.le_of_ble_eq_true rfl) (fun z99 e99 => ?_)
                    have i99 := in_add 1 32 e99 i16 (in_c 1 rfl) rfl rfl
                    refine g_goto 10 (gd rfl) rfl ?_
                    have n10 : (z99).toInt ≤ (u_109_20).toInt := by (first | have a0 := oa8 h1 i16a i16 j10_4 j10_3 i67 i61 i51 | ((first | have a0 := in_u h1 | (have a0 := h1; unfold In at a0)); (first | have a1 := in_u i16a | (have a1 := i16a; unfold In at a1)); (first | have a2 := in_u i16 | (have a2 := i16; unfold In at a2)); (first | have a3 := in_u j10_4 | (have a3 := j10_4; unfold In at a3)); (first | have a4 := in_u j10_3 | (have a4 := j10_3; unfold In at a4)); (first | have a5 := in_u i67 | (have a5 := i67; unfold In at a5)); (first | have a6 := in_u i61 | (have a6 := i61; unfold In at a6)); (first | have a7 := in_u i51 | (have a7 := i51; unfold In at a7)))); have a8 := t_sub e51 h1 i48 rfl; (first | have a9 := oa2 i48 i99 | ((first | have a9 := in_u i48 | (have a9 := i48; unfold In at a9)); (first | have a10 := in_u i99 | (have a10 := i99; unfold In at a10)))); have a11 := t_add e99 i16 (in_c 1 rfl) rfl; (first | have a12 := in_u ((in_c 1 rfl)) | (have a12 := (in_c 1 rfl); unfold In at a12)); omega
                    have n10a : TGT s (z99).toInt (y10_2) := by first | exact tgt_k g10_0 (by (first | have a0 := oa8 h1 i16a i16 j10_4 j10_3 i67 i61 i51 | ((first | have a0 := in_u h1 | (have a0 := h1; unfold In at a0)); (first | have a1 := in_u i16a | (have a1 := i16a; unfold In at a1)); (first | have a2 := in_u i16 | (have a2 := i16; unfold In at a2)); (first | have a3 := in_u j10_4 | (have a3 := j10_4; unfold In at a3)); (first | have a4 := in_u j10_3 | (have a4 := j10_3; unfold In at a4)); (first | have a5 := in_u i67 | (have a5 := i67; unfold In at a5)); (first | have a6 := in_u i61 | (have a6 := i61; unfold In at a6)); (first | have a7 := in_u i51 | (have a7 := i51; unfold In at a7)))); have a8 := t_sub e51 h1 i48 rfl; (first | have a9 := oa2 i48 i99 | ((first | have a9 := in_u i48 | (have a9 := i48; unfold In at a9)); (first | have a10 := in_u i99 | (have a10 := i99; unfold In at a10)))); have a11 := t_add e99 i16 (in_c 1 rfl) rfl; (first | have a12 := in_u ((in_c 1 rfl)) | (have a12 := (in_c 1 rfl); unfold In at a12)); omega) (by (first | have a0 := oa8 h1 i16a i16 j10_4 j10_3 i67 i61 i51 | ((first | have a0 := in_u h1 | (have a0 := h1; unfold In at a0)); (first | have a1 := in_u i16a | (have a1 := i16a; unfold In at a1)); (first | have a2 := in_u i16 | (have a2 := i16; unfold In at a2)); (first | have a3 := in_u j10_4 | (have a3 := j10_4; unfold In at a3)); (first | have a4 := in_u j10_3 | (have a4 := j10_3; unfold In at a4)); (first | have a5 := in_u i67 | (have a5 := i67; unfold In at a5)); (first | have a6 := in_u i61 | (have a6 := i61; unfold In at a6)); (first | have a7 := in_u i51 | (have a7 := i51; unfold In at a7)))); have a8 := t_sub e51 h1 i48 rfl; (first | have a9 := oa2 i48 i99 | ((first | have a9 := in_u i48 | (have a9 := i48; unfold In at a9)); (first | have a10 := in_u i99 | (have a10 := i99; unfold In at a10)))); have a11 := t_add e99 i16 (in_c 1 rfl) rfl; (first | have a12 := in_u ((in_c 1 rfl)) | (have a12 := (in_c 1 rfl); unfold In at a12)); omega) | exact tgt_c (by (first | have a0 := oa8 h1 i16a i16 j10_4 j10_3 i67 i61 i51 | ((first | have a0 := in_u h1 | (have a0 := h1; unfold In at a0)); (first | have a1 := in_u i16a | (have a1 := i16a; unfold In at a1)); (first | have a2 := in_u i16 | (have a2 := i16; unfold In at a2)); (first | have a3 := in_u j10_4 | (have a3 := j10_4; unfold In at a3)); (first | have a4 := in_u j10_3 | (have a4 := j10_3; unfold In at a4)); (first | have a5 := in_u i67 | (have a5 := i67; unfold In at a5)); (first | have a6 := in_u i61 | (have a6 := i61; unfold In at a6)); (first | have a7 := in_u i51 | (have a7 := i51; unfold In at a7)))); have a8 := t_sub e51 h1 i48 rfl; (first | have a9 := oa2 i48 i99 | ((first | have a9 := in_u i48 | (have a9 := i48; unfold In at a9)); (first | have a10 := in_u i99 | (have a10 := i99; unfold In at a10)))); have a11 := t_add e99 i16 (in_c 1 rfl) rfl; (first | have a12 := in_u ((in_c 1 rfl)) | (have a12 := (in_c 1 rfl); unfold In at a12)); omega) (by (first | have a0 := oa8 h1 i16a i16 j10_4 j10_3 i67 i61 i51 | ((first | have a0 := in_u h1 | (have a0 := h1; unfold In at a0)); (first | have a1 := in_u i16a | (have a1 := i16a; unfold In at a1)); (first | have a2 := in_u i16 | (have a2 := i16; unfold In at a2)); (first | have a3 := in_u j10_4 | (have a3 := j10_4; unfold In at a3)); (first | have a4 := in_u j10_3 | (have a4 := j10_3; unfold In at a4)); (first | have a5 := in_u i67 | (have a5 := i67; unfold In at a5)); (first | have a6 := in_u i61 | (have a6 := i61; unfold In at a6)); (first | have a7 := in_u i51 | (have a7 := i51; unfold In at a7)))); have a8 := t_sub e51 h1 i48 rfl; (first | have a9 := oa2 i48 i99 | ((first | have a9 := in_u i48 | (have a9 := i48; unfold In at a9)); (first | have a10 := in_u i99 | (have a10 := i99; unfold In at a10)))); have a11 := t_add e99 i16 (in_c 1 rfl) rfl; (first | have a12 := in_u ((in_c 1 rfl)) | (have a12 := (in_c 1 rfl); unfold In at a12)); omega) (by rw [← e_109_53]; exact bt_yes e25x2 e25x4 i16 c25x6) (by rw [← e37]; exact c38)
                    exact gg_w (by first | exact Nat.le_add_right _ _ | exact gw2 | exact gw3 | exact gwe rfl | exact gwf rfl | exact gwg rfl | exact gwh rfl | omega) (gg_f (gf_cons rfl (gf_cons rfl (gf_cons rfl (gf_cons rfl (gf_cons rfl (gf_cons rfl gf_nil)))))) (ih10  y10_2 y10_3 y10_4 z99  (in_w (-1) 31 i67 rfl) (in_w (-32) 200 j10_3 rfl) (in_w 0 32 j10_4 rfl) (in_w 0 32 i99 rfl) n10 n10a (m_up mm10 (t_add e99 i16 (in_c 1 rfl) rfl) (in_w 1 1 (in_c 1 rfl) rfl))))
                  · skip
                    refine g_iload 84 (gd rfl) rfl rfl ?_
                    refine g_iload 86 (gd rfl) rfl rfl ?_
                    refine g_cmp_le 89 99 (gd rfl) rfl rfl (fun c86 => ?_) (fun c86 => ?_)
                    · skip
                      refine g_iinc 102 (gd rfl) rfl rfl (Nat.le_of_ble_eq_true rfl) (fun z99 e99 => ?_)
                      have i99 := in_add 1 32 e99 i16 (in_c 1 rfl) rfl rfl
                      refine g_goto 10 (gd rfl) rfl ?_
                      have n10 : (z99).toInt ≤ (u_109_20).toInt := by (first | have a0 := oa8 h1 i16a i16 j10_4 j10_3 i67 i61 i51 | ((first | have a0 := in_u h1 | (have a0 := h1; unfold In at a0)); (first | have a1 := in_u i16a | (have a1 := i16a; unfold In at a1)); (first | have a2 := in_u i16 | (have a2 := i16; unfold In at a2)); (first | have a3 := in_u j10_4 | (have a3 := j10_4; unfold In at a3)); (first | have a4 := in_u j10_3 | (have a4 := j10_3; unfold In at a4)); (first | have a5 := in_u i67 | (have a5 := i67; unfold In at a5)); (first | have a6 := in_u i61 | (have a6 := i61; unfold In at a6)); (first | have a7 := in_u i51 | (have a7 := i51; unfold In at a7)))); have a8 := t_sub e51 h1 i48 rfl; (first | have a9 := oa2 i48 i99 | ((first | have a9 := in_u i48 | (have a9 := i48; unfold In at a9)); (first | have a10 := in_u i99 | (have a10 := i99; unfold In at a10)))); have a11 := t_add e99 i16 (in_c 1 rfl) rfl; (first | have a12 := in_u ((in_c 1 rfl)) | (have a12 := (in_c 1 rfl); unfold In at a12)); omega
                      have n10a : TGT s (z99).toInt (y10_2) := by first | exact tgt_k g10_0 (by (first | have a0 := oa8 h1 i16a i16 j10_4 j10_3 i67 i61 i51 | ((first | have a0 := in_u h1 | (have a0 := h1; unfold In at a0)); (first | have a1 := in_u i16a | (have a1 := i16a; unfold In at a1)); (first | have a2 := in_u i16 | (have a2 := i16; unfold In at a2)); (first | have a3 := in_u j10_4 | (have a3 := j10_4; unfold In at a3)); (first | have a4 := in_u j10_3 | (have a4 := j10_3; unfold In at a4)); (first | have a5 := in_u i67 | (have a5 := i67; unfold In at a5)); (first | have a6 := in_u i61 | (have a6 := i61; unfold In at a6)); (first | have a7 := in_u i51 | (have a7 := i51; unfold In at a7)))); have a8 := t_sub e51 h1 i48 rfl; (first | have a9 := oa2 i48 i99 | ((first | have a9 := in_u i48 | (have a9 := i48; unfold In at a9)); (first | have a10 := in_u i99 | (have a10 := i99; unfold In at a10)))); have a11 := t_add e99 i16 (in_c 1 rfl) rfl; (first | have a12 := in_u ((in_c 1 rfl)) | (have a12 := (in_c 1 rfl); unfold In at a12)); omega) (by (first | have a0 := oa8 h1 i16a i16 j10_4 j10_3 i67 i61 i51 | ((first | have a0 := in_u h1 | (have a0 := h1; unfold In at a0)); (first | have a1 := in_u i16a | (have a1 := i16a; unfold In at a1)); (first | have a2 := in_u i16 | (have a2 := i16; unfold In at a2)); (first | have a3 := in_u j10_4 | (have a3 := j10_4; unfold In at a3)); (first | have a4 := in_u j10_3 | (have a4 := j10_3; unfold In at a4)); (first | have a5 := in_u i67 | (have a5 := i67; unfold In at a5)); (first | have a6 := in_u i61 | (have a6 := i61; unfold In at a6)); (first | have a7 := in_u i51 | (have a7 := i51; unfold In at a7)))); have a8 := t_sub e51 h1 i48 rfl; (first | have a9 := oa2 i48 i99 | ((first | have a9 := in_u i48 | (have a9 := i48; unfold In at a9)); (first | have a10 := in_u i99 | (have a10 := i99; unfold In at a10)))); have a11 := t_add e99 i16 (in_c 1 rfl) rfl; (first | have a12 := in_u ((in_c 1 rfl)) | (have a12 := (in_c 1 rfl); unfold In at a12)); omega) | exact tgt_c (by (first | have a0 := oa8 h1 i16a i16 j10_4 j10_3 i67 i61 i51 | ((first | have a0 := in_u h1 | (have a0 := h1; unfold In at a0)); (first | have a1 := in_u i16a | (have a1 := i16a; unfold In at a1)); (first | have a2 := in_u i16 | (have a2 := i16; unfold In at a2)); (first | have a3 := in_u j10_4 | (have a3 := j10_4; unfold In at a3)); (first | have a4 := in_u j10_3 | (have a4 := j10_3; unfold In at a4)); (first | have a5 := in_u i67 | (have a5 := i67; unfold In at a5)); (first | have a6 := in_u i61 | (have a6 := i61; unfold In at a6)); (first | have a7 := in_u i51 | (have a7 := i51; unfold In at a7)))); have a8 := t_sub e51 h1 i48 rfl; (first | have a9 := oa2 i48 i99 | ((first | have a9 := in_u i48 | (have a9 := i48; unfold In at a9)); (first | have a10 := in_u i99 | (have a10 := i99; unfold In at a10)))); have a11 := t_add e99 i16 (in_c 1 rfl) rfl; (first | have a12 := in_u ((in_c 1 rfl)) | (have a12 := (in_c 1 rfl); unfold In at a12)); omega) (by (first | have a0 := oa8 h1 i16a i16 j10_4 j10_3 i67 i61 i51 | ((first | have a0 := in_u h1 | (have a0 := h1; unfold In at a0)); (first | have a1 := in_u i16a | (have a1 := i16a; unfold In at a1)); (first | have a2 := in_u i16 | (have a2 := i16; unfold In at a2)); (first | have a3 := in_u j10_4 | (have a3 := j10_4; unfold In at a3)); (first | have a4 := in_u j10_3 | (have a4 := j10_3; unfold In at a4)); (first | have a5 := in_u i67 | (have a5 := i67; unfold In at a5)); (first | have a6 := in_u i61 | (have a6 := i61; unfold In at a6)); (first | have a7 := in_u i51 | (have a7 := i51; unfold In at a7)))); have a8 := t_sub e51 h1 i48 rfl; (first | have a9 := oa2 i48 i99 | ((first | have a9 := in_u i48 | (have a9 := i48; unfold In at a9)); (first | have a10 := in_u i99 | (have a10 := i99; unfold In at a10)))); have a11 := t_add e99 i16 (in_c 1 rfl) rfl; (first | have a12 := in_u ((in_c 1 rfl)) | (have a12 := (in_c 1 rfl); unfold In at a12)); omega) (by rw [← e_109_53]; exact bt_yes e25x2 e25x4 i16 c25x6) (by rw [← e37]; exact c38)
                      exact gg_w (by first | exact Nat.le_add_right _ _ | exact gw2 | exact gw3 | exact gwe rfl | exact gwf rfl | exact gwg rfl | exact gwh rfl | omega) (gg_f (gf_cons rfl (gf_cons rfl (gf_cons rfl (gf_cons rfl (gf_cons rfl (gf_cons rfl gf_nil)))))) (ih10  y10_2 y10_3 y10_4 z99  (in_w (-1) 31 i67 rfl) (in_w (-32) 200 j10_3 rfl) (in_w 0 32 j10_4 rfl) (in_w 0 32 i99 rfl) n10 n10a (m_up mm10 (t_add e99 i16 (in_c 1 rfl) rfl) (in_w 1 1 (in_c 1 rfl) rfl))))
                    · skip
                      have i86 := r_lt1 0 31 c86 j10_4 i61 rfl
                      have i86a := r_lt2 1 32 c86 j10_4 i61 rfl
                      refine g_iload 91 (gd rfl) rfl rfl ?_
                      refine g_istore_n 92 (gd rfl) rfl (Nat.le_of_ble_eq_true rfl) ?_
                      refine g_iload 94 (gd rfl) rfl rfl ?_
                      refine g_istore_n 95 (gd rfl) rfl (Nat.le_of_ble_eq_true rfl) ?_
                      refine g_iload 97 (gd rfl) rfl rfl ?_
                      refine g_istore 99 (gd rfl) rfl (Nat.le_of_ble_eq_true rfl) ?_
                      refine g_iinc 102 (gd rfl) rfl rfl (Nat.le_of_ble_eq_true rfl) (fun z99 e99 => ?_)
                      have i99 := in_add 1 32 e99 i16 (in_c 1 rfl) rfl rfl
                      refine g_goto 10 (gd rfl) rfl ?_
                      have n10 : (z99).toInt ≤ (u_109_20).toInt := by (first | have a0 := oa8 h1 i16a i16 i86 j10_3 i67 i86a i51 | ((first | have a0 := in_u h1 | (have a0 := h1; unfold In at a0)); (first | have a1 := in_u i16a | (have a1 := i16a; unfold In at a1)); (first | have a2 := in_u i16 | (have a2 := i16; unfold In at a2)); (first | have a3 := in_u i86 | (have a3 := i86; unfold In at a3)); (first | have a4 := in_u j10_3 | (have a4 := j10_3; unfold In at a4)); (first | have a5 := in_u i67 | (have a5 := i67; unfold In at a5)); (first | have a6 := in_u i86a | (have a6 := i86a; unfold In at a6)); (first | have a7 := in_u i51 | (have a7 := i51; unfold In at a7)))); have a8 := t_sub e51 h1 i48 rfl; (first | have a9 := oa2 i48 i99 | ((first | have a9 := in_u i48 | (have a9 := i48; unfold In at a9)); (first | have a10 := in_u i99 | (have a10 := i99; unfold In at a10)))); have a11 := t_add e99 i16 (in_c 1 rfl) rfl; (first | have a12 := in_u ((in_c 1 rfl)) | (have a12 := (in_c 1 rfl); unfold In at a12)); omega
                      have n10a : TGT s (z99).toInt (y10_5) := by first | exact tgt_k g10_0 (by (first | have a0 := oa8 h1 i16a i16 i86 j10_3 i67 i86a i51 | ((first | have a0 := in_u h1 | (have a0 := h1; unfold In at a0)); (first | have a1 := in_u i16a | (have a1 := i16a; unfold In at a1)); (first | have a2 := in_u i16 | (have a2 := i16; unfold In at a2)); (first | have a3 := in_u i86 | (have a3 := i86; unfold In at a3)); (first | have a4 := in_u j10_3 | (have a4 := j10_3; unfold In at a4)); (first | have a5 := in_u i67 | (have a5 := i67; unfold In at a5)); (first | have a6 := in_u i86a | (have a6 := i86a; unfold In at a6)); (first | have a7 := in_u i51 | (have a7 := i51; unfold In at a7)))); have a8 := t_sub e51 h1 i48 rfl; (first | have a9 := oa2 i48 i99 | ((first | have a9 := in_u i48 | (have a9 := i48; unfold In at a9)); (first | have a10 := in_u i99 | (have a10 := i99; unfold In at a10)))); have a11 := t_add e99 i16 (in_c 1 rfl) rfl; (first | have a12 := in_u ((in_c 1 rfl)) | (have a12 := (in_c 1 rfl); unfold In at a12)); omega) (by (first | have a0 := oa8 h1 i16a i16 i86 j10_3 i67 i86a i51 | ((first | have a0 := in_u h1 | (have a0 := h1; unfold In at a0)); (first | have a1 := in_u i16a | (have a1 := i16a; unfold In at a1)); (first | have a2 := in_u i16 | (have a2 := i16; unfold In at a2)); (first | have a3 := in_u i86 | (have a3 := i86; unfold In at a3)); (first | have a4 := in_u j10_3 | (have a4 := j10_3; unfold In at a4)); (first | have a5 := in_u i67 | (have a5 := i67; unfold In at a5)); (first | have a6 := in_u i86a | (have a6 := i86a; unfold In at a6)); (first | have a7 := in_u i51 | (have a7 := i51; unfold In at a7)))); have a8 := t_sub e51 h1 i48 rfl; (first | have a9 := oa2 i48 i99 | ((first | have a9 := in_u i48 | (have a9 := i48; unfold In at a9)); (first | have a10 := in_u i99 | (have a10 := i99; unfold In at a10)))); have a11 := t_add e99 i16 (in_c 1 rfl) rfl; (first | have a12 := in_u ((in_c 1 rfl)) | (have a12 := (in_c 1 rfl); unfold In at a12)); omega) | exact tgt_c (by (first | have a0 := oa8 h1 i16a i16 i86 j10_3 i67 i86a i51 | ((first | have a0 := in_u h1 | (have a0 := h1; unfold In at a0)); (first | have a1 := in_u i16a | (have a1 := i16a; unfold In at a1)); (first | have a2 := in_u i16 | (have a2 := i16; unfold In at a2)); (first | have a3 := in_u i86 | (have a3 := i86; unfold In at a3)); (first | have a4 := in_u j10_3 | (have a4 := j10_3; unfold In at a4)); (first | have a5 := in_u i67 | (have a5 := i67; unfold In at a5)); (first | have a6 := in_u i86a | (have a6 := i86a; unfold In at a6)); (first | have a7 := in_u i51 | (have a7 := i51; unfold In at a7)))); have a8 := t_sub e51 h1 i48 rfl; (first | have a9 := oa2 i48 i99 | ((first | have a9 := in_u i48 | (have a9 := i48; unfold In at a9)); (first | have a10 := in_u i99 | (have a10 := i99; unfold In at a10)))); have a11 := t_add e99 i16 (in_c 1 rfl) rfl; (first | have a12 := in_u ((in_c 1 rfl)) | (have a12 := (in_c 1 rfl); unfold In at a12)); omega) (by (first | have a0 := oa8 h1 i16a i16 i86 j10_3 i67 i86a i51 | ((first | have a0 := in_u h1 | (have a0 := h1; unfold In at a0)); (first | have a1 := in_u i16a | (have a1 := i16a; unfold In at a1)); (first | have a2 := in_u i16 | (have a2 := i16; unfold In at a2)); (first | have a3 := in_u i86 | (have a3 := i86; unfold In at a3)); (first | have a4 := in_u j10_3 | (have a4 := j10_3; unfold In at a4)); (first | have a5 := in_u i67 | (have a5 := i67; unfold In at a5)); (first | have a6 := in_u i86a | (have a6 := i86a; unfold In at a6)); (first | have a7 := in_u i51 | (have a7 := i51; unfold In at a7)))); have a8 := t_sub e51 h1 i48 rfl; (first | have a9 := oa2 i48 i99 | ((first | have a9 := in_u i48 | (have a9 := i48; unfold In at a9)); (first | have a10 := in_u i99 | (have a10 := i99; unfold In at a10)))); have a11 := t_add e99 i16 (in_c 1 rfl) rfl; (first | have a12 := in_u ((in_c 1 rfl)) | (have a12 := (in_c 1 rfl); unfold In at a12)); omega) (by rw [← e_109_53]; exact bt_yes e25x2 e25x4 i16 c25x6) (by rw [← e37]; exact c38)
                      exact gg_w (by first | exact Nat.le_add_right _ _ | exact gw2 | exact gw3 | exact gwe rfl | exact gwf rfl | exact gwg rfl | exact gwh rfl | omega) (gg_f (gf_cons rfl (gf_cons rfl (gf_cons rfl (gf_cons rfl (gf_cons rfl (gf_cons rfl gf_nil)))))) (ih10  y10_5 z51 z61 z99  (in_w (-1) 31 i16 rfl) (in_w (-32) 200 i51 rfl) (in_w 0 32 i86a rfl) (in_w 0 32 i99 rfl) n10 n10a (m_up mm10 (t_add e99 i16 (in_c 1 rfl) rfl) (in_w 1 1 (in_c 1 rfl) rfl))))
  refine g_enter2 (k := 340) (N := 30601) (by first | exact dq1 hd rfl | exact dq0 hd rfl | exact dq2 hd rfl | exact dq3 hd rfl | omega) rfl (Nat.le_of_ble_eq_true rfl) ?_
  refine g_iconst (-1) 1 (gd rfl) rfl rfl ?_
  refine g_istore_n 2 (gd rfl) rfl (Nat.le_of_ble_eq_true rfl) ?_
  refine g_iconst 0 3 (gd rfl) rfl rfl ?_
  refine g_istore_n 4 (gd rfl) rfl (Nat.le_of_ble_eq_true rfl) ?_
  refine g_iconst 0 5 (gd rfl) rfl rfl ?_
  refine g_istore 7 (gd rfl) rfl (Nat.le_of_ble_eq_true rfl) ?_
  refine g_iconst 0 8 (gd rfl) rfl rfl ?_
  refine g_istore 10 (gd rfl) rfl (Nat.le_of_ble_eq_true rfl) ?_
  have n10 : ((Int32.ofInt 0)).toInt ≤ (u_109_20).toInt := by (first | have a0 := oa4 ro_109_20 h1 ((in_c 0 rfl)) ((in_c (-1) rfl)) | ((first | have a0 := in_u ro_109_20 | (have a0 := ro_109_20; unfold In at a0)); (first | have a1 := in_u h1 | (have a1 := h1; unfold In at a1)); (first | have a2 := in_u ((in_c 0 rfl)) | (have a2 := (in_c 0 rfl); unfold In at a2)); (first | have a3 := in_u ((in_c (-1) rfl)) | (have a3 := (in_c (-1) rfl); unfold In at a3)))); omega
  have n10a : TGT s ((Int32.ofInt 0)).toInt ((Int32.ofInt (-1))) := by exact tgt_0 (by decide)
  exact gg_w (by first | exact Nat.le_of_ble_eq_true rfl | omega) (gg_f (gf_cons rfl (gf_cons rfl (gf_cons rfl (gf_cons rfl (gf_cons rfl (gf_cons rfl gf_nil)))))) (ct10 33  (Int32.ofInt (-1)) (Int32.ofInt 0) (Int32.ofInt 0) (Int32.ofInt 0)  (in_w (-1) 31 (in_c (-1) rfl) rfl) (in_w (-32) 200 (in_c 0 rfl) rfl) (in_w 0 32 (in_c 0 rfl) rfl) (in_w 0 32 (in_c 0 rfl) rfl) n10 n10a (m_in 33 (in_w 0 32 (in_c 0 rfl) rfl) rfl)))

/-- GraphHouseModel.tough -/
theorem k_341 {Z : AmZ} {A : Nat → Nat} {s : GS} {ex : va_W} {d : Nat} {X : AmX} {x1 : Int32} (hd : 4 ≤ d) (hI : Inv s) (h1 : In x1 0 32) : GC Z d 341 [.ref (A 109), .int x1] (WW Z A s ++ ex) 0 0 (fun v u => ∃ z : Int32, v = some (.int z) ∧ u = WW Z A s ++ ex ∧ In z (-2147483648) 2147483647 ∧ (TOU s (x1).toInt (z))) X := by
  intro post xp hP hX
  obtain ⟨u_109_20, e_109_20⟩ : ∃ w, w = s.2.2.1 109 20 := ⟨_, rfl⟩
  have ro_109_20 := inv_F hI 0 32 rfl e_109_20
  have ct39 : ∀ (k39 : Nat) (y39_2 : Int32) (y39_3 : Int32), (In y39_3 0 1) → (TOU s (x1).toInt (y39_2)) → cb y39_2 + (y39_3).toInt.toNat < k39 → GG Z (d - 1) 341 post (gx xp) (1 + k39 * 32401) 39 (fun j => xlook j [(0, .ref (A 109)), (1, .int x1), (2, .int y39_2), (3, .int y39_3)]) [] (WW Z A s ++ ex) 0 0 := by
    intro k39
    induction k39 with
    | zero => intro y39_2 y39_3 j39_3 g39_0 mm39; exact absurd mm39 (Nat.not_lt_zero _)
    | succ k39 ih39 =>
      intro y39_2 y39_3 j39_3 g39_0 mm39
      refine gg_w (M := 1 + k39 * 32401 + 32401) gws ?_
      have ct48 : ∀ (k48 : Nat) (y48_2 : Int32) (y48_3 : Int32) (y48_4 : Int32), (In y48_3 0 1) → (In y48_4 0 32) → (cb y48_2 + (y48_3).toInt.toNat < k39) → (TOU s (x1).toInt (y48_2)) → 32 - (y48_4).toInt < (k48 : Int) → GG Z (d - 1) 341 post (gx xp) (1 + k39 * 32401 + 1 + k48 * 900) 48 (fun j => xlook j [(0, .ref (A 109)), (1, .int x1), (2, .int y48_2), (3, .int y48_3), (4, .int y48_4)]) [] (WW Z A s ++ ex) 0 0 := by
        intro k48
        induction k48 with
        | zero => intro y48_2 y48_3 y48_4 j48_3 j48_4 g48_0 g48_1 mm48; exact m_no mm48 j48_4 rfl
        | succ k48 ih48 =>
          intro y48_2 y48_3 y48_4 j48_3 j48_4 g48_0 g48_1 mm48
          refine gg_w (M := 1 + k39 * 32401 + 1 + k48 * 900 + 900) gws ?_
          refine g_iload 50 (gd rfl) rfl rfl ?_
          refine g_aload_n 51 (gd rfl) rfl rfl ?_
          refine g_getI 54 (gd rfl) rfl rfl rfl (fun z51 e51 => ?_)
          have q51 : u_109_20 = z51 := (e_109_20).trans e51.symm
          subst q51
          refine g_cmp_ge 57 109 (gd rfl) rfl rfl (fun c54 => ?_) (fun c54 => ?_)
          · skip
            refine g_goto 39 (gd rfl) rfl ?_
            have n39 : TOU s (x1).toInt (y48_2) := by exact g48_1
            have m39 : cb y48_2 + (y48_3).toInt.toNat < k39 := by exact g48_0
            exact gg_w (by first | exact Nat.le_add_right _ _ | exact gw2 | exact gw3 | exact gwe rfl | exact gwf rfl | exact gwg rfl | exact gwh rfl | omega) (gg_f (gf_cons rfl (gf_cons rfl (gf_cons rfl (gf_cons rfl gf_nil)))) (ih39   y48_2 y48_3  (in_w 0 1 j48_3 rfl) n39 m39))
          · skip
            have i54 := r_lt1 0 31 c54 j48_4 ro_109_20 rfl
            have i54a := r_lt2 1 32 c54 j48_4 ro_109_20 rfl
            refine g_iload_n 58 (gd rfl) rfl rfl ?_
            refine g_iload 60 (gd rfl) rfl rfl ?_
            refine g_calls (As := [.int y48_2, .int y48_4]) (r := []) 63 (gd rfl) rfl rfl rfl rfl rfl (Nat.le_of_ble_eq_true rfl) (mc := 0) (ms := 0) (Nat.zero_le _) (Nat.zero_le _) (P := fun v u => _) ?_ (fun v u h => h)
            intro po60 xx60 hp60 hx60
            refine g_enter2 (k := 311) (N := 300) (by first | exact dq1 hd rfl | exact dq0 hd rfl | exact dq2 hd rfl | exact dq3 hd rfl | omega) rfl (Nat.le_of_ble_eq_true rfl) ?_
            refine g_iload_n 1 (gd rfl) rfl rfl ?_
            refine g_iload_n 2 (gd rfl) rfl rfl ?_
            refine g_ishr 3 (gd rfl) rfl (fun z60x2 e60x2 => ?_)
            refine g_iconst 1 4 (gd rfl) rfl rfl ?_
            refine g_iand 5 (gd rfl) rfl (fun z60x4 e60x4 => ?_)
            have i60x4 := in_and2 e60x4 (in_c 1 rfl) rfl
            refine g_iconst 1 6 (gd rfl) rfl rfl ?_
            refine g_cmp_ne 9 13 (gd rfl) rfl rfl (fun c60x6 => ?_) (fun c60x6 => ?_)
            · skip
              have i60x6 := r_ne1 0 0 c60x6 i60x4 (in_c 1 rfl) rfl
              refine g_iconst 0 14 (gd rfl) rfl rfl ?_
              refine g_ireturn (gd rfl) rfl (nb01 (in_w 0 1 (in_c 0 rfl) rfl)) (hp60 _ _ ?_)
              show GG _ _ _ _ _ _ _ _ [.int (Int32.ofInt 0)] _ _ _
              refine g_if_eq 66 103 (gd rfl) rfl rfl (fun c63 => ?_) (fun c63 => ?_)
              · skip
                refine g_iinc 106 (gd rfl) rfl rfl (Nat.le_of_ble_eq_true rfl) (fun z103 e103 => ?_)
                have i103 := in_add 1 32 e103 i54 (in_c 1 rfl) rfl rfl
                refine g_goto 48 (gd rfl) rfl ?_
                have n48 : cb y48_2 + (y48_3).toInt.toNat < k39 := by first | exact g48_0 | (show cb y39_2 + 0 < k39; have h := j39_3; unfold In at h; omega) | (have h := cb_clr e96 e98 e99 i54 (bt_yes e60x2 e60x4 i54 c60x6); show cb z99 + 1 < k39; omega)
                have n48a : TOU s (x1).toInt (y48_2) := by exact g48_1
                exact gg_w (by first | exact Nat.le_add_right _ _ | exact gw2 | exact gw3 | exact gwe rfl | exact gwf rfl | exact gwg rfl | exact gwh rfl | omega) (gg_f (gf_cons rfl (gf_cons rfl (gf_cons rfl (gf_cons rfl (gf_cons rfl gf_nil))))) (ih48  y48_2 y48_3 z103  (in_w 0 1 j48_3 rfl) (in_w 0 32 i103 rfl) n48 n48a (m_up mm48 (t_add e103 i54 (in_c 1 rfl) rfl) (in_w 1 1 (in_c 1 rfl) rfl))))
              · skip
                exact zn_ne c63 (in_c 0 rfl) rfl
            · skip
              have i60x6 := r_eq1 1 1 c60x6 i60x4 (in_c 1 rfl) rfl
              refine g_iconst 1 10 (gd rfl) rfl rfl ?_
              refine g_goto 14 (gd rfl) rfl ?_
              refine g_ireturn (gd rfl) rfl (nb01 (in_w 0 1 (in_c 1 rfl) rfl)) (hp60 _ _ ?_)
              show GG _ _ _ _ _ _ _ _ [.int (Int32.ofInt 1)] _ _ _
              refine g_if_eq 66 103 (gd rfl) rfl rfl (fun c63 => ?_) (fun c63 => ?_)
              · skip
                exact zn_eq c63 (in_c 1 rfl) rfl
              · skip
                refine g_iload_n 67 (gd rfl) rfl rfl ?_
                refine g_aload_n 68 (gd rfl) rfl rfl ?_
                refine g_iload 70 (gd rfl) rfl rfl ?_
                refine g_callv (X := _) (As := [.int y48_4]) (r := [.int x1]) (b := A 109) (q := 109) 73 (gd rfl) rfl rfl rfl rfl rfl (ww_o rfl) (Nat.le_of_ble_eq_true rfl) (Nat.zero_le _) (Nat.zero_le _) (k_339 (by first | exact dq1 hd rfl | exact dq0 hd rfl | exact dq2 hd rfl | exact dq3 hd rfl | omega) hI (in_w 0 31 i54 rfl)) (fun e u h => h) (fun v u h => ?_)
                obtain ⟨z70, rfl, rfl, i70, p70⟩ := h
                show GG _ _ _ _ _ _ _ _ [.int z70, .int x1] _ _ _
                refine g_calls (As := [.int z70]) (r := [.int x1]) 76 (gd rfl) rfl rfl rfl rfl rfl (Nat.le_of_ble_eq_true rfl) (Nat.zero_le _) (Nat.zero_le _) (k_336 (by first | exact dq1 hd rfl | exact dq0 hd rfl | exact dq2 hd rfl | exact dq3 hd rfl | omega) hI ) (fun v u h => ?_)
                obtain ⟨z73, rfl, rfl, i73, p73⟩ := h
                show GG _ _ _ _ _ _ _ _ [.int z73, .int x1] _ _ _
                refine g_isub 77 (gd rfl) rfl (fun z76 e76 => ?_)
                have i76 := in_sub (-32) 32 e76 h1 i73 rfl rfl
                refine g_aload_n 78 (gd rfl) rfl rfl ?_
                refine g_getA (q2 := 138) 81 (gd rfl) rfl rfl rfl rfl ?_
                refine g_iload 83 (gd rfl) rfl rfl ?_
                refine g_iaload 84 (gd rfl) rfl (n := 32) rfl (in_ix i54 rfl) (fun z83 e83 => ?_)
                refine g_iload_n 85 (gd rfl) rfl rfl ?_
                refine g_iand 86 (gd rfl) rfl (fun z85 e85 => ?_)
                refine g_calls (As := [.int z85]) (r := [.int z76]) 89 (gd rfl) rfl rfl rfl rfl rfl (Nat.le_of_ble_eq_true rfl) (Nat.zero_le _) (Nat.zero_le _) (k_336 (by first | exact dq1 hd rfl | exact dq0 hd rfl | exact dq2 hd rfl | exact dq3 hd rfl | omega) hI ) (fun v u h => ?_)
                obtain ⟨z86, rfl, rfl, i86, p86⟩ := h
                show GG _ _ _ _ _ _ _ _ [.int z86, .int z76] _ _ _
                refine g_cmp_le 92 103 (gd rfl) rfl rfl (fun c89 => ?_) (fun c89 => ?_)
                · skip
                  refine g_iinc 106 (gd rfl) rfl rfl (Nat.le_of_ble_eq_true rfl) (fun z103 e103 => ?_)
                  have i103 := in_add 1 32 e103 i54 (in_c 1 rfl) rfl rfl
                  refine g_goto 48 (gd rfl) rfl ?_
                  have n48 : cb y48_2 + (y48_3).toInt.toNat < k39 := by first | exact g48_0 | (show cb y39_2 + 0 < k39; have h := j39_3; unfold In at h; omega) | (have h := cb_clr e96 e98 e99 i54 (bt_yes e60x2 e60x4 i54 c60x6); show cb z99 + 1 < k39; omega)
                  have n48a : TOU s (x1).toInt (y48_2) := by exact g48_1
                  exact gg_w (by first | exact Nat.le_add_right _ _ | exact gw2 | exact gw3 | exact gwe rfl | exact gwf rfl | exact gwg rfl | exact gwh rfl | omega) (gg_f (gf_cons rfl (gf_cons rfl (gf_cons rfl (gf_cons rfl (gf_cons rfl gf_nil))))) (ih48  y48_2 y48_3 z103  (in_w 0 1 j48_3 rfl) (in_w 0 32 i103 rfl) n48 n48a (m_up mm48 (t_add e103 i54 (in_c 1 rfl) rfl) (in_w 1 1 (in_c 1 rfl) rfl))))
                · skip
                  have i89 := r_lt1 0 31 c89 i86 i76 rfl
                  have i89a := r_lt2 1 32 c89 i86 i76 rfl
                  refine g_iload_n 93 (gd rfl) rfl rfl ?_
                  refine g_iconst 1 94 (gd rfl) rfl rfl ?_
                  refine g_iload 96 (gd rfl) rfl rfl ?_
                  refine g_ishl 97 (gd rfl) rfl (fun z96 e96 => ?_)
                  refine g_iconst (-1) 98 (gd rfl) rfl rfl ?_
                  refine g_ixor 99 (gd rfl) rfl (fun z98 e98 => ?_)
                  refine g_iand 100 (gd rfl) rfl (fun z99 e99 => ?_)
                  refine g_istore_n 101 (gd rfl) rfl (Nat.le_of_ble_eq_true rfl) ?_
                  refine g_iconst 1 102 (gd rfl) rfl rfl ?_
                  refine g_istore_n 103 (gd rfl) rfl (Nat.le_of_ble_eq_true rfl) ?_
                  refine g_iinc 106 (gd rfl) rfl rfl (Nat.le_of_ble_eq_true rfl) (fun z103 e103 => ?_)
                  have i103 := in_add 1 32 e103 i54 (in_c 1 rfl) rfl rfl
                  refine g_goto 48 (gd rfl) rfl ?_
                  have n48 : cb z99 + ((Int32.ofInt 1)).toInt.toNat < k39 := by first | exact g48_0 | (show cb y39_2 + 0 < k39; have h := j39_3; unfold In at h; omega) | (have h := cb_clr e96 e98 e99 i54 (bt_yes e60x2 e60x4 i54 c60x6); show cb z99 + 1 < k39; omega)
                  have n48a : TOU s (x1).toInt (z99) := by exact tou_s g48_1 h1 i54 (bt_yes e60x2 e60x4 i54 c60x6) p70 (fun u hu => (hI.1.1 142 u (show u < 32 from hu)).2) p73 (by (first | have a0 := oa5 h1 i54a i54 j48_3 i103 | ((first | have a0 := in_u h1 | (have a0 := h1; unfold In at a0)); (first | have a1 := in_u i54a | (have a1 := i54a; unfold In at a1)); (first | have a2 := in_u i54 | (have a2 := i54; unfold In at a2)); (first | have a3 := in_u j48_3 | (have a3 := j48_3; unfold In at a3)); (first | have a4 := in_u i103 | (have a4 := i103; unfold In at a4)))); have a5 := t_add e103 i54 (in_c 1 rfl) rfl; (first | have a6 := oa2 ((in_c 1 rfl)) i89a | ((first | have a6 := in_u ((in_c 1 rfl)) | (have a6 := (in_c 1 rfl); unfold In at a6)); (first | have a7 := in_u i89a | (have a7 := i89a; unfold In at a7)))); have a8 := t_sub e76 h1 i73 rfl; (first | have a9 := in_u i73 | (have a9 := i73; unfold In at a9)); omega) e83 e85 p86 (by (first | have a0 := oa5 h1 i54a i54 j48_3 i103 | ((first | have a0 := in_u h1 | (have a0 := h1; unfold In at a0)); (first | have a1 := in_u i54a | (have a1 := i54a; unfold In at a1)); (first | have a2 := in_u i54 | (have a2 := i54; unfold In at a2)); (first | have a3 := in_u j48_3 | (have a3 := j48_3; unfold In at a3)); (first | have a4 := in_u i103 | (have a4 := i103; unfold In at a4)))); have a5 := t_add e103 i54 (in_c 1 rfl) rfl; (first | have a6 := oa2 ((in_c 1 rfl)) i89a | ((first | have a6 := in_u ((in_c 1 rfl)) | (have a6 := (in_c 1 rfl); unfold In at a6)); (first | have a7 := in_u i89a | (have a7 := i89a; unfold In at a7)))); have a8 := t_sub e76 h1 i73 rfl; (first | have a9 := in_u i73 | (have a9 := i73; unfold In at a9)); omega) e96 e98 e99
                  exact gg_w (by first | exact Nat.le_add_right _ _ | exact gw2 | exact gw3 | exact gwe rfl | exact gwf rfl | exact gwg rfl | exact gwh rfl | omega) (gg_f (gf_cons rfl (gf_cons rfl (gf_cons rfl (gf_cons rfl (gf_cons rfl gf_nil))))) (ih48  z99 (Int32.ofInt 1) z103  (in_w 0 1 (in_c 1 rfl) rfl) (in_w 0 32 i103 rfl) n48 n48a (m_up mm48 (t_add e103 i54 (in_c 1 rfl) rfl) (in_w 1 1 (in_c 1 rfl) rfl))))
      refine g_iload_n 40 (gd rfl) rfl rfl ?_
      refine g_if_eq 43 112 (gd rfl) rfl rfl (fun c40 => ?_) (fun c40 => ?_)
      · skip
        have i40 := z_eq 0 0 c40 j39_3 rfl
        refine g_iload_n 113 (gd rfl) rfl rfl ?_
        have n113 : TOU s (x1).toInt (y39_2) := by exact g39_0
        exact g_ireturn (gd rfl) rfl rfl (hP _ _ ⟨y39_2, rfl, rfl, in_w (-2147483648) 2147483647 (i_rng y39_2) rfl, n113⟩)
      · skip
        have i40 := z_ne 1 1 c40 j39_3 rfl
        refine g_iconst 0 44 (gd rfl) rfl rfl ?_
        refine g_istore_n 45 (gd rfl) rfl (Nat.le_of_ble_eq_true rfl) ?_
        refine g_iconst 0 46 (gd rfl) rfl rfl ?_
        refine g_istore 48 (gd rfl) rfl (Nat.le_of_ble_eq_true rfl) ?_
        have n48 : cb y39_2 + ((Int32.ofInt 0)).toInt.toNat < k39 := by first | exact g48_0 | (show cb y39_2 + 0 < k39; have h := j39_3; unfold In at h; omega) | (have h := cb_clr e96 e98 e99 i54 (bt_yes e60x2 e60x4 i54 c60x6); show cb z99 + 1 < k39; omega)
        have n48a : TOU s (x1).toInt (y39_2) := by exact g39_0
        exact gg_w (by first | exact Nat.le_add_right _ _ | exact gw2 | exact gw3 | exact gwe rfl | exact gwf rfl | exact gwg rfl | exact gwh rfl | omega) (gg_f (gf_cons rfl (gf_cons rfl (gf_cons rfl (gf_cons rfl (gf_cons rfl gf_nil))))) (ct48 33  y39_2 (Int32.ofInt 0) (Int32.ofInt 0)  (in_w 0 1 (in_c 0 rfl) rfl) (in_w 0 32 (in_c 0 rfl) rfl) n48 n48a (m_in 33 (in_w 0 32 (in_c 0 rfl) rfl) rfl)))
  have ct4 : ∀ (k4 : Nat) (y4_2 : Int32) (y4_3 : Int32), (In y4_3 0 32) → ((y4_3).toInt ≤ (u_109_20).toInt) → (∀ v : Nat, (bt (y4_2) v = true ↔ ((v : Int) < (y4_3).toInt ∧ (s.1 142 v).toInt < 0))) → 32 - (y4_3).toInt < (k4 : Int) → GG Z (d - 1) 341 post (gx xp) (3240102 + k4 * 900) 4 (fun j => xlook j [(0, .ref (A 109)), (1, .int x1), (2, .int y4_2), (3, .int y4_3)]) [] (WW Z A s ++ ex) 0 0 := by
    intro k4
    induction k4 with
    | zero => intro y4_2 y4_3 j4_3 n4_0 g4_0 mm4; exact m_no mm4 j4_3 rfl
    | succ k4 ih4 =>
      intro y4_2 y4_3 j4_3 n4_0 g4_0 mm4
      refine gg_w (M := 3240102 + k4 * 900 + 900) gws ?_
      refine g_iload_n 5 (gd rfl) rfl rfl ?_
      refine g_aload_n 6 (gd rfl) rfl rfl ?_
      refine g_getI 9 (gd rfl) rfl rfl rfl (fun z6 e6 => ?_)
      have q6 : u_109_20 = z6 := (e_109_20).trans e6.symm
      subst q6
      refine g_cmp_ge 12 37 (gd rfl) rfl rfl (fun c9 => ?_) (fun c9 => ?_)
      · skip
        refine g_iconst 1 38 (gd rfl) rfl rfl ?_
        refine g_istore_n 39 (gd rfl) rfl (Nat.le_of_ble_eq_true rfl) ?_
        have n39 : TOU s (x1).toInt (y4_2) := by exact tou_0 (fun v => by rw [g4_0 v]; unfold UNC; rw [show y4_3.toInt = (s.2.2.1 109 20).toInt from (by rw [← e_109_20]; (first | have a0 := oa4 h1 ro_109_20 j4_3 ((in_c 1 rfl)) | ((first | have a0 := in_u h1 | (have a0 := h1; unfold In at a0)); (first | have a1 := in_u ro_109_20 | (have a1 := ro_109_20; unfold In at a1)); (first | have a2 := in_u j4_3 | (have a2 := j4_3; unfold In at a2)); (first | have a3 := in_u ((in_c 1 rfl)) | (have a3 := (in_c 1 rfl); unfold In at a3)))); omega)])
        have m39 : cb y4_2 + ((Int32.ofInt 1)).toInt.toNat < 100 := by have h := cb_le y4_2; have h3 := (in_c 1 rfl); unfold In at h3; omega
        exact gg_w (by first | exact Nat.le_add_right _ _ | exact gw2 | exact gw3 | exact gwe rfl | exact gwf rfl | exact gwg rfl | exact gwh rfl | omega) (gg_f (gf_cons rfl (gf_cons rfl (gf_cons rfl (gf_cons rfl gf_nil)))) (ct39 (100)  y4_2 (Int32.ofInt 1)  (in_w 0 1 (in_c 1 rfl) rfl) n39 m39))
      · skip
        have i9 := r_lt1 0 31 c9 j4_3 ro_109_20 rfl
        have i9a := r_lt2 1 32 c9 j4_3 ro_109_20 rfl
        refine g_iload_n 13 (gd rfl) rfl rfl ?_
        refine g_aload_n 14 (gd rfl) rfl rfl ?_
        refine g_getA (q2 := 142) 17 (gd rfl) rfl rfl rfl rfl ?_
        refine g_iload_n 18 (gd rfl) rfl rfl ?_
        refine g_iaload 19 (gd rfl) rfl (n := 32) rfl (in_ix i9 rfl) (fun z18 e18 => ?_)
        have i18 := inv_I hI (n := 32) (t := 0) (-2147483648) 31 rfl (in_ix i9 rfl) rfl e18
        refine g_if_ge 22 28 (gd rfl) rfl rfl (fun c19 => ?_) (fun c19 => ?_)
        · skip
          have i19 := z_ge 0 31 c19 i18 rfl
          refine g_iconst 0 29 (gd rfl) rfl rfl ?_
          refine g_ior 30 (gd rfl) rfl (fun z29 e29 => ?_)
          refine g_istore_n 31 (gd rfl) rfl (Nat.le_of_ble_eq_true rfl) ?_
          refine g_iinc 34 (gd rfl) rfl rfl (Nat.le_of_ble_eq_true rfl) (fun z31 e31 => ?_)
          have i31 := in_add 1 32 e31 i9 (in_c 1 rfl) rfl rfl
          refine g_goto 4 (gd rfl) rfl ?_
          have n4 : (z31).toInt ≤ (u_109_20).toInt := by (first | have a0 := oa4 h1 i9a i9 i31 | ((first | have a0 := in_u h1 | (have a0 := h1; unfold In at a0)); (first | have a1 := in_u i9a | (have a1 := i9a; unfold In at a1)); (first | have a2 := in_u i9 | (have a2 := i9; unfold In at a2)); (first | have a3 := in_u i31 | (have a3 := i31; unfold In at a3)))); have a4 := t_add e31 i9 (in_c 1 rfl) rfl; (first | have a5 := in_u ((in_c 1 rfl)) | (have a5 := (in_c 1 rfl); unfold In at a5)); omega
          have n4a : ∀ v : Nat, (bt (z29) v = true ↔ ((v : Int) < (z31).toInt ∧ (s.1 142 v).toInt < 0)) := by exact un_n g4_0 (by (first | have a0 := oa4 h1 i9a i9 i31 | ((first | have a0 := in_u h1 | (have a0 := h1; unfold In at a0)); (first | have a1 := in_u i9a | (have a1 := i9a; unfold In at a1)); (first | have a2 := in_u i9 | (have a2 := i9; unfold In at a2)); (first | have a3 := in_u i31 | (have a3 := i31; unfold In at a3)))); have a4 := t_add e31 i9 (in_c 1 rfl) rfl; (first | have a5 := in_u ((in_c 1 rfl)) | (have a5 := (in_c 1 rfl); unfold In at a5)); omega) (by (first | have a0 := oa4 h1 i9a i9 i31 | ((first | have a0 := in_u h1 | (have a0 := h1; unfold In at a0)); (first | have a1 := in_u i9a | (have a1 := i9a; unfold In at a1)); (first | have a2 := in_u i9 | (have a2 := i9; unfold In at a2)); (first | have a3 := in_u i31 | (have a3 := i31; unfold In at a3)))); have a4 := t_add e31 i9 (in_c 1 rfl) rfl; (first | have a5 := in_u ((in_c 1 rfl)) | (have a5 := (in_c 1 rfl); unfold In at a5)); omega) (by rw [← e18]; exact c19) e29
          exact gg_w (by first | exact Nat.le_add_right _ _ | exact gw2 | exact gw3 | exact gwe rfl | exact gwf rfl | exact gwg rfl | exact gwh rfl | omega) (gg_f (gf_cons rfl (gf_cons rfl (gf_cons rfl (gf_cons rfl gf_nil)))) (ih4  z29 z31  (in_w 0 32 i31 rfl) n4 n4a (m_up mm4 (t_add e31 i9 (in_c 1 rfl) rfl) (in_w 1 1 (in_c 1 rfl) rfl))))
        · skip
          have i19 := z_lt (-2147483648) (-1) c19 i18 rfl
          refine g_iconst 1 23 (gd rfl) rfl rfl ?_
          refine g_iload_n 24 (gd rfl) rfl rfl ?_
          refine g_ishl 25 (gd rfl) rfl (fun z24 e24 => ?_)
          refine g_goto 29 (gd rfl) rfl ?_
          refine g_ior 30 (gd rfl) rfl (fun z29 e29 => ?_)
          refine g_istore_n 31 (gd rfl) rfl (Nat.le_of_ble_eq_true rfl) ?_
          refine g_iinc 34 (gd rfl) rfl rfl (Nat.le_of_ble_eq_true rfl) (fun z31 e31 => ?_)
          have i31 := in_add 1 32 e31 i9 (in_c 1 rfl) rfl rfl
          refine g_goto 4 (gd rfl) rfl ?_
          have n4 : (z31).toInt ≤ (u_109_20).toInt := by (first | have a0 := oa4 h1 i9a i9 i31 | ((first | have a0 := in_u h1 | (have a0 := h1; unfold In at a0)); (first | have a1 := in_u i9a | (have a1 := i9a; unfold In at a1)); (first | have a2 := in_u i9 | (have a2 := i9; unfold In at a2)); (first | have a3 := in_u i31 | (have a3 := i31; unfold In at a3)))); have a4 := t_add e31 i9 (in_c 1 rfl) rfl; (first | have a5 := in_u ((in_c 1 rfl)) | (have a5 := (in_c 1 rfl); unfold In at a5)); omega
          have n4a : ∀ v : Nat, (bt (z29) v = true ↔ ((v : Int) < (z31).toInt ∧ (s.1 142 v).toInt < 0)) := by exact un_y g4_0 (by (first | have a0 := oa4 h1 i9a i9 i31 | ((first | have a0 := in_u h1 | (have a0 := h1; unfold In at a0)); (first | have a1 := in_u i9a | (have a1 := i9a; unfold In at a1)); (first | have a2 := in_u i9 | (have a2 := i9; unfold In at a2)); (first | have a3 := in_u i31 | (have a3 := i31; unfold In at a3)))); have a4 := t_add e31 i9 (in_c 1 rfl) rfl; (first | have a5 := in_u ((in_c 1 rfl)) | (have a5 := (in_c 1 rfl); unfold In at a5)); omega) i9 (by rw [← e18]; exact c19) e24 e29
          exact gg_w (by first | exact Nat.le_add_right _ _ | exact gw2 | exact gw3 | exact gwe rfl | exact gwf rfl | exact gwg rfl | exact gwh rfl | omega) (gg_f (gf_cons rfl (gf_cons rfl (gf_cons rfl (gf_cons rfl gf_nil)))) (ih4  z29 z31  (in_w 0 32 i31 rfl) n4 n4a (m_up mm4 (t_add e31 i9 (in_c 1 rfl) rfl) (in_w 1 1 (in_c 1 rfl) rfl))))
  refine g_enter2 (k := 341) (N := 3270702) (by first | exact dq1 hd rfl | exact dq0 hd rfl | exact dq2 hd rfl | exact dq3 hd rfl | omega) rfl (Nat.le_of_ble_eq_true rfl) ?_
  refine g_iconst 0 1 (gd rfl) rfl rfl ?_
  refine g_istore_n 2 (gd rfl) rfl (Nat.le_of_ble_eq_true rfl) ?_
  refine g_iconst 0 3 (gd rfl) rfl rfl ?_
  refine g_istore_n 4 (gd rfl) rfl (Nat.le_of_ble_eq_true rfl) ?_
  have n4 : ((Int32.ofInt 0)).toInt ≤ (u_109_20).toInt := by (first | have a0 := oa3 ro_109_20 h1 ((in_c 0 rfl)) | ((first | have a0 := in_u ro_109_20 | (have a0 := ro_109_20; unfold In at a0)); (first | have a1 := in_u h1 | (have a1 := h1; unfold In at a1)); (first | have a2 := in_u ((in_c 0 rfl)) | (have a2 := (in_c 0 rfl); unfold In at a2)))); omega
  have n4a : ∀ v : Nat, (bt ((Int32.ofInt 0)) v = true ↔ ((v : Int) < ((Int32.ofInt 0)).toInt ∧ (s.1 142 v).toInt < 0)) := by exact un_0
  exact gg_w (by first | exact Nat.le_of_ble_eq_true rfl | omega) (gg_f (gf_cons rfl (gf_cons rfl (gf_cons rfl (gf_cons rfl gf_nil)))) (ct4 33  (Int32.ofInt 0) (Int32.ofInt 0)  (in_w 0 32 (in_c 0 rfl) rfl) n4 n4a (m_in 33 (in_w 0 32 (in_c 0 rfl) rfl) rfl)))

/-- GraphHouseModel.hanging -/
theorem k_342 {Z : AmZ} {A : Nat → Nat} {s : GS} {ex : va_W} {d : Nat} {X : AmX} {x1 : Int32} {x2 : Int32} (hd : 3 ≤ d) (hI : Inv s) (h1 : In x1 0 31) : GC Z d 342 [.ref (A 109), .int x1, .int x2] (WW Z A s ++ ex) 0 0 (fun v u => ∃ z : Int32, v = some (.int z) ∧ u = WW Z A s ++ ex ∧ In z (-2147483648) 2147483647 ∧ (bt z (x1).toNatClampNeg = true) ∧ (HNG s (x2) (z)) ∧ (∀ u : Nat, bt (z) u = true → u = (x1).toNatClampNeg ∨ bt (x2) u = true)) X := by
  intro post xp hP hX
  obtain ⟨u_109_20, e_109_20⟩ : ∃ w, w = s.2.2.1 109 20 := ⟨_, rfl⟩
  have ro_109_20 := inv_F hI 0 32 rfl e_109_20
  have ct7 : ∀ (k7 : Nat) (y7_3 : Int32) (y7_4 : Int32), (bt y7_3 (x1).toNatClampNeg = true) → (∀ u w : Nat, (u : Int) < (s.2.2.1 109 20).toInt → bt (y7_4) u = true → bt (s.1 138 u) w = true → bt (x2) w = true → bt (y7_3) w = true) → (∀ u : Nat, bt (y7_3) u = true → u = (x1).toNatClampNeg ∨ bt (x2) u = true) → 2 * (32 - cb y7_3) + (if y7_3 = y7_4 then 0 else 1) < k7 → GG Z (d - 1) 342 post (gx xp) (1 + k7 * 32401) 7 (fun j => xlook j [(0, .ref (A 109)), (1, .int x1), (2, .int x2), (3, .int y7_3), (4, .int y7_4)]) [] (WW Z A s ++ ex) 0 0 := by
    intro k7
    induction k7 with
    | zero => intro y7_3 y7_4 g7_0 g7_1 g7_2 mm7; exact absurd mm7 (Nat.not_lt_zero _)
    | succ k7 ih7 =>
      intro y7_3 y7_4 g7_0 g7_1 g7_2 mm7
      refine gg_w (M := 1 + k7 * 32401 + 32401) gws ?_
      have ct19 : ∀ (k19 : Nat) (y19_3 : Int32) (y19_4 : Int32) (y19_5 : Int32), (In y19_5 0 32) → (bt y19_3 (x1).toNatClampNeg = true) → (∀ k, bt y19_4 k = true → bt y19_3 k = true) → (2 * (32 - cb y19_4) < k7) → (∀ u w : Nat, (u : Int) < (y19_5).toInt → bt (y19_4) u = true → bt (s.1 138 u) w = true → bt (x2) w = true → bt (y19_3) w = true) → (∀ u : Nat, bt (y19_3) u = true → u = (x1).toNatClampNeg ∨ bt (x2) u = true) → 32 - (y19_5).toInt < (k19 : Int) → GG Z (d - 1) 342 post (gx xp) (1 + k7 * 32401 + 1 + k19 * 900) 19 (fun j => xlook j [(0, .ref (A 109)), (1, .int x1), (2, .int x2), (3, .int y19_3), (4, .int y19_4), (5, .int y19_5)]) [] (WW Z A s ++ ex) 0 0 := by
        intro k19
        induction k19 with
        | zero => intro y19_3 y19_4 y19_5 j19_5 g19_0 g19_1 g19_2 g19_3 g19_4 mm19; exact m_no mm19 j19_5 rfl
        | succ k19 ih19 =>
          intro y19_3 y19_4 y19_5 j19_5 g19_0 g19_1 g19_2 g19_3 g19_4 mm19
          refine gg_w (M := 1 + k7 * 32401 + 1 + k19 * 900 + 900) gws ?_
          refine g_iload 21 (gd rfl) rfl rfl ?_
          refine g_aload_n 22 (gd rfl) rfl rfl ?_
          refine g_getI 25 (gd rfl) rfl rfl rfl (fun z22 e22 => ?_)
          have q22 : u_109_20 = z22 := (e_109_20).trans e22.symm
          subst q22
          refine g_cmp_ge 28 60 (gd rfl) rfl rfl (fun c25 => ?_) (fun c25 => ?_)
          · skip
            refine g_goto 7 (gd rfl) rfl ?_
            have n7 : bt y19_3 (x1).toNatClampNeg = true := by first | exact g7_0 | exact g19_0 | (rw [bt_one e2 h1]; simp)
            have n7a : ∀ u w : Nat, (u : Int) < (s.2.2.1 109 20).toInt → bt (y19_4) u = true → bt (s.1 138 u) w = true → bt (x2) w = true → bt (y19_3) w = true := by exact fun u w hu => g19_3 u w (by rw [← e_109_20] at hu; (first | have a0 := oa3 h1 ro_109_20 j19_5 | ((first | have a0 := in_u h1 | (have a0 := h1; unfold In at a0)); (first | have a1 := in_u ro_109_20 | (have a1 := ro_109_20; unfold In at a1)); (first | have a2 := in_u j19_5 | (have a2 := j19_5; unfold In at a2)))); omega)
            have n7b : ∀ u : Nat, bt (y19_3) u = true → u = (x1).toNatClampNeg ∨ bt (x2) u = true := by exact g19_4
            have m7 : 2 * (32 - cb y19_3) + (if y19_3 = y19_4 then 0 else 1) < k7 := by by_cases hq : y19_3 = y19_4; (rw [if_pos hq, hq]; exact g19_2); (rw [if_neg hq]; have h := cb_ss g19_1 (fun w => hq w.symm); have h2 := cb_le y19_3; omega)
            exact gg_w (by first | exact Nat.le_add_right _ _ | exact gw2 | exact gw3 | exact gwe rfl | exact gwf rfl | exact gwg rfl | exact gwh rfl | omega) (gg_f (gf_cons rfl (gf_cons rfl (gf_cons rfl (gf_cons rfl (gf_cons rfl gf_nil))))) (ih7   y19_3 y19_4  n7 n7a n7b m7))
          · skip
            have i25 := r_lt1 0 31 c25 j19_5 ro_109_20 rfl
            have i25a := r_lt2 1 32 c25 j19_5 ro_109_20 rfl
            refine g_iload_n 29 (gd rfl) rfl rfl ?_
            refine g_iload 31 (gd rfl) rfl rfl ?_
            refine g_iload 33 (gd rfl) rfl rfl ?_
            refine g_calls (As := [.int y19_4, .int y19_5]) (r := [.int y19_3]) 36 (gd rfl) rfl rfl rfl rfl rfl (Nat.le_of_ble_eq_true rfl) (mc := 0) (ms := 0) (Nat.zero_le _) (Nat.zero_le _) (P := fun v u => _) ?_ (fun v u h => h)
            intro po33 xx33 hp33 hx33
            refine g_enter2 (k := 311) (N := 300) (by first | exact dq1 hd rfl | exact dq0 hd rfl | exact dq2 hd rfl | exact dq3 hd rfl | omega) rfl (Nat.le_of_ble_eq_true rfl) ?_
            refine g_iload_n 1 (gd rfl) rfl rfl ?_
            refine g_iload_n 2 (gd rfl) rfl rfl ?_
            refine g_ishr 3 (gd rfl) rfl (fun z33x2 e33x2 => ?_)
            refine g_iconst 1 4 (gd rfl) rfl rfl ?_
            refine g_iand 5 (gd rfl) rfl (fun z33x4 e33x4 => ?_)
            have i33x4 := in_and2 e33x4 (in_c 1 rfl) rfl
            refine g_iconst 1 6 (gd rfl) rfl rfl ?_
            refine g_cmp_ne 9 13 (gd rfl) rfl rfl (fun c33x6 => ?_) (fun c33x6 => ?_)
            · skip
              have i33x6 := r_ne1 0 0 c33x6 i33x4 (in_c 1 rfl) rfl
              refine g_iconst 0 14 (gd rfl) rfl rfl ?_
              refine g_ireturn (gd rfl) rfl (nb01 (in_w 0 1 (in_c 0 rfl) rfl)) (hp33 _ _ ?_)
              show GG _ _ _ _ _ _ _ _ [.int (Int32.ofInt 0), .int y19_3] _ _ _
              refine g_if_eq 39 51 (gd rfl) rfl rfl (fun c36 => ?_) (fun c36 => ?_)
              · skip
                refine g_iconst 0 52 (gd rfl) rfl rfl ?_
                refine g_ior 53 (gd rfl) rfl (fun z52 e52 => ?_)
                refine g_istore_n 54 (gd rfl) rfl (Nat.le_of_ble_eq_true rfl) ?_
                refine g_iinc 57 (gd rfl) rfl rfl (Nat.le_of_ble_eq_true rfl) (fun z54 e54 => ?_)
                have i54 := in_add 1 32 e54 i25 (in_c 1 rfl) rfl rfl
                refine g_goto 19 (gd rfl) rfl ?_
                have n19 : bt z52 (x1).toNatClampNeg = true := by first | exact g7_0 | (rw [bt_or e52, g19_0]; rfl)
                have n19a : ∀ k, bt y19_4 k = true → bt z52 k = true := by first | exact fun k h => h | exact fun k h => by rw [bt_or e52, g19_1 k h]; rfl
                have n19b : 2 * (32 - cb y19_4) < k7 := by first | exact g19_2 | (have hm := mm7; rw [if_neg (fun w => c10 (by rw [w]))] at hm; omega)
                have n19c : ∀ u w : Nat, (u : Int) < (z54).toInt → bt (y19_4) u = true → bt (s.1 138 u) w = true → bt (x2) w = true → bt (z52) w = true := by (intro u w hu h1 h2 h3; by_cases c : u = y19_5.toNatClampNeg; (exfalso; have hb := bt_no e33x2 e33x4 i25 c33x6; rw [c, hb] at h1; cases h1); (rw [bt_or e52, g19_3 u w (by have e5 : y19_5.toNatClampNeg = y19_5.toInt.toNat := rfl; have a0 := h1; unfold In at a0; (first | have a1 := oa3 i25a i25 i54 | ((first | have a1 := in_u i25a | (have a1 := i25a; unfold In at a1)); (first | have a2 := in_u i25 | (have a2 := i25; unfold In at a2)); (first | have a3 := in_u i54 | (have a3 := i54; unfold In at a3)))); have a4 := t_add e54 i25 (in_c 1 rfl) rfl; (first | have a5 := in_u ((in_c 1 rfl)) | (have a5 := (in_c 1 rfl); unfold In at a5)); omega) h1 h2 h3]; rfl))
                have n19d : ∀ u : Nat, bt (z52) u = true → u = (x1).toNatClampNeg ∨ bt (x2) u = true := by (intro u h; rw [bt_or e52] at h; rcases (Bool.or_eq_true _ _).mp h with h | h; (exact g19_4 u h); (rw [show (Int32.ofInt 0) = (0 : Int32) from rfl, bt_z] at h; cases h))
                exact gg_w (by first | exact Nat.le_add_right _ _ | exact gw2 | exact gw3 | exact gwe rfl | exact gwf rfl | exact gwg rfl | exact gwh rfl | omega) (gg_f (gf_cons rfl (gf_cons rfl (gf_cons rfl (gf_cons rfl (gf_cons rfl (gf_cons rfl gf_nil)))))) (ih19  z52 y19_4 z54  (in_w 0 32 i54 rfl) n19 n19a n19b n19c n19d (m_up mm19 (t_add e54 i25 (in_c 1 rfl) rfl) (in_w 1 1 (in_c 1 rfl) rfl))))
              · skip
                exact zn_ne c36 (in_c 0 rfl) rfl
            · skip
              have i33x6 := r_eq1 1 1 c33x6 i33x4 (in_c 1 rfl) rfl
              refine g_iconst 1 10 (gd rfl) rfl rfl ?_
              refine g_goto 14 (gd rfl) rfl ?_
              refine g_ireturn (gd rfl) rfl (nb01 (in_w 0 1 (in_c 1 rfl) rfl)) (hp33 _ _ ?_)
              show GG _ _ _ _ _ _ _ _ [.int (Int32.ofInt 1), .int y19_3] _ _ _
              refine g_if_eq 39 51 (gd rfl) rfl rfl (fun c36 => ?_) (fun c36 => ?_)
              · skip
                exact zn_eq c36 (in_c 1 rfl) rfl
              · skip
                refine g_aload_n 40 (gd rfl) rfl rfl ?_
                refine g_getA (q2 := 138) 43 (gd rfl) rfl rfl rfl rfl ?_
                refine g_iload 45 (gd rfl) rfl rfl ?_
                refine g_iaload 46 (gd rfl) rfl (n := 32) rfl (in_ix i25 rfl) (fun z45 e45 => ?_)
                refine g_iload_n 47 (gd rfl) rfl rfl ?_
                refine g_iand 48 (gd rfl) rfl (fun z47 e47 => ?_)
                refine g_goto 52 (gd rfl) rfl ?_
                refine g_ior 53 (gd rfl) rfl (fun z52 e52 => ?_)
                refine g_istore_n 54 (gd rfl) rfl (Nat.le_of_ble_eq_true rfl) ?_
                refine g_iinc 57 (gd rfl) rfl rfl (Nat.le_of_ble_eq_true rfl) (fun z54 e54 => ?_)
                have i54 := in_add 1 32 e54 i25 (in_c 1 rfl) rfl rfl
                refine g_goto 19 (gd rfl) rfl ?_
                have n19 : bt z52 (x1).toNatClampNeg = true := by first | exact g7_0 | (rw [bt_or e52, g19_0]; rfl)
                have n19a : ∀ k, bt y19_4 k = true → bt z52 k = true := by first | exact fun k h => h | exact fun k h => by rw [bt_or e52, g19_1 k h]; rfl
                have n19b : 2 * (32 - cb y19_4) < k7 := by first | exact g19_2 | (have hm := mm7; rw [if_neg (fun w => c10 (by rw [w]))] at hm; omega)
                have n19c : ∀ u w : Nat, (u : Int) < (z54).toInt → bt (y19_4) u = true → bt (s.1 138 u) w = true → bt (x2) w = true → bt (z52) w = true := by (intro u w hu h1 h2 h3; by_cases c : u = y19_5.toNatClampNeg; (rw [c, ← e45] at h2; rw [bt_or e52, bt_and e47, h2, h3]; cases bt y19_3 w <;> rfl); (rw [bt_or e52, g19_3 u w (by have e5 : y19_5.toNatClampNeg = y19_5.toInt.toNat := rfl; have a0 := h1; unfold In at a0; (first | have a1 := oa3 i25a i25 i54 | ((first | have a1 := in_u i25a | (have a1 := i25a; unfold In at a1)); (first | have a2 := in_u i25 | (have a2 := i25; unfold In at a2)); (first | have a3 := in_u i54 | (have a3 := i54; unfold In at a3)))); have a4 := t_add e54 i25 (in_c 1 rfl) rfl; (first | have a5 := in_u ((in_c 1 rfl)) | (have a5 := (in_c 1 rfl); unfold In at a5)); omega) h1 h2 h3]; rfl))
                have n19d : ∀ u : Nat, bt (z52) u = true → u = (x1).toNatClampNeg ∨ bt (x2) u = true := by (intro u h; rw [bt_or e52] at h; rcases (Bool.or_eq_true _ _).mp h with h | h; (exact g19_4 u h); (rw [bt_and e47] at h; exact Or.inr ((Bool.and_eq_true _ _).mp h).2))
                exact gg_w (by first | exact Nat.le_add_right _ _ | exact gw2 | exact gw3 | exact gwe rfl | exact gwf rfl | exact gwg rfl | exact gwh rfl | omega) (gg_f (gf_cons rfl (gf_cons rfl (gf_cons rfl (gf_cons rfl (gf_cons rfl (gf_cons rfl gf_nil)))))) (ih19  z52 y19_4 z54  (in_w 0 32 i54 rfl) n19 n19a n19b n19c n19d (m_up mm19 (t_add e54 i25 (in_c 1 rfl) rfl) (in_w 1 1 (in_c 1 rfl) rfl))))
      refine g_iload_n 8 (gd rfl) rfl rfl ?_
      refine g_iload 10 (gd rfl) rfl rfl ?_
      refine g_cmp_eq 13 63 (gd rfl) rfl rfl (fun c10 => ?_) (fun c10 => ?_)
      · skip
        refine g_iload_n 64 (gd rfl) rfl rfl ?_
        have n64 : bt y7_3 (x1).toNatClampNeg = true := by exact g7_0
        have n64a : HNG s (x2) (y7_3) := by exact fun u w hu hb1 hb2 hb3 => g7_1 u w hu (by rw [← Int32.toInt_inj.mp c10]; exact hb1) hb2 hb3
        have n64b : ∀ u : Nat, bt (y7_3) u = true → u = (x1).toNatClampNeg ∨ bt (x2) u = true := by exact g7_2
        exact g_ireturn (gd rfl) rfl rfl (hP _ _ ⟨y7_3, rfl, rfl, in_w (-2147483648) 2147483647 (i_rng y7_3) rfl, n64, n64a, n64b⟩)
      · skip
        refine g_iload_n 14 (gd rfl) rfl rfl ?_
        refine g_istore 16 (gd rfl) rfl (Nat.le_of_ble_eq_true rfl) ?_
        refine g_iconst 0 17 (gd rfl) rfl rfl ?_
        refine g_istore 19 (gd rfl) rfl (Nat.le_of_ble_eq_true rfl) ?_
        have n19 : bt y7_3 (x1).toNatClampNeg = true := by first | exact g7_0 | (rw [bt_or e52, g19_0]; rfl)
        have n19a : ∀ k, bt y7_3 k = true → bt y7_3 k = true := by first | exact fun k h => h | exact fun k h => by rw [bt_or e52, g19_1 k h]; rfl
        have n19b : 2 * (32 - cb y7_3) < k7 := by first | exact g19_2 | (have hm := mm7; rw [if_neg (fun w => c10 (by rw [w]))] at hm; omega)
        have n19c : ∀ u w : Nat, (u : Int) < ((Int32.ofInt 0)).toInt → bt (y7_3) u = true → bt (s.1 138 u) w = true → bt (x2) w = true → bt (y7_3) w = true := by (intro u w hu; exfalso; have h0 : (Int32.ofInt 0).toInt = 0 := rfl; omega)
        have n19d : ∀ u : Nat, bt (y7_3) u = true → u = (x1).toNatClampNeg ∨ bt (x2) u = true := by exact g7_2
        exact gg_w (by first | exact Nat.le_add_right _ _ | exact gw2 | exact gw3 | exact gwe rfl | exact gwf rfl | exact gwg rfl | exact gwh rfl | omega) (gg_f (gf_cons rfl (gf_cons rfl (gf_cons rfl (gf_cons rfl (gf_cons rfl (gf_cons rfl gf_nil)))))) (ct19 33  y7_3 y7_3 (Int32.ofInt 0)  (in_w 0 32 (in_c 0 rfl) rfl) n19 n19a n19b n19c n19d (m_in 33 (in_w 0 32 (in_c 0 rfl) rfl) rfl)))
  refine g_enter2 (k := 342) (N := 3241001) (by first | exact dq1 hd rfl | exact dq0 hd rfl | exact dq2 hd rfl | exact dq3 hd rfl | omega) rfl (Nat.le_of_ble_eq_true rfl) ?_
  refine g_iconst 1 1 (gd rfl) rfl rfl ?_
  refine g_iload_n 2 (gd rfl) rfl rfl ?_
  refine g_ishl 3 (gd rfl) rfl (fun z2 e2 => ?_)
  refine g_istore_n 4 (gd rfl) rfl (Nat.le_of_ble_eq_true rfl) ?_
  refine g_iconst 0 5 (gd rfl) rfl rfl ?_
  refine g_istore 7 (gd rfl) rfl (Nat.le_of_ble_eq_true rfl) ?_
  have n7 : bt z2 (x1).toNatClampNeg = true := by first | exact g7_0 | exact g19_0 | (rw [bt_one e2 h1]; simp)
  have n7a : ∀ u w : Nat, (u : Int) < (s.2.2.1 109 20).toInt → bt ((Int32.ofInt 0)) u = true → bt (s.1 138 u) w = true → bt (x2) w = true → bt (z2) w = true := by (intro u w hu h1; exfalso; rw [show (Int32.ofInt 0) = (0 : Int32) from rfl, bt_z] at h1; cases h1)
  have n7b : ∀ u : Nat, bt (z2) u = true → u = (x1).toNatClampNeg ∨ bt (x2) u = true := by (intro u h; rw [bt_one e2 h1] at h; exact Or.inl (of_decide_eq_true h))
  have m7 : 2 * (32 - cb z2) + (if z2 = (Int32.ofInt 0) then 0 else 1) < 100 := by split <;> omega
  exact gg_w (by first | exact Nat.le_of_ble_eq_true rfl | omega) (gg_f (gf_cons rfl (gf_cons rfl (gf_cons rfl (gf_cons rfl (gf_cons rfl gf_nil))))) (ct7 (100)  z2 (Int32.ofInt 0)  n7 n7a n7b m7))

def fm_344 : FM := ([143, 144, 145, 146], [], [], [])
/-- GraphHouseModel.begin -/
theorem k_344 {Z : AmZ} {A : Nat → Nat} {s : GS} {ex : va_W} {d : Nat} {X : AmX} {x1 : Int32} {x2 : Int32} {x3 : Int32} {x4 : Int32} (hd : 4 ≤ d) (hI : Inv s) (h1 : In x1 0 31) (h2 : In x2 0 31) (h3 : In x3 0 32) (h4 : In x4 0 32) : GC Z d 344 [.ref (A 109), .int x1, .int x2, .int x3, .int x4] (WW Z A s ++ ex) 0 0 (fun v u => ∃ t : GS, Inv t ∧ Fr fm_344 s t ∧ v = none ∧ u = WW Z A t ++ ex ∧ (t.1 144 = upd (s.1 144) (x1).toNatClampNeg (x2) ∧ t.1 143 = upd (s.1 143) (x1).toNatClampNeg (x3)) ∧ (∃ w : Int32, t.1 145 = upd (s.1 145) (x1).toNatClampNeg w ∧ ∀ c : Nat, (bt w c = true ↔ ((c : Int) < (x4).toInt ∧ (c : Int) ≤ (x3).toInt ∧ ¬ BRQ s (x2).toNatClampNeg c))) ∧ (∃ w : Int32, t.1 146 = upd (s.1 146) (x1).toNatClampNeg w ∧ WHY s (x2).toNatClampNeg (x1).toInt w)) X := by
  intro post xp hP hX
  have ct62 : ∀ (k62 : Nat) (sc62 : GS) (y62_5 : Int32) (y62_6 : Int32) (y62_7 : Int32), Inv sc62 → Fr fm_344 s sc62 → (In y62_7 0 31) → ((y62_7).toInt ≤ (x1).toInt) → (sc62.1 144 = upd (s.1 144) (x1).toNatClampNeg (x2) ∧ sc62.1 143 = upd (s.1 143) (x1).toNatClampNeg (x3)) → (∃ w : Int32, sc62.1 145 = upd (s.1 145) (x1).toNatClampNeg w ∧ ∀ c : Nat, (bt w c = true ↔ ((c : Int) < (x4).toInt ∧ (c : Int) ≤ (x3).toInt ∧ ¬ BRQ s (x2).toNatClampNeg c))) → (MET (s.1 144) (y62_7).toInt (y62_6)) → (sc62.1 146 = s.1 146) → 31 - (y62_7).toInt < (k62 : Int) → GG Z (d - 1) 344 post (gx xp) (1 + k62 * 900) 62 (fun j => xlook j [(0, .ref (A 109)), (1, .int x1), (2, .int x2), (3, .int x3), (4, .int x4), (5, .int y62_5), (6, .int y62_6), (7, .int y62_7)]) [] (WW Z A sc62 ++ ex) 0 0 := by
    intro k62
    induction k62 with
    | zero => intro sc62 y62_5 y62_6 y62_7 hIc62 hFc62 j62_7 n62_0 g62_0 g62_1 g62_2 g62_3 mm62; exact m_no mm62 j62_7 rfl
    | succ k62 ih62 =>
      intro sc62 y62_5 y62_6 y62_7 hIc62 hFc62 j62_7 n62_0 g62_0 g62_1 g62_2 g62_3 mm62
      refine gg_w (M := 1 + k62 * 900 + 900) gws ?_
      refine g_iload 64 (gd rfl) rfl rfl ?_
      refine g_iload_n 65 (gd rfl) rfl rfl ?_
      refine g_cmp_ge 68 88 (gd rfl) rfl rfl (fun c65 => ?_) (fun c65 => ?_)
      · skip
        refine g_aload_n 89 (gd rfl) rfl rfl ?_
        refine g_getA (q2 := 146) 92 (gd rfl) rfl rfl rfl rfl ?_
        refine g_iload_n 93 (gd rfl) rfl rfl ?_
        refine g_iload_n 94 (gd rfl) rfl rfl ?_
        refine g_iconst 1 95 (gd rfl) rfl rfl ?_
        refine g_iadd 96 (gd rfl) rfl (fun z95 e95 => ?_)
        have i95 := in_add 1 33 e95 h3 (in_c 1 rfl) rfl rfl
        refine g_iload 98 (gd rfl) rfl rfl ?_
        refine g_cmp_ge 101 106 (gd rfl) rfl rfl (fun c98 => ?_) (fun c98 => ?_)
        · skip
          refine g_iload 108 (gd rfl) rfl rfl ?_
          refine g_aload_n 109 (gd rfl) rfl rfl ?_
          refine g_getA (q2 := 138) 112 (gd rfl) rfl rfl rfl rfl ?_
          refine g_iload_n 113 (gd rfl) rfl rfl ?_
          refine g_iaload 114 (gd rfl) rfl (n := 32) rfl (in_ix h2 rfl) (fun z113 e113 => ?_)
          refine g_iand 115 (gd rfl) rfl (fun z114 e114 => ?_)
          refine g_iastore 116 (gd rfl) rfl (n := 33) rfl (in_ix h1 rfl) ?_
          have hI115 := inv_sI (q := 146) (j := x1.toNatClampNeg) hIc62 rfl (in_w (-2147483648) 2147483647 (i_rng z114) rfl)
          have n116 : (sI sc62 146 x1.toNatClampNeg z114).1 144 = upd (s.1 144) (x1).toNatClampNeg (x2) ∧ (sI sc62 146 x1.toNatClampNeg z114).1 143 = upd (s.1 143) (x1).toNatClampNeg (x3) := by exact ⟨by rw [sI_p rfl]; exact g62_0.1, by rw [sI_p rfl]; exact g62_0.2⟩
          have n116a : ∃ w : Int32, (sI sc62 146 x1.toNatClampNeg z114).1 145 = upd (s.1 145) (x1).toNatClampNeg w ∧ ∀ c : Nat, (bt w c = true ↔ ((c : Int) < (x4).toInt ∧ (c : Int) ≤ (x3).toInt ∧ ¬ BRQ s (x2).toNatClampNeg c)) := by rw [sI_p rfl]; exact g62_1
          have n116b : ∃ w : Int32, (sI sc62 146 x1.toNatClampNeg z114).1 146 = upd (s.1 146) (x1).toNatClampNeg w ∧ WHY s (x2).toNatClampNeg (x1).toInt w := by have hm : MET (s.1 144) x1.toInt y62_6 := (by have h := g62_2; rw [show y62_7.toInt = x1.toInt from (by (first | have a0 := oa6 h4 h3 h2 h1 j62_7 i95 | ((first | have a0 := in_u h4 | (have a0 := h4; unfold In at a0)); (first | have a1 := in_u h3 | (have a1 := h3; unfold In at a1)); (first | have a2 := in_u h2 | (have a2 := h2; unfold In at a2)); (first | have a3 := in_u h1 | (have a3 := h1; unfold In at a3)); (first | have a4 := in_u j62_7 | (have a4 := j62_7; unfold In at a4)); (first | have a5 := in_u i95 | (have a5 := i95; unfold In at a5)))); have a6 := t_add e95 h3 (in_c 1 rfl) rfl; (first | have a7 := in_u ((in_c 1 rfl)) | (have a7 := (in_c 1 rfl); unfold In at a7)); omega)] at h; exact h); exact ⟨z114, by rw [sI_q, g62_3], why_2 hm (by rw [e113, hFc62.1 138 rfl]) e114⟩
          exact g_return (gd rfl) rfl (hP _ _ ⟨(sI sc62 146 x1.toNatClampNeg z114), hI115, (fr_sI rfl hFc62), rfl, rfl, n116, n116a, n116b⟩)
        · skip
          have i98 := r_lt1 1 31 c98 i95 h4 rfl
          have i98a := r_lt2 2 32 c98 i95 h4 rfl
          refine g_iload 103 (gd rfl) rfl rfl ?_
          refine g_goto 115 (gd rfl) rfl ?_
          refine g_iastore 116 (gd rfl) rfl (n := 33) rfl (in_ix h1 rfl) ?_
          have hI115 := inv_sI (q := 146) (j := x1.toNatClampNeg) hIc62 rfl (in_w (-2147483648) 2147483647 (i_rng y62_6) rfl)
          have n116 : (sI sc62 146 x1.toNatClampNeg y62_6).1 144 = upd (s.1 144) (x1).toNatClampNeg (x2) ∧ (sI sc62 146 x1.toNatClampNeg y62_6).1 143 = upd (s.1 143) (x1).toNatClampNeg (x3) := by exact ⟨by rw [sI_p rfl]; exact g62_0.1, by rw [sI_p rfl]; exact g62_0.2⟩
          have n116a : ∃ w : Int32, (sI sc62 146 x1.toNatClampNeg y62_6).1 145 = upd (s.1 145) (x1).toNatClampNeg w ∧ ∀ c : Nat, (bt w c = true ↔ ((c : Int) < (x4).toInt ∧ (c : Int) ≤ (x3).toInt ∧ ¬ BRQ s (x2).toNatClampNeg c)) := by rw [sI_p rfl]; exact g62_1
          have n116b : ∃ w : Int32, (sI sc62 146 x1.toNatClampNeg y62_6).1 146 = upd (s.1 146) (x1).toNatClampNeg w ∧ WHY s (x2).toNatClampNeg (x1).toInt w := by have hm : MET (s.1 144) x1.toInt y62_6 := (by have h := g62_2; rw [show y62_7.toInt = x1.toInt from (by (first | have a0 := oa6 i98a h3 h2 h1 j62_7 i98 | ((first | have a0 := in_u i98a | (have a0 := i98a; unfold In at a0)); (first | have a1 := in_u h3 | (have a1 := h3; unfold In at a1)); (first | have a2 := in_u h2 | (have a2 := h2; unfold In at a2)); (first | have a3 := in_u h1 | (have a3 := h1; unfold In at a3)); (first | have a4 := in_u j62_7 | (have a4 := j62_7; unfold In at a4)); (first | have a5 := in_u i98 | (have a5 := i98; unfold In at a5)))); have a6 := t_add e95 h3 (in_c 1 rfl) rfl; (first | have a7 := in_u ((in_c 1 rfl)) | (have a7 := (in_c 1 rfl); unfold In at a7)); omega)] at h; exact h); exact ⟨y62_6, by rw [sI_q, g62_3], why_1 hm⟩
          exact g_return (gd rfl) rfl (hP _ _ ⟨(sI sc62 146 x1.toNatClampNeg y62_6), hI115, (fr_sI rfl hFc62), rfl, rfl, n116, n116a, n116b⟩)
      · skip
        have i65 := r_lt1 0 30 c65 j62_7 h1 rfl
        have i65a := r_lt2 1 31 c65 j62_7 h1 rfl
        refine g_iload 70 (gd rfl) rfl rfl ?_
        refine g_iconst 1 71 (gd rfl) rfl rfl ?_
        refine g_aload_n 72 (gd rfl) rfl rfl ?_
        refine g_getA (q2 := 144) 75 (gd rfl) rfl rfl rfl rfl ?_
        refine g_iload 77 (gd rfl) rfl rfl ?_
        refine g_iaload 78 (gd rfl) rfl (n := 33) rfl (in_ix i65 rfl) (fun z77 e77 => ?_)
        have i77 := inv_I hIc62 (n := 33) (t := 0) 0 31 rfl (in_ix i65 rfl) rfl e77
        refine g_ishl 79 (gd rfl) rfl (fun z78 e78 => ?_)
        refine g_ior 80 (gd rfl) rfl (fun z79 e79 => ?_)
        refine g_istore 82 (gd rfl) rfl (Nat.le_of_ble_eq_true rfl) ?_
        refine g_iinc 85 (gd rfl) rfl rfl (Nat.le_of_ble_eq_true rfl) (fun z82 e82 => ?_)
        have i82 := in_add 1 31 e82 i65 (in_c 1 rfl) rfl rfl
        refine g_goto 62 (gd rfl) rfl ?_
        have n62 : (z82).toInt ≤ (x1).toInt := by (first | have a0 := oa6 h4 h3 h2 i65a i65 i82 | ((first | have a0 := in_u h4 | (have a0 := h4; unfold In at a0)); (first | have a1 := in_u h3 | (have a1 := h3; unfold In at a1)); (first | have a2 := in_u h2 | (have a2 := h2; unfold In at a2)); (first | have a3 := in_u i65a | (have a3 := i65a; unfold In at a3)); (first | have a4 := in_u i65 | (have a4 := i65; unfold In at a4)); (first | have a5 := in_u i82 | (have a5 := i82; unfold In at a5)))); have a6 := t_add e82 i65 (in_c 1 rfl) rfl; (first | have a7 := in_u ((in_c 1 rfl)) | (have a7 := (in_c 1 rfl); unfold In at a7)); omega
        have n62a : sc62.1 144 = upd (s.1 144) (x1).toNatClampNeg (x2) ∧ sc62.1 143 = upd (s.1 143) (x1).toNatClampNeg (x3) := by exact g62_0
        have n62b : ∃ w : Int32, sc62.1 145 = upd (s.1 145) (x1).toNatClampNeg w ∧ ∀ c : Nat, (bt w c = true ↔ ((c : Int) < (x4).toInt ∧ (c : Int) ≤ (x3).toInt ∧ ¬ BRQ s (x2).toNatClampNeg c)) := by exact g62_1
        have n62c : MET (s.1 144) (z82).toInt (z79) := by exact met_s g62_2 (by (first | have a0 := oa6 h4 h3 h2 i65a i65 i82 | ((first | have a0 := in_u h4 | (have a0 := h4; unfold In at a0)); (first | have a1 := in_u h3 | (have a1 := h3; unfold In at a1)); (first | have a2 := in_u h2 | (have a2 := h2; unfold In at a2)); (first | have a3 := in_u i65a | (have a3 := i65a; unfold In at a3)); (first | have a4 := in_u i65 | (have a4 := i65; unfold In at a4)); (first | have a5 := in_u i82 | (have a5 := i82; unfold In at a5)))); have a6 := t_add e82 i65 (in_c 1 rfl) rfl; (first | have a7 := in_u ((in_c 1 rfl)) | (have a7 := (in_c 1 rfl); unfold In at a7)); omega) (by (first | have a0 := oa6 h4 h3 h2 i65a i65 i82 | ((first | have a0 := in_u h4 | (have a0 := h4; unfold In at a0)); (first | have a1 := in_u h3 | (have a1 := h3; unfold In at a1)); (first | have a2 := in_u h2 | (have a2 := h2; unfold In at a2)); (first | have a3 := in_u i65a | (have a3 := i65a; unfold In at a3)); (first | have a4 := in_u i65 | (have a4 := i65; unfold In at a4)); (first | have a5 := in_u i82 | (have a5 := i82; unfold In at a5)))); have a6 := t_add e82 i65 (in_c 1 rfl) rfl; (first | have a7 := in_u ((in_c 1 rfl)) | (have a7 := (in_c 1 rfl); unfold In at a7)); omega) (by rw [e77, g62_0.1, up_n (by show y62_7.toInt.toNat ≠ x1.toInt.toNat; (first | have a0 := oa6 h4 h3 h2 i65a i65 i82 | ((first | have a0 := in_u h4 | (have a0 := h4; unfold In at a0)); (first | have a1 := in_u h3 | (have a1 := h3; unfold In at a1)); (first | have a2 := in_u h2 | (have a2 := h2; unfold In at a2)); (first | have a3 := in_u i65a | (have a3 := i65a; unfold In at a3)); (first | have a4 := in_u i65 | (have a4 := i65; unfold In at a4)); (first | have a5 := in_u i82 | (have a5 := i82; unfold In at a5)))); have a6 := t_add e82 i65 (in_c 1 rfl) rfl; (first | have a7 := in_u ((in_c 1 rfl)) | (have a7 := (in_c 1 rfl); unfold In at a7)); omega)]) i77 e78 e79
        have n62d : sc62.1 146 = s.1 146 := by exact g62_3
        exact gg_w (by first | exact Nat.le_add_right _ _ | exact gw2 | exact gw3 | exact gwe rfl | exact gwf rfl | exact gwg rfl | exact gwh rfl | omega) (gg_f (gf_cons rfl (gf_cons rfl (gf_cons rfl (gf_cons rfl (gf_cons rfl (gf_cons rfl (gf_cons rfl (gf_cons rfl gf_nil)))))))) (ih62 sc62 y62_5 z79 z82 hIc62 hFc62 (in_w 0 31 i82 rfl) n62 n62a n62b n62c n62d (m_up mm62 (t_add e82 i65 (in_c 1 rfl) rfl) (in_w 1 1 (in_c 1 rfl) rfl))))
  refine g_enter2 (k := 344) (N := 29701) (by first | exact dq1 hd rfl | exact dq0 hd rfl | exact dq2 hd rfl | exact dq3 hd rfl | omega) rfl (Nat.le_of_ble_eq_true rfl) ?_
  refine g_iload 2 (gd rfl) rfl rfl ?_
  refine g_bipush 32 4 (gd rfl) rfl rfl ?_
  refine g_cmp_ne 7 11 (gd rfl) rfl rfl (fun c4 => ?_) (fun c4 => ?_)
  · skip
    have i4 := r_ne1 0 31 c4 h4 (in_c 32 rfl) rfl
    refine g_iconst 1 12 (gd rfl) rfl rfl ?_
    refine g_iload 14 (gd rfl) rfl rfl ?_
    refine g_ishl 15 (gd rfl) rfl (fun z14 e14 => ?_)
    refine g_iconst 1 16 (gd rfl) rfl rfl ?_
    refine g_isub 17 (gd rfl) rfl (fun z16 e16 => ?_)
    refine g_istore 19 (gd rfl) rfl (Nat.le_of_ble_eq_true rfl) ?_
    refine g_aload_n 20 (gd rfl) rfl rfl ?_
    refine g_getA (q2 := 144) 23 (gd rfl) rfl rfl rfl rfl ?_
    refine g_iload_n 24 (gd rfl) rfl rfl ?_
    refine g_iload_n 25 (gd rfl) rfl rfl ?_
    refine g_iastore 26 (gd rfl) rfl (n := 33) rfl (in_ix h1 rfl) ?_
    have hI25 := inv_sI (q := 144) (j := x1.toNatClampNeg) hI rfl (in_w 0 31 h2 rfl)
    refine g_aload_n 27 (gd rfl) rfl rfl ?_
    refine g_getA (q2 := 143) 30 (gd rfl) rfl rfl rfl rfl ?_
    refine g_iload_n 31 (gd rfl) rfl rfl ?_
    refine g_iload_n 32 (gd rfl) rfl rfl ?_
    refine g_iastore 33 (gd rfl) rfl (n := 32) rfl (in_ix h1 rfl) ?_
    have hI32 := inv_sI (q := 143) (j := x1.toNatClampNeg) hI25 rfl (in_w (-2147483648) 2147483647 h3 rfl)
    refine g_aload_n 34 (gd rfl) rfl rfl ?_
    refine g_getA (q2 := 145) 37 (gd rfl) rfl rfl rfl rfl ?_
    refine g_iload_n 38 (gd rfl) rfl rfl ?_
    refine g_iload 40 (gd rfl) rfl rfl ?_
    refine g_aload_n 41 (gd rfl) rfl rfl ?_
    refine g_iload_n 42 (gd rfl) rfl rfl ?_
    refine g_callv (X := _) (As := [.int x2]) (r := [.int z16, .int x1, .ref (A 145)]) (b := A 109) (q := 109) 45 (gd rfl) rfl rfl rfl rfl rfl (ww_o rfl) (Nat.le_of_ble_eq_true rfl) (Nat.zero_le _) (Nat.zero_le _) (k_339 (by first | exact dq1 hd rfl | exact dq0 hd rfl | exact dq2 hd rfl | exact dq3 hd rfl | omega) hI32 (in_w 0 31 h2 rfl)) (fun e u h => h) (fun v u h => ?_)
    obtain ⟨z42, rfl, rfl, i42, p42⟩ := h
    show GG _ _ _ _ _ _ _ _ [.int z42, .int z16, .int x1, .ref (A 145)] _ _ _
    refine g_iconst (-1) 46 (gd rfl) rfl rfl ?_
    refine g_ixor 47 (gd rfl) rfl (fun z46 e46 => ?_)
    refine g_iand 48 (gd rfl) rfl (fun z47 e47 => ?_)
    refine g_iload_n 49 (gd rfl) rfl rfl ?_
    refine g_iload 51 (gd rfl) rfl rfl ?_
    refine g_calls (As := [.int x3, .int x4]) (r := [.int z47, .int x1, .ref (A 145)]) 54 (gd rfl) rfl rfl rfl rfl rfl (Nat.le_of_ble_eq_true rfl) (mc := 0) (ms := 0) (Nat.zero_le _) (Nat.zero_le _) (P := fun v u => _) ?_ (fun v u h => h)
    intro po51 xx51 hp51 hx51
    refine g_enter2 (k := 346) (N := 300) (by first | exact dq1 hd rfl | exact dq0 hd rfl | exact dq2 hd rfl | exact dq3 hd rfl | omega) rfl (Nat.le_of_ble_eq_true rfl) ?_
    refine g_iload_n 1 (gd rfl) rfl rfl ?_
    refine g_iconst 1 2 (gd rfl) rfl rfl ?_
    refine g_iadd 3 (gd rfl) rfl (fun z51x2 e51x2 => ?_)
    have i51x2 := in_add 1 33 e51x2 h3 (in_c 1 rfl) rfl rfl
    refine g_iload_n 4 (gd rfl) rfl rfl ?_
    refine g_cmp_ge 7 13 (gd rfl) rfl rfl (fun c51x4 => ?_) (fun c51x4 => ?_)
    · skip
      refine g_iload_n 14 (gd rfl) rfl rfl ?_
      refine g_istore_n 15 (gd rfl) rfl (Nat.le_of_ble_eq_true rfl) ?_
      refine g_iload_n 16 (gd rfl) rfl rfl ?_
      refine g_bipush 32 18 (gd rfl) rfl rfl ?_
      refine g_cmp_lt 21 25 (gd rfl) rfl rfl (fun c51x18 => ?_) (fun c51x18 => ?_)
      · skip
        refine g_iconst 1 26 (gd rfl) rfl rfl ?_
        refine g_iload_n 27 (gd rfl) rfl rfl ?_
        refine g_ishl 28 (gd rfl) rfl (fun z51x27 e51x27 => ?_)
        refine g_iconst 1 29 (gd rfl) rfl rfl ?_
        refine g_isub 30 (gd rfl) rfl (fun z51x29 e51x29 => ?_)
        refine g_ireturn (gd rfl) rfl rfl (hp51 _ _ ?_)
        show GG _ _ _ _ _ _ _ _ [.int z51x29, .int z47, .int x1, .ref (A 145)] _ _ _
        refine g_iand 55 (gd rfl) rfl (fun z54 e54 => ?_)
        refine g_iastore 56 (gd rfl) rfl (n := 33) rfl (in_ix h1 rfl) ?_
        have hI55 := inv_sI (q := 145) (j := x1.toNatClampNeg) hI32 rfl (in_w (-2147483648) 2147483647 (i_rng z54) rfl)
        refine g_iconst 0 57 (gd rfl) rfl rfl ?_
        refine g_istore 59 (gd rfl) rfl (Nat.le_of_ble_eq_true rfl) ?_
        refine g_iconst 0 60 (gd rfl) rfl rfl ?_
        refine g_istore 62 (gd rfl) rfl (Nat.le_of_ble_eq_true rfl) ?_
        have n62 : ((Int32.ofInt 0)).toInt ≤ (x1).toInt := by (first | have a0 := oa6 i4 h3 h2 h1 ((in_c 0 rfl)) i51x2 | ((first | have a0 := in_u i4 | (have a0 := i4; unfold In at a0)); (first | have a1 := in_u h3 | (have a1 := h3; unfold In at a1)); (first | have a2 := in_u h2 | (have a2 := h2; unfold In at a2)); (first | have a3 := in_u h1 | (have a3 := h1; unfold In at a3)); (first | have a4 := in_u ((in_c 0 rfl)) | (have a4 := (in_c 0 rfl); unfold In at a4)); (first | have a5 := in_u i51x2 | (have a5 := i51x2; unfold In at a5)))); have a6 := t_add e51x2 h3 (in_c 1 rfl) rfl; (first | have a7 := in_u ((in_c 1 rfl)) | (have a7 := (in_c 1 rfl); unfold In at a7)); omega
        have n62a : (sI (sI (sI s 144 x1.toNatClampNeg x2) 143 x1.toNatClampNeg x3) 145 x1.toNatClampNeg z54).1 144 = upd (s.1 144) (x1).toNatClampNeg (x2) ∧ (sI (sI (sI s 144 x1.toNatClampNeg x2) 143 x1.toNatClampNeg x3) 145 x1.toNatClampNeg z54).1 143 = upd (s.1 143) (x1).toNatClampNeg (x3) := by exact ⟨by simp [sI], by simp [sI]⟩
        have n62b : ∃ w : Int32, (sI (sI (sI s 144 x1.toNatClampNeg x2) 143 x1.toNatClampNeg x3) 145 x1.toNatClampNeg z54).1 145 = upd (s.1 145) (x1).toNatClampNeg w ∧ ∀ c : Nat, (bt w c = true ↔ ((c : Int) < (x4).toInt ∧ (c : Int) ≤ (x3).toInt ∧ ¬ BRQ s (x2).toNatClampNeg c)) := by exact ⟨z54, by simp [sI], lf_i (most := x4.toInt) (al_1 (k := x4) ⟨by (first | have a0 := oa6 i4 h3 h2 h1 ((in_c 0 rfl)) i51x2 | ((first | have a0 := in_u i4 | (have a0 := i4; unfold In at a0)); (first | have a1 := in_u h3 | (have a1 := h3; unfold In at a1)); (first | have a2 := in_u h2 | (have a2 := h2; unfold In at a2)); (first | have a3 := in_u h1 | (have a3 := h1; unfold In at a3)); (first | have a4 := in_u ((in_c 0 rfl)) | (have a4 := (in_c 0 rfl); unfold In at a4)); (first | have a5 := in_u i51x2 | (have a5 := i51x2; unfold In at a5)))); have a6 := t_add e51x2 h3 (in_c 1 rfl) rfl; (first | have a7 := in_u ((in_c 1 rfl)) | (have a7 := (in_c 1 rfl); unfold In at a7)); omega, by (first | have a0 := oa6 i4 h3 h2 h1 ((in_c 0 rfl)) i51x2 | ((first | have a0 := in_u i4 | (have a0 := i4; unfold In at a0)); (first | have a1 := in_u h3 | (have a1 := h3; unfold In at a1)); (first | have a2 := in_u h2 | (have a2 := h2; unfold In at a2)); (first | have a3 := in_u h1 | (have a3 := h1; unfold In at a3)); (first | have a4 := in_u ((in_c 0 rfl)) | (have a4 := (in_c 0 rfl); unfold In at a4)); (first | have a5 := in_u i51x2 | (have a5 := i51x2; unfold In at a5)))); have a6 := t_add e51x2 h3 (in_c 1 rfl) rfl; (first | have a7 := in_u ((in_c 1 rfl)) | (have a7 := (in_c 1 rfl); unfold In at a7)); omega⟩ e14 e16) (al_1 (k := x4) ⟨by (first | have a0 := oa6 i4 h3 h2 h1 ((in_c 0 rfl)) i51x2 | ((first | have a0 := in_u i4 | (have a0 := i4; unfold In at a0)); (first | have a1 := in_u h3 | (have a1 := h3; unfold In at a1)); (first | have a2 := in_u h2 | (have a2 := h2; unfold In at a2)); (first | have a3 := in_u h1 | (have a3 := h1; unfold In at a3)); (first | have a4 := in_u ((in_c 0 rfl)) | (have a4 := (in_c 0 rfl); unfold In at a4)); (first | have a5 := in_u i51x2 | (have a5 := i51x2; unfold In at a5)))); have a6 := t_add e51x2 h3 (in_c 1 rfl) rfl; (first | have a7 := in_u ((in_c 1 rfl)) | (have a7 := (in_c 1 rfl); unfold In at a7)); omega, by (first | have a0 := oa6 i4 h3 h2 h1 ((in_c 0 rfl)) i51x2 | ((first | have a0 := in_u i4 | (have a0 := i4; unfold In at a0)); (first | have a1 := in_u h3 | (have a1 := h3; unfold In at a1)); (first | have a2 := in_u h2 | (have a2 := h2; unfold In at a2)); (first | have a3 := in_u h1 | (have a3 := h1; unfold In at a3)); (first | have a4 := in_u ((in_c 0 rfl)) | (have a4 := (in_c 0 rfl); unfold In at a4)); (first | have a5 := in_u i51x2 | (have a5 := i51x2; unfold In at a5)))); have a6 := t_add e51x2 h3 (in_c 1 rfl) rfl; (first | have a7 := in_u ((in_c 1 rfl)) | (have a7 := (in_c 1 rfl); unfold In at a7)); omega⟩ e51x27 e51x29) (fun c hc => by (first | have a0 := oa6 i4 h3 h2 h1 ((in_c 0 rfl)) i51x2 | ((first | have a0 := in_u i4 | (have a0 := i4; unfold In at a0)); (first | have a1 := in_u h3 | (have a1 := h3; unfold In at a1)); (first | have a2 := in_u h2 | (have a2 := h2; unfold In at a2)); (first | have a3 := in_u h1 | (have a3 := h1; unfold In at a3)); (first | have a4 := in_u ((in_c 0 rfl)) | (have a4 := (in_c 0 rfl); unfold In at a4)); (first | have a5 := in_u i51x2 | (have a5 := i51x2; unfold In at a5)))); have a6 := t_add e51x2 h3 (in_c 1 rfl) rfl; (first | have a7 := in_u ((in_c 1 rfl)) | (have a7 := (in_c 1 rfl); unfold In at a7)); omega) (by (first | have a0 := oa6 i4 h3 h2 h1 ((in_c 0 rfl)) i51x2 | ((first | have a0 := in_u i4 | (have a0 := i4; unfold In at a0)); (first | have a1 := in_u h3 | (have a1 := h3; unfold In at a1)); (first | have a2 := in_u h2 | (have a2 := h2; unfold In at a2)); (first | have a3 := in_u h1 | (have a3 := h1; unfold In at a3)); (first | have a4 := in_u ((in_c 0 rfl)) | (have a4 := (in_c 0 rfl); unfold In at a4)); (first | have a5 := in_u i51x2 | (have a5 := i51x2; unfold In at a5)))); have a6 := t_add e51x2 h3 (in_c 1 rfl) rfl; (first | have a7 := in_u ((in_c 1 rfl)) | (have a7 := (in_c 1 rfl); unfold In at a7)); omega) p42 e46 e47 e54⟩
        have n62c : MET (s.1 144) ((Int32.ofInt 0)).toInt ((Int32.ofInt 0)) := by exact met_0
        have n62d : (sI (sI (sI s 144 x1.toNatClampNeg x2) 143 x1.toNatClampNeg x3) 145 x1.toNatClampNeg z54).1 146 = s.1 146 := by simp [sI]
        exact gg_w (by first | exact Nat.le_of_ble_eq_true rfl | omega) (gg_f (gf_cons rfl (gf_cons rfl (gf_cons rfl (gf_cons rfl (gf_cons rfl (gf_cons rfl (gf_cons rfl (gf_cons rfl gf_nil)))))))) (ct62 32 (sI (sI (sI s 144 x1.toNatClampNeg x2) 143 x1.toNatClampNeg x3) 145 x1.toNatClampNeg z54) z16 (Int32.ofInt 0) (Int32.ofInt 0) hI55 (fr_sI rfl (fr_sI rfl (fr_sI rfl fr_rf))) (in_w 0 31 (in_c 0 rfl) rfl) n62 n62a n62b n62c n62d (m_in 32 (in_w 0 31 (in_c 0 rfl) rfl) rfl)))
      · skip
        exact n_le c51x18 (in_c 32 rfl) i4 rfl
    · skip
      have i51x4 := r_lt1 1 30 c51x4 i51x2 i4 rfl
      have i51x4a := r_lt2 2 31 c51x4 i51x2 i4 rfl
      refine g_iload_n 8 (gd rfl) rfl rfl ?_
      refine g_iconst 1 9 (gd rfl) rfl rfl ?_
      refine g_iadd 10 (gd rfl) rfl (fun z51x9 e51x9 => ?_)
      have i51x9 := in_add 1 33 e51x9 h3 (in_c 1 rfl) rfl rfl
      refine g_goto 14 (gd rfl) rfl ?_
      refine g_istore_n 15 (gd rfl) rfl (Nat.le_of_ble_eq_true rfl) ?_
      refine g_iload_n 16 (gd rfl) rfl rfl ?_
      refine g_bipush 32 18 (gd rfl) rfl rfl ?_
      refine g_cmp_lt 21 25 (gd rfl) rfl rfl (fun c51x18 => ?_) (fun c51x18 => ?_)
      · skip
        have i51x18 := r_lt1 1 31 c51x18 i51x9 (in_c 32 rfl) rfl
        refine g_iconst 1 26 (gd rfl) rfl rfl ?_
        refine g_iload_n 27 (gd rfl) rfl rfl ?_
        refine g_ishl 28 (gd rfl) rfl (fun z51x27 e51x27 => ?_)
        refine g_iconst 1 29 (gd rfl) rfl rfl ?_
        refine g_isub 30 (gd rfl) rfl (fun z51x29 e51x29 => ?_)
        refine g_ireturn (gd rfl) rfl rfl (hp51 _ _ ?_)
        show GG _ _ _ _ _ _ _ _ [.int z51x29, .int z47, .int x1, .ref (A 145)] _ _ _
        refine g_iand 55 (gd rfl) rfl (fun z54 e54 => ?_)
        refine g_iastore 56 (gd rfl) rfl (n := 33) rfl (in_ix h1 rfl) ?_
        have hI55 := inv_sI (q := 145) (j := x1.toNatClampNeg) hI32 rfl (in_w (-2147483648) 2147483647 (i_rng z54) rfl)
        refine g_iconst 0 57 (gd rfl) rfl rfl ?_
        refine g_istore 59 (gd rfl) rfl (Nat.le_of_ble_eq_true rfl) ?_
        refine g_iconst 0 60 (gd rfl) rfl rfl ?_
        refine g_istore 62 (gd rfl) rfl (Nat.le_of_ble_eq_true rfl) ?_
        have n62 : ((Int32.ofInt 0)).toInt ≤ (x1).toInt := by (first | have a0 := oa6 i51x4a h3 h2 h1 ((in_c 0 rfl)) i51x18 | ((first | have a0 := in_u i51x4a | (have a0 := i51x4a; unfold In at a0)); (first | have a1 := in_u h3 | (have a1 := h3; unfold In at a1)); (first | have a2 := in_u h2 | (have a2 := h2; unfold In at a2)); (first | have a3 := in_u h1 | (have a3 := h1; unfold In at a3)); (first | have a4 := in_u ((in_c 0 rfl)) | (have a4 := (in_c 0 rfl); unfold In at a4)); (first | have a5 := in_u i51x18 | (have a5 := i51x18; unfold In at a5)))); have a6 := t_add e51x9 h3 (in_c 1 rfl) rfl; (first | have a7 := oa2 ((in_c 1 rfl)) i51x4 | ((first | have a7 := in_u ((in_c 1 rfl)) | (have a7 := (in_c 1 rfl); unfold In at a7)); (first | have a8 := in_u i51x4 | (have a8 := i51x4; unfold In at a8)))); have a9 := t_add e51x2 h3 (in_c 1 rfl) rfl; omega
        have n62a : (sI (sI (sI s 144 x1.toNatClampNeg x2) 143 x1.toNatClampNeg x3) 145 x1.toNatClampNeg z54).1 144 = upd (s.1 144) (x1).toNatClampNeg (x2) ∧ (sI (sI (sI s 144 x1.toNatClampNeg x2) 143 x1.toNatClampNeg x3) 145 x1.toNatClampNeg z54).1 143 = upd (s.1 143) (x1).toNatClampNeg (x3) := by exact ⟨by simp [sI], by simp [sI]⟩
        have n62b : ∃ w : Int32, (sI (sI (sI s 144 x1.toNatClampNeg x2) 143 x1.toNatClampNeg x3) 145 x1.toNatClampNeg z54).1 145 = upd (s.1 145) (x1).toNatClampNeg w ∧ ∀ c : Nat, (bt w c = true ↔ ((c : Int) < (x4).toInt ∧ (c : Int) ≤ (x3).toInt ∧ ¬ BRQ s (x2).toNatClampNeg c)) := by exact ⟨z54, by simp [sI], lf_i (most := z51x9.toInt) (al_1 (k := x4) ⟨by (first | have a0 := oa6 i51x4a h3 h2 h1 ((in_c 0 rfl)) i51x18 | ((first | have a0 := in_u i51x4a | (have a0 := i51x4a; unfold In at a0)); (first | have a1 := in_u h3 | (have a1 := h3; unfold In at a1)); (first | have a2 := in_u h2 | (have a2 := h2; unfold In at a2)); (first | have a3 := in_u h1 | (have a3 := h1; unfold In at a3)); (first | have a4 := in_u ((in_c 0 rfl)) | (have a4 := (in_c 0 rfl); unfold In at a4)); (first | have a5 := in_u i51x18 | (have a5 := i51x18; unfold In at a5)))); have a6 := t_add e51x9 h3 (in_c 1 rfl) rfl; (first | have a7 := oa2 ((in_c 1 rfl)) i51x4 | ((first | have a7 := in_u ((in_c 1 rfl)) | (have a7 := (in_c 1 rfl); unfold In at a7)); (first | have a8 := in_u i51x4 | (have a8 := i51x4; unfold In at a8)))); have a9 := t_add e51x2 h3 (in_c 1 rfl) rfl; omega, by (first | have a0 := oa6 i51x4a h3 h2 h1 ((in_c 0 rfl)) i51x18 | ((first | have a0 := in_u i51x4a | (have a0 := i51x4a; unfold In at a0)); (first | have a1 := in_u h3 | (have a1 := h3; unfold In at a1)); (first | have a2 := in_u h2 | (have a2 := h2; unfold In at a2)); (first | have a3 := in_u h1 | (have a3 := h1; unfold In at a3)); (first | have a4 := in_u ((in_c 0 rfl)) | (have a4 := (in_c 0 rfl); unfold In at a4)); (first | have a5 := in_u i51x18 | (have a5 := i51x18; unfold In at a5)))); have a6 := t_add e51x9 h3 (in_c 1 rfl) rfl; (first | have a7 := oa2 ((in_c 1 rfl)) i51x4 | ((first | have a7 := in_u ((in_c 1 rfl)) | (have a7 := (in_c 1 rfl); unfold In at a7)); (first | have a8 := in_u i51x4 | (have a8 := i51x4; unfold In at a8)))); have a9 := t_add e51x2 h3 (in_c 1 rfl) rfl; omega⟩ e14 e16) (al_1 (k := z51x9) ⟨by (first | have a0 := oa6 i51x4a h3 h2 h1 ((in_c 0 rfl)) i51x18 | ((first | have a0 := in_u i51x4a | (have a0 := i51x4a; unfold In at a0)); (first | have a1 := in_u h3 | (have a1 := h3; unfold In at a1)); (first | have a2 := in_u h2 | (have a2 := h2; unfold In at a2)); (first | have a3 := in_u h1 | (have a3 := h1; unfold In at a3)); (first | have a4 := in_u ((in_c 0 rfl)) | (have a4 := (in_c 0 rfl); unfold In at a4)); (first | have a5 := in_u i51x18 | (have a5 := i51x18; unfold In at a5)))); have a6 := t_add e51x9 h3 (in_c 1 rfl) rfl; (first | have a7 := oa2 ((in_c 1 rfl)) i51x4 | ((first | have a7 := in_u ((in_c 1 rfl)) | (have a7 := (in_c 1 rfl); unfold In at a7)); (first | have a8 := in_u i51x4 | (have a8 := i51x4; unfold In at a8)))); have a9 := t_add e51x2 h3 (in_c 1 rfl) rfl; omega, by (first | have a0 := oa6 i51x4a h3 h2 h1 ((in_c 0 rfl)) i51x18 | ((first | have a0 := in_u i51x4a | (have a0 := i51x4a; unfold In at a0)); (first | have a1 := in_u h3 | (have a1 := h3; unfold In at a1)); (first | have a2 := in_u h2 | (have a2 := h2; unfold In at a2)); (first | have a3 := in_u h1 | (have a3 := h1; unfold In at a3)); (first | have a4 := in_u ((in_c 0 rfl)) | (have a4 := (in_c 0 rfl); unfold In at a4)); (first | have a5 := in_u i51x18 | (have a5 := i51x18; unfold In at a5)))); have a6 := t_add e51x9 h3 (in_c 1 rfl) rfl; (first | have a7 := oa2 ((in_c 1 rfl)) i51x4 | ((first | have a7 := in_u ((in_c 1 rfl)) | (have a7 := (in_c 1 rfl); unfold In at a7)); (first | have a8 := in_u i51x4 | (have a8 := i51x4; unfold In at a8)))); have a9 := t_add e51x2 h3 (in_c 1 rfl) rfl; omega⟩ e51x27 e51x29) (fun c hc => by (first | have a0 := oa6 i51x4a h3 h2 h1 ((in_c 0 rfl)) i51x18 | ((first | have a0 := in_u i51x4a | (have a0 := i51x4a; unfold In at a0)); (first | have a1 := in_u h3 | (have a1 := h3; unfold In at a1)); (first | have a2 := in_u h2 | (have a2 := h2; unfold In at a2)); (first | have a3 := in_u h1 | (have a3 := h1; unfold In at a3)); (first | have a4 := in_u ((in_c 0 rfl)) | (have a4 := (in_c 0 rfl); unfold In at a4)); (first | have a5 := in_u i51x18 | (have a5 := i51x18; unfold In at a5)))); have a6 := t_add e51x9 h3 (in_c 1 rfl) rfl; (first | have a7 := oa2 ((in_c 1 rfl)) i51x4 | ((first | have a7 := in_u ((in_c 1 rfl)) | (have a7 := (in_c 1 rfl); unfold In at a7)); (first | have a8 := in_u i51x4 | (have a8 := i51x4; unfold In at a8)))); have a9 := t_add e51x2 h3 (in_c 1 rfl) rfl; omega) (by (first | have a0 := oa6 i51x4a h3 h2 h1 ((in_c 0 rfl)) i51x18 | ((first | have a0 := in_u i51x4a | (have a0 := i51x4a; unfold In at a0)); (first | have a1 := in_u h3 | (have a1 := h3; unfold In at a1)); (first | have a2 := in_u h2 | (have a2 := h2; unfold In at a2)); (first | have a3 := in_u h1 | (have a3 := h1; unfold In at a3)); (first | have a4 := in_u ((in_c 0 rfl)) | (have a4 := (in_c 0 rfl); unfold In at a4)); (first | have a5 := in_u i51x18 | (have a5 := i51x18; unfold In at a5)))); have a6 := t_add e51x9 h3 (in_c 1 rfl) rfl; (first | have a7 := oa2 ((in_c 1 rfl)) i51x4 | ((first | have a7 := in_u ((in_c 1 rfl)) | (have a7 := (in_c 1 rfl); unfold In at a7)); (first | have a8 := in_u i51x4 | (have a8 := i51x4; unfold In at a8)))); have a9 := t_add e51x2 h3 (in_c 1 rfl) rfl; omega) p42 e46 e47 e54⟩
        have n62c : MET (s.1 144) ((Int32.ofInt 0)).toInt ((Int32.ofInt 0)) := by exact met_0
        have n62d : (sI (sI (sI s 144 x1.toNatClampNeg x2) 143 x1.toNatClampNeg x3) 145 x1.toNatClampNeg z54).1 146 = s.1 146 := by simp [sI]
        exact gg_w (by first | exact Nat.le_of_ble_eq_true rfl | omega) (gg_f (gf_cons rfl (gf_cons rfl (gf_cons rfl (gf_cons rfl (gf_cons rfl (gf_cons rfl (gf_cons rfl (gf_cons rfl gf_nil)))))))) (ct62 32 (sI (sI (sI s 144 x1.toNatClampNeg x2) 143 x1.toNatClampNeg x3) 145 x1.toNatClampNeg z54) z16 (Int32.ofInt 0) (Int32.ofInt 0) hI55 (fr_sI rfl (fr_sI rfl (fr_sI rfl fr_rf))) (in_w 0 31 (in_c 0 rfl) rfl) n62 n62a n62b n62c n62d (m_in 32 (in_w 0 31 (in_c 0 rfl) rfl) rfl)))
      · skip
        have i51x18 := r_le2 32 33 c51x18 (in_c 32 rfl) i51x9 rfl
        refine g_iconst (-1) 22 (gd rfl) rfl rfl ?_
        refine g_goto 30 (gd rfl) rfl ?_
        refine g_ireturn (gd rfl) rfl rfl (hp51 _ _ ?_)
        show GG _ _ _ _ _ _ _ _ [.int (Int32.ofInt (-1)), .int z47, .int x1, .ref (A 145)] _ _ _
        refine g_iand 55 (gd rfl) rfl (fun z54 e54 => ?_)
        refine g_iastore 56 (gd rfl) rfl (n := 33) rfl (in_ix h1 rfl) ?_
        have hI55 := inv_sI (q := 145) (j := x1.toNatClampNeg) hI32 rfl (in_w (-2147483648) 2147483647 (i_rng z54) rfl)
        refine g_iconst 0 57 (gd rfl) rfl rfl ?_
        refine g_istore 59 (gd rfl) rfl (Nat.le_of_ble_eq_true rfl) ?_
        refine g_iconst 0 60 (gd rfl) rfl rfl ?_
        refine g_istore 62 (gd rfl) rfl (Nat.le_of_ble_eq_true rfl) ?_
        have n62 : ((Int32.ofInt 0)).toInt ≤ (x1).toInt := by (first | have a0 := oa6 i51x4a h3 h2 h1 ((in_c 0 rfl)) i51x18 | ((first | have a0 := in_u i51x4a | (have a0 := i51x4a; unfold In at a0)); (first | have a1 := in_u h3 | (have a1 := h3; unfold In at a1)); (first | have a2 := in_u h2 | (have a2 := h2; unfold In at a2)); (first | have a3 := in_u h1 | (have a3 := h1; unfold In at a3)); (first | have a4 := in_u ((in_c 0 rfl)) | (have a4 := (in_c 0 rfl); unfold In at a4)); (first | have a5 := in_u i51x18 | (have a5 := i51x18; unfold In at a5)))); have a6 := t_add e51x9 h3 (in_c 1 rfl) rfl; (first | have a7 := oa2 ((in_c 1 rfl)) i51x4 | ((first | have a7 := in_u ((in_c 1 rfl)) | (have a7 := (in_c 1 rfl); unfold In at a7)); (first | have a8 := in_u i51x4 | (have a8 := i51x4; unfold In at a8)))); have a9 := t_add e51x2 h3 (in_c 1 rfl) rfl; omega
        have n62a : (sI (sI (sI s 144 x1.toNatClampNeg x2) 143 x1.toNatClampNeg x3) 145 x1.toNatClampNeg z54).1 144 = upd (s.1 144) (x1).toNatClampNeg (x2) ∧ (sI (sI (sI s 144 x1.toNatClampNeg x2) 143 x1.toNatClampNeg x3) 145 x1.toNatClampNeg z54).1 143 = upd (s.1 143) (x1).toNatClampNeg (x3) := by exact ⟨by simp [sI], by simp [sI]⟩
        have n62b : ∃ w : Int32, (sI (sI (sI s 144 x1.toNatClampNeg x2) 143 x1.toNatClampNeg x3) 145 x1.toNatClampNeg z54).1 145 = upd (s.1 145) (x1).toNatClampNeg w ∧ ∀ c : Nat, (bt w c = true ↔ ((c : Int) < (x4).toInt ∧ (c : Int) ≤ (x3).toInt ∧ ¬ BRQ s (x2).toNatClampNeg c)) := by exact ⟨z54, by simp [sI], lf_i (most := z51x9.toInt) (al_1 (k := x4) ⟨by (first | have a0 := oa6 i51x4a h3 h2 h1 ((in_c 0 rfl)) i51x18 | ((first | have a0 := in_u i51x4a | (have a0 := i51x4a; unfold In at a0)); (first | have a1 := in_u h3 | (have a1 := h3; unfold In at a1)); (first | have a2 := in_u h2 | (have a2 := h2; unfold In at a2)); (first | have a3 := in_u h1 | (have a3 := h1; unfold In at a3)); (first | have a4 := in_u ((in_c 0 rfl)) | (have a4 := (in_c 0 rfl); unfold In at a4)); (first | have a5 := in_u i51x18 | (have a5 := i51x18; unfold In at a5)))); have a6 := t_add e51x9 h3 (in_c 1 rfl) rfl; (first | have a7 := oa2 ((in_c 1 rfl)) i51x4 | ((first | have a7 := in_u ((in_c 1 rfl)) | (have a7 := (in_c 1 rfl); unfold In at a7)); (first | have a8 := in_u i51x4 | (have a8 := i51x4; unfold In at a8)))); have a9 := t_add e51x2 h3 (in_c 1 rfl) rfl; omega, by (first | have a0 := oa6 i51x4a h3 h2 h1 ((in_c 0 rfl)) i51x18 | ((first | have a0 := in_u i51x4a | (have a0 := i51x4a; unfold In at a0)); (first | have a1 := in_u h3 | (have a1 := h3; unfold In at a1)); (first | have a2 := in_u h2 | (have a2 := h2; unfold In at a2)); (first | have a3 := in_u h1 | (have a3 := h1; unfold In at a3)); (first | have a4 := in_u ((in_c 0 rfl)) | (have a4 := (in_c 0 rfl); unfold In at a4)); (first | have a5 := in_u i51x18 | (have a5 := i51x18; unfold In at a5)))); have a6 := t_add e51x9 h3 (in_c 1 rfl) rfl; (first | have a7 := oa2 ((in_c 1 rfl)) i51x4 | ((first | have a7 := in_u ((in_c 1 rfl)) | (have a7 := (in_c 1 rfl); unfold In at a7)); (first | have a8 := in_u i51x4 | (have a8 := i51x4; unfold In at a8)))); have a9 := t_add e51x2 h3 (in_c 1 rfl) rfl; omega⟩ e14 e16) (al_2 (by (first | have a0 := oa6 i51x4a h3 h2 h1 ((in_c 0 rfl)) i51x18 | ((first | have a0 := in_u i51x4a | (have a0 := i51x4a; unfold In at a0)); (first | have a1 := in_u h3 | (have a1 := h3; unfold In at a1)); (first | have a2 := in_u h2 | (have a2 := h2; unfold In at a2)); (first | have a3 := in_u h1 | (have a3 := h1; unfold In at a3)); (first | have a4 := in_u ((in_c 0 rfl)) | (have a4 := (in_c 0 rfl); unfold In at a4)); (first | have a5 := in_u i51x18 | (have a5 := i51x18; unfold In at a5)))); have a6 := t_add e51x9 h3 (in_c 1 rfl) rfl; (first | have a7 := oa2 ((in_c 1 rfl)) i51x4 | ((first | have a7 := in_u ((in_c 1 rfl)) | (have a7 := (in_c 1 rfl); unfold In at a7)); (first | have a8 := in_u i51x4 | (have a8 := i51x4; unfold In at a8)))); have a9 := t_add e51x2 h3 (in_c 1 rfl) rfl; omega)) (fun c hc => by (first | have a0 := oa6 i51x4a h3 h2 h1 ((in_c 0 rfl)) i51x18 | ((first | have a0 := in_u i51x4a | (have a0 := i51x4a; unfold In at a0)); (first | have a1 := in_u h3 | (have a1 := h3; unfold In at a1)); (first | have a2 := in_u h2 | (have a2 := h2; unfold In at a2)); (first | have a3 := in_u h1 | (have a3 := h1; unfold In at a3)); (first | have a4 := in_u ((in_c 0 rfl)) | (have a4 := (in_c 0 rfl); unfold In at a4)); (first | have a5 := in_u i51x18 | (have a5 := i51x18; unfold In at a5)))); have a6 := t_add e51x9 h3 (in_c 1 rfl) rfl; (first | have a7 := oa2 ((in_c 1 rfl)) i51x4 | ((first | have a7 := in_u ((in_c 1 rfl)) | (have a7 := (in_c 1 rfl); unfold In at a7)); (first | have a8 := in_u i51x4 | (have a8 := i51x4; unfold In at a8)))); have a9 := t_add e51x2 h3 (in_c 1 rfl) rfl; omega) (by (first | have a0 := oa6 i51x4a h3 h2 h1 ((in_c 0 rfl)) i51x18 | ((first | have a0 := in_u i51x4a | (have a0 := i51x4a; unfold In at a0)); (first | have a1 := in_u h3 | (have a1 := h3; unfold In at a1)); (first | have a2 := in_u h2 | (have a2 := h2; unfold In at a2)); (first | have a3 := in_u h1 | (have a3 := h1; unfold In at a3)); (first | have a4 := in_u ((in_c 0 rfl)) | (have a4 := (in_c 0 rfl); unfold In at a4)); (first | have a5 := in_u i51x18 | (have a5 := i51x18; unfold In at a5)))); have a6 := t_add e51x9 h3 (in_c 1 rfl) rfl; (first | have a7 := oa2 ((in_c 1 rfl)) i51x4 | ((first | have a7 := in_u ((in_c 1 rfl)) | (have a7 := (in_c 1 rfl); unfold In at a7)); (first | have a8 := in_u i51x4 | (have a8 := i51x4; unfold In at a8)))); have a9 := t_add e51x2 h3 (in_c 1 rfl) rfl; omega) p42 e46 e47 e54⟩
        have n62c : MET (s.1 144) ((Int32.ofInt 0)).toInt ((Int32.ofInt 0)) := by exact met_0
        have n62d : (sI (sI (sI s 144 x1.toNatClampNeg x2) 143 x1.toNatClampNeg x3) 145 x1.toNatClampNeg z54).1 146 = s.1 146 := by simp [sI]
        exact gg_w (by first | exact Nat.le_of_ble_eq_true rfl | omega) (gg_f (gf_cons rfl (gf_cons rfl (gf_cons rfl (gf_cons rfl (gf_cons rfl (gf_cons rfl (gf_cons rfl (gf_cons rfl gf_nil)))))))) (ct62 32 (sI (sI (sI s 144 x1.toNatClampNeg x2) 143 x1.toNatClampNeg x3) 145 x1.toNatClampNeg z54) z16 (Int32.ofInt 0) (Int32.ofInt 0) hI55 (fr_sI rfl (fr_sI rfl (fr_sI rfl fr_rf))) (in_w 0 31 (in_c 0 rfl) rfl) n62 n62a n62b n62c n62d (m_in 32 (in_w 0 31 (in_c 0 rfl) rfl) rfl)))
  · skip
    have i4 := r_eq1 32 32 c4 h4 (in_c 32 rfl) rfl
    refine g_iconst (-1) 8 (gd rfl) rfl rfl ?_
    refine g_goto 17 (gd rfl) rfl ?_
    refine g_istore 19 (gd rfl) rfl (Nat.le_of_ble_eq_true rfl) ?_
    refine g_aload_n 20 (gd rfl) rfl rfl ?_
    refine g_getA (q2 := 144) 23 (gd rfl) rfl rfl rfl rfl ?_
    refine g_iload_n 24 (gd rfl) rfl rfl ?_
    refine g_iload_n 25 (gd rfl) rfl rfl ?_
    refine g_iastore 26 (gd rfl) rfl (n := 33) rfl (in_ix h1 rfl) ?_
    have hI25 := inv_sI (q := 144) (j := x1.toNatClampNeg) hI rfl (in_w 0 31 h2 rfl)
    refine g_aload_n 27 (gd rfl) rfl rfl ?_
    refine g_getA (q2 := 143) 30 (gd rfl) rfl rfl rfl rfl ?_
    refine g_iload_n 31 (gd rfl) rfl rfl ?_
    refine g_iload_n 32 (gd rfl) rfl rfl ?_
    refine g_iastore 33 (gd rfl) rfl (n := 32) rfl (in_ix h1 rfl) ?_
    have hI32 := inv_sI (q := 143) (j := x1.toNatClampNeg) hI25 rfl (in_w (-2147483648) 2147483647 h3 rfl)
    refine g_aload_n 34 (gd rfl) rfl rfl ?_
    refine g_getA (q2 := 145) 37 (gd rfl) rfl rfl rfl rfl ?_
    refine g_iload_n 38 (gd rfl) rfl rfl ?_
    refine g_iload 40 (gd rfl) rfl rfl ?_
    refine g_aload_n 41 (gd rfl) rfl rfl ?_
    refine g_iload_n 42 (gd rfl) rfl rfl ?_
    refine g_callv (X := _) (As := [.int x2]) (r := [.int (Int32.ofInt (-1)), .int x1, .ref (A 145)]) (b := A 109) (q := 109) 45 (gd rfl) rfl rfl rfl rfl rfl (ww_o rfl) (Nat.le_of_ble_eq_true rfl) (Nat.zero_le _) (Nat.zero_le _) (k_339 (by first | exact dq1 hd rfl | exact dq0 hd rfl | exact dq2 hd rfl | exact dq3 hd rfl | omega) hI32 (in_w 0 31 h2 rfl)) (fun e u h => h) (fun v u h => ?_)
    obtain ⟨z42, rfl, rfl, i42, p42⟩ := h
    show GG _ _ _ _ _ _ _ _ [.int z42, .int (Int32.ofInt (-1)), .int x1, .ref (A 145)] _ _ _
    refine g_iconst (-1) 46 (gd rfl) rfl rfl ?_
    refine g_ixor 47 (gd rfl) rfl (fun z46 e46 => ?_)
    refine g_iand 48 (gd rfl) rfl (fun z47 e47 => ?_)
    refine g_iload_n 49 (gd rfl) rfl rfl ?_
    refine g_iload 51 (gd rfl) rfl rfl ?_
    refine g_calls (As := [.int x3, .int x4]) (r := [.int z47, .int x1, .ref (A 145)]) 54 (gd rfl) rfl rfl rfl rfl rfl (Nat.le_of_ble_eq_true rfl) (mc := 0) (ms := 0) (Nat.zero_le _) (Nat.zero_le _) (P := fun v u => _) ?_ (fun v u h => h)
    intro po51 xx51 hp51 hx51
    refine g_enter2 (k := 346) (N := 300) (by first | exact dq1 hd rfl | exact dq0 hd rfl | exact dq2 hd rfl | exact dq3 hd rfl | omega) rfl (Nat.le_of_ble_eq_true rfl) ?_
    refine g_iload_n 1 (gd rfl) rfl rfl ?_
    refine g_iconst 1 2 (gd rfl) rfl rfl ?_
    refine g_iadd 3 (gd rfl) rfl (fun z51x2 e51x2 => ?_)
    have i51x2 := in_add 1 33 e51x2 h3 (in_c 1 rfl) rfl rfl
    refine g_iload_n 4 (gd rfl) rfl rfl ?_
    refine g_cmp_ge 7 13 (gd rfl) rfl rfl (fun c51x4 => ?_) (fun c51x4 => ?_)
    · skip
      have i51x4 := r_le2 32 33 c51x4 i4 i51x2 rfl
      refine g_iload_n 14 (gd rfl) rfl rfl ?_
      refine g_istore_n 15 (gd rfl) rfl (Nat.le_of_ble_eq_true rfl) ?_
      refine g_iload_n 16 (gd rfl) rfl rfl ?_
      refine g_bipush 32 18 (gd rfl) rfl rfl ?_
      refine g_cmp_lt 21 25 (gd rfl) rfl rfl (fun c51x18 => ?_) (fun c51x18 => ?_)
      · skip
        exact n_lt c51x18 i4 (in_c 32 rfl) rfl
      · skip
        refine g_iconst (-1) 22 (gd rfl) rfl rfl ?_
        refine g_goto 30 (gd rfl) rfl ?_
        refine g_ireturn (gd rfl) rfl rfl (hp51 _ _ ?_)
        show GG _ _ _ _ _ _ _ _ [.int (Int32.ofInt (-1)), .int z47, .int x1, .ref (A 145)] _ _ _
        refine g_iand 55 (gd rfl) rfl (fun z54 e54 => ?_)
        refine g_iastore 56 (gd rfl) rfl (n := 33) rfl (in_ix h1 rfl) ?_
        have hI55 := inv_sI (q := 145) (j := x1.toNatClampNeg) hI32 rfl (in_w (-2147483648) 2147483647 (i_rng z54) rfl)
        refine g_iconst 0 57 (gd rfl) rfl rfl ?_
        refine g_istore 59 (gd rfl) rfl (Nat.le_of_ble_eq_true rfl) ?_
        refine g_iconst 0 60 (gd rfl) rfl rfl ?_
        refine g_istore 62 (gd rfl) rfl (Nat.le_of_ble_eq_true rfl) ?_
        have n62 : ((Int32.ofInt 0)).toInt ≤ (x1).toInt := by (first | have a0 := oa7 i4 h3 h2 h1 ((in_c 0 rfl)) ((in_c (-1) rfl)) i51x4 | ((first | have a0 := in_u i4 | (have a0 := i4; unfold In at a0)); (first | have a1 := in_u h3 | (have a1 := h3; unfold In at a1)); (first | have a2 := in_u h2 | (have a2 := h2; unfold In at a2)); (first | have a3 := in_u h1 | (have a3 := h1; unfold In at a3)); (first | have a4 := in_u ((in_c 0 rfl)) | (have a4 := (in_c 0 rfl); unfold In at a4)); (first | have a5 := in_u ((in_c (-1) rfl)) | (have a5 := (in_c (-1) rfl); unfold In at a5)); (first | have a6 := in_u i51x4 | (have a6 := i51x4; unfold In at a6)))); have a7 := t_add e51x2 h3 (in_c 1 rfl) rfl; (first | have a8 := in_u ((in_c 1 rfl)) | (have a8 := (in_c 1 rfl); unfold In at a8)); omega
        have n62a : (sI (sI (sI s 144 x1.toNatClampNeg x2) 143 x1.toNatClampNeg x3) 145 x1.toNatClampNeg z54).1 144 = upd (s.1 144) (x1).toNatClampNeg (x2) ∧ (sI (sI (sI s 144 x1.toNatClampNeg x2) 143 x1.toNatClampNeg x3) 145 x1.toNatClampNeg z54).1 143 = upd (s.1 143) (x1).toNatClampNeg (x3) := by exact ⟨by simp [sI], by simp [sI]⟩
        have n62b : ∃ w : Int32, (sI (sI (sI s 144 x1.toNatClampNeg x2) 143 x1.toNatClampNeg x3) 145 x1.toNatClampNeg z54).1 145 = upd (s.1 145) (x1).toNatClampNeg w ∧ ∀ c : Nat, (bt w c = true ↔ ((c : Int) < (x4).toInt ∧ (c : Int) ≤ (x3).toInt ∧ ¬ BRQ s (x2).toNatClampNeg c)) := by exact ⟨z54, by simp [sI], lf_i (most := x4.toInt) (al_2 (by (first | have a0 := oa7 i4 h3 h2 h1 ((in_c 0 rfl)) ((in_c (-1) rfl)) i51x4 | ((first | have a0 := in_u i4 | (have a0 := i4; unfold In at a0)); (first | have a1 := in_u h3 | (have a1 := h3; unfold In at a1)); (first | have a2 := in_u h2 | (have a2 := h2; unfold In at a2)); (first | have a3 := in_u h1 | (have a3 := h1; unfold In at a3)); (first | have a4 := in_u ((in_c 0 rfl)) | (have a4 := (in_c 0 rfl); unfold In at a4)); (first | have a5 := in_u ((in_c (-1) rfl)) | (have a5 := (in_c (-1) rfl); unfold In at a5)); (first | have a6 := in_u i51x4 | (have a6 := i51x4; unfold In at a6)))); have a7 := t_add e51x2 h3 (in_c 1 rfl) rfl; (first | have a8 := in_u ((in_c 1 rfl)) | (have a8 := (in_c 1 rfl); unfold In at a8)); omega)) (al_2 (by (first | have a0 := oa7 i4 h3 h2 h1 ((in_c 0 rfl)) ((in_c (-1) rfl)) i51x4 | ((first | have a0 := in_u i4 | (have a0 := i4; unfold In at a0)); (first | have a1 := in_u h3 | (have a1 := h3; unfold In at a1)); (first | have a2 := in_u h2 | (have a2 := h2; unfold In at a2)); (first | have a3 := in_u h1 | (have a3 := h1; unfold In at a3)); (first | have a4 := in_u ((in_c 0 rfl)) | (have a4 := (in_c 0 rfl); unfold In at a4)); (first | have a5 := in_u ((in_c (-1) rfl)) | (have a5 := (in_c (-1) rfl); unfold In at a5)); (first | have a6 := in_u i51x4 | (have a6 := i51x4; unfold In at a6)))); have a7 := t_add e51x2 h3 (in_c 1 rfl) rfl; (first | have a8 := in_u ((in_c 1 rfl)) | (have a8 := (in_c 1 rfl); unfold In at a8)); omega)) (fun c hc => by (first | have a0 := oa7 i4 h3 h2 h1 ((in_c 0 rfl)) ((in_c (-1) rfl)) i51x4 | ((first | have a0 := in_u i4 | (have a0 := i4; unfold In at a0)); (first | have a1 := in_u h3 | (have a1 := h3; unfold In at a1)); (first | have a2 := in_u h2 | (have a2 := h2; unfold In at a2)); (first | have a3 := in_u h1 | (have a3 := h1; unfold In at a3)); (first | have a4 := in_u ((in_c 0 rfl)) | (have a4 := (in_c 0 rfl); unfold In at a4)); (first | have a5 := in_u ((in_c (-1) rfl)) | (have a5 := (in_c (-1) rfl); unfold In at a5)); (first | have a6 := in_u i51x4 | (have a6 := i51x4; unfold In at a6)))); have a7 := t_add e51x2 h3 (in_c 1 rfl) rfl; (first | have a8 := in_u ((in_c 1 rfl)) | (have a8 := (in_c 1 rfl); unfold In at a8)); omega) (by (first | have a0 := oa7 i4 h3 h2 h1 ((in_c 0 rfl)) ((in_c (-1) rfl)) i51x4 | ((first | have a0 := in_u i4 | (have a0 := i4; unfold In at a0)); (first | have a1 := in_u h3 | (have a1 := h3; unfold In at a1)); (first | have a2 := in_u h2 | (have a2 := h2; unfold In at a2)); (first | have a3 := in_u h1 | (have a3 := h1; unfold In at a3)); (first | have a4 := in_u ((in_c 0 rfl)) | (have a4 := (in_c 0 rfl); unfold In at a4)); (first | have a5 := in_u ((in_c (-1) rfl)) | (have a5 := (in_c (-1) rfl); unfold In at a5)); (first | have a6 := in_u i51x4 | (have a6 := i51x4; unfold In at a6)))); have a7 := t_add e51x2 h3 (in_c 1 rfl) rfl; (first | have a8 := in_u ((in_c 1 rfl)) | (have a8 := (in_c 1 rfl); unfold In at a8)); omega) p42 e46 e47 e54⟩
        have n62c : MET (s.1 144) ((Int32.ofInt 0)).toInt ((Int32.ofInt 0)) := by exact met_0
        have n62d : (sI (sI (sI s 144 x1.toNatClampNeg x2) 143 x1.toNatClampNeg x3) 145 x1.toNatClampNeg z54).1 146 = s.1 146 := by simp [sI]
        exact gg_w (by first | exact Nat.le_of_ble_eq_true rfl | omega) (gg_f (gf_cons rfl (gf_cons rfl (gf_cons rfl (gf_cons rfl (gf_cons rfl (gf_cons rfl (gf_cons rfl (gf_cons rfl gf_nil)))))))) (ct62 32 (sI (sI (sI s 144 x1.toNatClampNeg x2) 143 x1.toNatClampNeg x3) 145 x1.toNatClampNeg z54) (Int32.ofInt (-1)) (Int32.ofInt 0) (Int32.ofInt 0) hI55 (fr_sI rfl (fr_sI rfl (fr_sI rfl fr_rf))) (in_w 0 31 (in_c 0 rfl) rfl) n62 n62a n62b n62c n62d (m_in 32 (in_w 0 31 (in_c 0 rfl) rfl) rfl)))
    · skip
      have i51x4 := r_lt1 1 31 c51x4 i51x2 i4 rfl
      refine g_iload_n 8 (gd rfl) rfl rfl ?_
      refine g_iconst 1 9 (gd rfl) rfl rfl ?_
      refine g_iadd 10 (gd rfl) rfl (fun z51x9 e51x9 => ?_)
      have i51x9 := in_add 1 33 e51x9 h3 (in_c 1 rfl) rfl rfl
      refine g_goto 14 (gd rfl) rfl ?_
      refine g_istore_n 15 (gd rfl) rfl (Nat.le_of_ble_eq_true rfl) ?_
      refine g_iload_n 16 (gd rfl) rfl rfl ?_
      refine g_bipush 32 18 (gd rfl) rfl rfl ?_
      refine g_cmp_lt 21 25 (gd rfl) rfl rfl (fun c51x18 => ?_) (fun c51x18 => ?_)
      · skip
        have i51x18 := r_lt1 1 31 c51x18 i51x9 (in_c 32 rfl) rfl
        refine g_iconst 1 26 (gd rfl) rfl rfl ?_
        refine g_iload_n 27 (gd rfl) rfl rfl ?_
        refine g_ishl 28 (gd rfl) rfl (fun z51x27 e51x27 => ?_)
        refine g_iconst 1 29 (gd rfl) rfl rfl ?_
        refine g_isub 30 (gd rfl) rfl (fun z51x29 e51x29 => ?_)
        refine g_ireturn (gd rfl) rfl rfl (hp51 _ _ ?_)
        show GG _ _ _ _ _ _ _ _ [.int z51x29, .int z47, .int x1, .ref (A 145)] _ _ _
        refine g_iand 55 (gd rfl) rfl (fun z54 e54 => ?_)
        refine g_iastore 56 (gd rfl) rfl (n := 33) rfl (in_ix h1 rfl) ?_
        have hI55 := inv_sI (q := 145) (j := x1.toNatClampNeg) hI32 rfl (in_w (-2147483648) 2147483647 (i_rng z54) rfl)
        refine g_iconst 0 57 (gd rfl) rfl rfl ?_
        refine g_istore 59 (gd rfl) rfl (Nat.le_of_ble_eq_true rfl) ?_
        refine g_iconst 0 60 (gd rfl) rfl rfl ?_
        refine g_istore 62 (gd rfl) rfl (Nat.le_of_ble_eq_true rfl) ?_
        have n62 : ((Int32.ofInt 0)).toInt ≤ (x1).toInt := by (first | have a0 := oa7 i4 h3 h2 h1 ((in_c 0 rfl)) ((in_c (-1) rfl)) i51x18 | ((first | have a0 := in_u i4 | (have a0 := i4; unfold In at a0)); (first | have a1 := in_u h3 | (have a1 := h3; unfold In at a1)); (first | have a2 := in_u h2 | (have a2 := h2; unfold In at a2)); (first | have a3 := in_u h1 | (have a3 := h1; unfold In at a3)); (first | have a4 := in_u ((in_c 0 rfl)) | (have a4 := (in_c 0 rfl); unfold In at a4)); (first | have a5 := in_u ((in_c (-1) rfl)) | (have a5 := (in_c (-1) rfl); unfold In at a5)); (first | have a6 := in_u i51x18 | (have a6 := i51x18; unfold In at a6)))); have a7 := t_add e51x9 h3 (in_c 1 rfl) rfl; (first | have a8 := oa2 ((in_c 1 rfl)) i51x4 | ((first | have a8 := in_u ((in_c 1 rfl)) | (have a8 := (in_c 1 rfl); unfold In at a8)); (first | have a9 := in_u i51x4 | (have a9 := i51x4; unfold In at a9)))); have a10 := t_add e51x2 h3 (in_c 1 rfl) rfl; omega
        have n62a : (sI (sI (sI s 144 x1.toNatClampNeg x2) 143 x1.toNatClampNeg x3) 145 x1.toNatClampNeg z54).1 144 = upd (s.1 144) (x1).toNatClampNeg (x2) ∧ (sI (sI (sI s 144 x1.toNatClampNeg x2) 143 x1.toNatClampNeg x3) 145 x1.toNatClampNeg z54).1 143 = upd (s.1 143) (x1).toNatClampNeg (x3) := by exact ⟨by simp [sI], by simp [sI]⟩
        have n62b : ∃ w : Int32, (sI (sI (sI s 144 x1.toNatClampNeg x2) 143 x1.toNatClampNeg x3) 145 x1.toNatClampNeg z54).1 145 = upd (s.1 145) (x1).toNatClampNeg w ∧ ∀ c : Nat, (bt w c = true ↔ ((c : Int) < (x4).toInt ∧ (c : Int) ≤ (x3).toInt ∧ ¬ BRQ s (x2).toNatClampNeg c)) := by exact ⟨z54, by simp [sI], lf_i (most := z51x9.toInt) (al_2 (by (first | have a0 := oa7 i4 h3 h2 h1 ((in_c 0 rfl)) ((in_c (-1) rfl)) i51x18 | ((first | have a0 := in_u i4 | (have a0 := i4; unfold In at a0)); (first | have a1 := in_u h3 | (have a1 := h3; unfold In at a1)); (first | have a2 := in_u h2 | (have a2 := h2; unfold In at a2)); (first | have a3 := in_u h1 | (have a3 := h1; unfold In at a3)); (first | have a4 := in_u ((in_c 0 rfl)) | (have a4 := (in_c 0 rfl); unfold In at a4)); (first | have a5 := in_u ((in_c (-1) rfl)) | (have a5 := (in_c (-1) rfl); unfold In at a5)); (first | have a6 := in_u i51x18 | (have a6 := i51x18; unfold In at a6)))); have a7 := t_add e51x9 h3 (in_c 1 rfl) rfl; (first | have a8 := oa2 ((in_c 1 rfl)) i51x4 | ((first | have a8 := in_u ((in_c 1 rfl)) | (have a8 := (in_c 1 rfl); unfold In at a8)); (first | have a9 := in_u i51x4 | (have a9 := i51x4; unfold In at a9)))); have a10 := t_add e51x2 h3 (in_c 1 rfl) rfl; omega)) (al_1 (k := z51x9) ⟨by (first | have a0 := oa7 i4 h3 h2 h1 ((in_c 0 rfl)) ((in_c (-1) rfl)) i51x18 | ((first | have a0 := in_u i4 | (have a0 := i4; unfold In at a0)); (first | have a1 := in_u h3 | (have a1 := h3; unfold In at a1)); (first | have a2 := in_u h2 | (have a2 := h2; unfold In at a2)); (first | have a3 := in_u h1 | (have a3 := h1; unfold In at a3)); (first | have a4 := in_u ((in_c 0 rfl)) | (have a4 := (in_c 0 rfl); unfold In at a4)); (first | have a5 := in_u ((in_c (-1) rfl)) | (have a5 := (in_c (-1) rfl); unfold In at a5)); (first | have a6 := in_u i51x18 | (have a6 := i51x18; unfold In at a6)))); have a7 := t_add e51x9 h3 (in_c 1 rfl) rfl; (first | have a8 := oa2 ((in_c 1 rfl)) i51x4 | ((first | have a8 := in_u ((in_c 1 rfl)) | (have a8 := (in_c 1 rfl); unfold In at a8)); (first | have a9 := in_u i51x4 | (have a9 := i51x4; unfold In at a9)))); have a10 := t_add e51x2 h3 (in_c 1 rfl) rfl; omega, by (first | have a0 := oa7 i4 h3 h2 h1 ((in_c 0 rfl)) ((in_c (-1) rfl)) i51x18 | ((first | have a0 := in_u i4 | (have a0 := i4; unfold In at a0)); (first | have a1 := in_u h3 | (have a1 := h3; unfold In at a1)); (first | have a2 := in_u h2 | (have a2 := h2; unfold In at a2)); (first | have a3 := in_u h1 | (have a3 := h1; unfold In at a3)); (first | have a4 := in_u ((in_c 0 rfl)) | (have a4 := (in_c 0 rfl); unfold In at a4)); (first | have a5 := in_u ((in_c (-1) rfl)) | (have a5 := (in_c (-1) rfl); unfold In at a5)); (first | have a6 := in_u i51x18 | (have a6 := i51x18; unfold In at a6)))); have a7 := t_add e51x9 h3 (in_c 1 rfl) rfl; (first | have a8 := oa2 ((in_c 1 rfl)) i51x4 | ((first | have a8 := in_u ((in_c 1 rfl)) | (have a8 := (in_c 1 rfl); unfold In at a8)); (first | have a9 := in_u i51x4 | (have a9 := i51x4; unfold In at a9)))); have a10 := t_add e51x2 h3 (in_c 1 rfl) rfl; omega⟩ e51x27 e51x29) (fun c hc => by (first | have a0 := oa7 i4 h3 h2 h1 ((in_c 0 rfl)) ((in_c (-1) rfl)) i51x18 | ((first | have a0 := in_u i4 | (have a0 := i4; unfold In at a0)); (first | have a1 := in_u h3 | (have a1 := h3; unfold In at a1)); (first | have a2 := in_u h2 | (have a2 := h2; unfold In at a2)); (first | have a3 := in_u h1 | (have a3 := h1; unfold In at a3)); (first | have a4 := in_u ((in_c 0 rfl)) | (have a4 := (in_c 0 rfl); unfold In at a4)); (first | have a5 := in_u ((in_c (-1) rfl)) | (have a5 := (in_c (-1) rfl); unfold In at a5)); (first | have a6 := in_u i51x18 | (have a6 := i51x18; unfold In at a6)))); have a7 := t_add e51x9 h3 (in_c 1 rfl) rfl; (first | have a8 := oa2 ((in_c 1 rfl)) i51x4 | ((first | have a8 := in_u ((in_c 1 rfl)) | (have a8 := (in_c 1 rfl); unfold In at a8)); (first | have a9 := in_u i51x4 | (have a9 := i51x4; unfold In at a9)))); have a10 := t_add e51x2 h3 (in_c 1 rfl) rfl; omega) (by (first | have a0 := oa7 i4 h3 h2 h1 ((in_c 0 rfl)) ((in_c (-1) rfl)) i51x18 | ((first | have a0 := in_u i4 | (have a0 := i4; unfold In at a0)); (first | have a1 := in_u h3 | (have a1 := h3; unfold In at a1)); (first | have a2 := in_u h2 | (have a2 := h2; unfold In at a2)); (first | have a3 := in_u h1 | (have a3 := h1; unfold In at a3)); (first | have a4 := in_u ((in_c 0 rfl)) | (have a4 := (in_c 0 rfl); unfold In at a4)); (first | have a5 := in_u ((in_c (-1) rfl)) | (have a5 := (in_c (-1) rfl); unfold In at a5)); (first | have a6 := in_u i51x18 | (have a6 := i51x18; unfold In at a6)))); have a7 := t_add e51x9 h3 (in_c 1 rfl) rfl; (first | have a8 := oa2 ((in_c 1 rfl)) i51x4 | ((first | have a8 := in_u ((in_c 1 rfl)) | (have a8 := (in_c 1 rfl); unfold In at a8)); (first | have a9 := in_u i51x4 | (have a9 := i51x4; unfold In at a9)))); have a10 := t_add e51x2 h3 (in_c 1 rfl) rfl; omega) p42 e46 e47 e54⟩
        have n62c : MET (s.1 144) ((Int32.ofInt 0)).toInt ((Int32.ofInt 0)) := by exact met_0
        have n62d : (sI (sI (sI s 144 x1.toNatClampNeg x2) 143 x1.toNatClampNeg x3) 145 x1.toNatClampNeg z54).1 146 = s.1 146 := by simp [sI]
        exact gg_w (by first | exact Nat.le_of_ble_eq_true rfl | omega) (gg_f (gf_cons rfl (gf_cons rfl (gf_cons rfl (gf_cons rfl (gf_cons rfl (gf_cons rfl (gf_cons rfl (gf_cons rfl gf_nil)))))))) (ct62 32 (sI (sI (sI s 144 x1.toNatClampNeg x2) 143 x1.toNatClampNeg x3) 145 x1.toNatClampNeg z54) (Int32.ofInt (-1)) (Int32.ofInt 0) (Int32.ofInt 0) hI55 (fr_sI rfl (fr_sI rfl (fr_sI rfl fr_rf))) (in_w 0 31 (in_c 0 rfl) rfl) n62 n62a n62b n62c n62d (m_in 32 (in_w 0 31 (in_c 0 rfl) rfl) rfl)))
      · skip
        have i51x18 := r_le2 32 33 c51x18 (in_c 32 rfl) i51x9 rfl
        refine g_iconst (-1) 22 (gd rfl) rfl rfl ?_
        refine g_goto 30 (gd rfl) rfl ?_
        refine g_ireturn (gd rfl) rfl rfl (hp51 _ _ ?_)
        show GG _ _ _ _ _ _ _ _ [.int (Int32.ofInt (-1)), .int z47, .int x1, .ref (A 145)] _ _ _
        refine g_iand 55 (gd rfl) rfl (fun z54 e54 => ?_)
        refine g_iastore 56 (gd rfl) rfl (n := 33) rfl (in_ix h1 rfl) ?_
        have hI55 := inv_sI (q := 145) (j := x1.toNatClampNeg) hI32 rfl (in_w (-2147483648) 2147483647 (i_rng z54) rfl)
        refine g_iconst 0 57 (gd rfl) rfl rfl ?_
        refine g_istore 59 (gd rfl) rfl (Nat.le_of_ble_eq_true rfl) ?_
        refine g_iconst 0 60 (gd rfl) rfl rfl ?_
        refine g_istore 62 (gd rfl) rfl (Nat.le_of_ble_eq_true rfl) ?_
        have n62 : ((Int32.ofInt 0)).toInt ≤ (x1).toInt := by (first | have a0 := oa7 i4 h3 h2 h1 ((in_c 0 rfl)) ((in_c (-1) rfl)) i51x18 | ((first | have a0 := in_u i4 | (have a0 := i4; unfold In at a0)); (first | have a1 := in_u h3 | (have a1 := h3; unfold In at a1)); (first | have a2 := in_u h2 | (have a2 := h2; unfold In at a2)); (first | have a3 := in_u h1 | (have a3 := h1; unfold In at a3)); (first | have a4 := in_u ((in_c 0 rfl)) | (have a4 := (in_c 0 rfl); unfold In at a4)); (first | have a5 := in_u ((in_c (-1) rfl)) | (have a5 := (in_c (-1) rfl); unfold In at a5)); (first | have a6 := in_u i51x18 | (have a6 := i51x18; unfold In at a6)))); have a7 := t_add e51x9 h3 (in_c 1 rfl) rfl; (first | have a8 := oa2 ((in_c 1 rfl)) i51x4 | ((first | have a8 := in_u ((in_c 1 rfl)) | (have a8 := (in_c 1 rfl); unfold In at a8)); (first | have a9 := in_u i51x4 | (have a9 := i51x4; unfold In at a9)))); have a10 := t_add e51x2 h3 (in_c 1 rfl) rfl; omega
        have n62a : (sI (sI (sI s 144 x1.toNatClampNeg x2) 143 x1.toNatClampNeg x3) 145 x1.toNatClampNeg z54).1 144 = upd (s.1 144) (x1).toNatClampNeg (x2) ∧ (sI (sI (sI s 144 x1.toNatClampNeg x2) 143 x1.toNatClampNeg x3) 145 x1.toNatClampNeg z54).1 143 = upd (s.1 143) (x1).toNatClampNeg (x3) := by exact ⟨by simp [sI], by simp [sI]⟩
        have n62b : ∃ w : Int32, (sI (sI (sI s 144 x1.toNatClampNeg x2) 143 x1.toNatClampNeg x3) 145 x1.toNatClampNeg z54).1 145 = upd (s.1 145) (x1).toNatClampNeg w ∧ ∀ c : Nat, (bt w c = true ↔ ((c : Int) < (x4).toInt ∧ (c : Int) ≤ (x3).toInt ∧ ¬ BRQ s (x2).toNatClampNeg c)) := by exact ⟨z54, by simp [sI], lf_i (most := z51x9.toInt) (al_2 (by (first | have a0 := oa7 i4 h3 h2 h1 ((in_c 0 rfl)) ((in_c (-1) rfl)) i51x18 | ((first | have a0 := in_u i4 | (have a0 := i4; unfold In at a0)); (first | have a1 := in_u h3 | (have a1 := h3; unfold In at a1)); (first | have a2 := in_u h2 | (have a2 := h2; unfold In at a2)); (first | have a3 := in_u h1 | (have a3 := h1; unfold In at a3)); (first | have a4 := in_u ((in_c 0 rfl)) | (have a4 := (in_c 0 rfl); unfold In at a4)); (first | have a5 := in_u ((in_c (-1) rfl)) | (have a5 := (in_c (-1) rfl); unfold In at a5)); (first | have a6 := in_u i51x18 | (have a6 := i51x18; unfold In at a6)))); have a7 := t_add e51x9 h3 (in_c 1 rfl) rfl; (first | have a8 := oa2 ((in_c 1 rfl)) i51x4 | ((first | have a8 := in_u ((in_c 1 rfl)) | (have a8 := (in_c 1 rfl); unfold In at a8)); (first | have a9 := in_u i51x4 | (have a9 := i51x4; unfold In at a9)))); have a10 := t_add e51x2 h3 (in_c 1 rfl) rfl; omega)) (al_2 (by (first | have a0 := oa7 i4 h3 h2 h1 ((in_c 0 rfl)) ((in_c (-1) rfl)) i51x18 | ((first | have a0 := in_u i4 | (have a0 := i4; unfold In at a0)); (first | have a1 := in_u h3 | (have a1 := h3; unfold In at a1)); (first | have a2 := in_u h2 | (have a2 := h2; unfold In at a2)); (first | have a3 := in_u h1 | (have a3 := h1; unfold In at a3)); (first | have a4 := in_u ((in_c 0 rfl)) | (have a4 := (in_c 0 rfl); unfold In at a4)); (first | have a5 := in_u ((in_c (-1) rfl)) | (have a5 := (in_c (-1) rfl); unfold In at a5)); (first | have a6 := in_u i51x18 | (have a6 := i51x18; unfold In at a6)))); have a7 := t_add e51x9 h3 (in_c 1 rfl) rfl; (first | have a8 := oa2 ((in_c 1 rfl)) i51x4 | ((first | have a8 := in_u ((in_c 1 rfl)) | (have a8 := (in_c 1 rfl); unfold In at a8)); (first | have a9 := in_u i51x4 | (have a9 := i51x4; unfold In at a9)))); have a10 := t_add e51x2 h3 (in_c 1 rfl) rfl; omega)) (fun c hc => by (first | have a0 := oa7 i4 h3 h2 h1 ((in_c 0 rfl)) ((in_c (-1) rfl)) i51x18 | ((first | have a0 := in_u i4 | (have a0 := i4; unfold In at a0)); (first | have a1 := in_u h3 | (have a1 := h3; unfold In at a1)); (first | have a2 := in_u h2 | (have a2 := h2; unfold In at a2)); (first | have a3 := in_u h1 | (have a3 := h1; unfold In at a3)); (first | have a4 := in_u ((in_c 0 rfl)) | (have a4 := (in_c 0 rfl); unfold In at a4)); (first | have a5 := in_u ((in_c (-1) rfl)) | (have a5 := (in_c (-1) rfl); unfold In at a5)); (first | have a6 := in_u i51x18 | (have a6 := i51x18; unfold In at a6)))); have a7 := t_add e51x9 h3 (in_c 1 rfl) rfl; (first | have a8 := oa2 ((in_c 1 rfl)) i51x4 | ((first | have a8 := in_u ((in_c 1 rfl)) | (have a8 := (in_c 1 rfl); unfold In at a8)); (first | have a9 := in_u i51x4 | (have a9 := i51x4; unfold In at a9)))); have a10 := t_add e51x2 h3 (in_c 1 rfl) rfl; omega) (by (first | have a0 := oa7 i4 h3 h2 h1 ((in_c 0 rfl)) ((in_c (-1) rfl)) i51x18 | ((first | have a0 := in_u i4 | (have a0 := i4; unfold In at a0)); (first | have a1 := in_u h3 | (have a1 := h3; unfold In at a1)); (first | have a2 := in_u h2 | (have a2 := h2; unfold In at a2)); (first | have a3 := in_u h1 | (have a3 := h1; unfold In at a3)); (first | have a4 := in_u ((in_c 0 rfl)) | (have a4 := (in_c 0 rfl); unfold In at a4)); (first | have a5 := in_u ((in_c (-1) rfl)) | (have a5 := (in_c (-1) rfl); unfold In at a5)); (first | have a6 := in_u i51x18 | (have a6 := i51x18; unfold In at a6)))); have a7 := t_add e51x9 h3 (in_c 1 rfl) rfl; (first | have a8 := oa2 ((in_c 1 rfl)) i51x4 | ((first | have a8 := in_u ((in_c 1 rfl)) | (have a8 := (in_c 1 rfl); unfold In at a8)); (first | have a9 := in_u i51x4 | (have a9 := i51x4; unfold In at a9)))); have a10 := t_add e51x2 h3 (in_c 1 rfl) rfl; omega) p42 e46 e47 e54⟩
        have n62c : MET (s.1 144) ((Int32.ofInt 0)).toInt ((Int32.ofInt 0)) := by exact met_0
        have n62d : (sI (sI (sI s 144 x1.toNatClampNeg x2) 143 x1.toNatClampNeg x3) 145 x1.toNatClampNeg z54).1 146 = s.1 146 := by simp [sI]
        exact gg_w (by first | exact Nat.le_of_ble_eq_true rfl | omega) (gg_f (gf_cons rfl (gf_cons rfl (gf_cons rfl (gf_cons rfl (gf_cons rfl (gf_cons rfl (gf_cons rfl (gf_cons rfl gf_nil)))))))) (ct62 32 (sI (sI (sI s 144 x1.toNatClampNeg x2) 143 x1.toNatClampNeg x3) 145 x1.toNatClampNeg z54) (Int32.ofInt (-1)) (Int32.ofInt 0) (Int32.ofInt 0) hI55 (fr_sI rfl (fr_sI rfl (fr_sI rfl fr_rf))) (in_w 0 31 (in_c 0 rfl) rfl) n62 n62a n62b n62c n62d (m_in 32 (in_w 0 31 (in_c 0 rfl) rfl) rfl)))

def fm_345 : FM := ([142, 143, 144, 145, 146], [], [], [])
/-- GraphHouseModel.isPartColourable -/
theorem k_345 {Z : AmZ} {A : Nat → Nat} {s : GS} {ex : va_W} {d : Nat} {X : AmX} {x1 : Int32} {x2 : Int32} (hd : 5 ≤ d) (hI : Inv s) (h1 : In x1 0 32) (h2 : In x2 0 32) (q_0 : P345 s (x2).toInt) : GC Z d 345 [.ref (A 109), .int x1, .int x2] (WW Z A s ++ ex) 0 0 (fun v u => ∃ t : GS, Inv t ∧ Fr fm_345 s t ∧ ∃ z : Int32, v = some (.int z) ∧ u = WW Z A t ++ ex ∧ In z 0 1 ∧ (((z).toInt = 0 → ¬ EXP t (x1).toInt) ∧ ((z).toInt ≠ 0 → EXP t (x1).toInt))) X := by
  intro post xp hP hX
  have ct14 : ∀ (k14 : Nat) (sc14 : GS) (y14_3 : Int32), Inv sc14 → Fr fm_345 s sc14 → (In y14_3 (-1) 31) → (A14 sc14 (x1).toInt (y14_3).toInt) → (BB sc14 (y14_3).toInt) → sV (sc14.1 145) ((y14_3).toInt + 1).toNat < k14 → GG Z (d - 1) 345 post (gx xp) (1 + k14 * 32401) 14 (fun j => xlook j [(0, .ref (A 109)), (1, .int x1), (2, .int x2), (3, .int y14_3)]) [] (WW Z A sc14 ++ ex) 0 0 := by
    intro k14
    induction k14 with
    | zero => intro sc14 y14_3 hIc14 hFc14 j14_3 g14_0 g14_1 mm14; exact absurd mm14 (Nat.not_lt_zero _)
    | succ k14 ih14 =>
      intro sc14 y14_3 hIc14 hFc14 j14_3 g14_0 g14_1 mm14
      refine gg_w (M := 1 + k14 * 32401 + 32401) gws ?_
      have ct54 : ∀ (k54 : Nat) (sc54 : GS) (y54_3 : Int32) (y54_4 : Int32) (y54_5 : Int32), Inv sc54 → Fr fm_345 s sc54 → (In y54_3 (-1) 31) → (In y54_4 0 31) → ((y54_3).toInt < y14_3.toInt) → (JMP sc54 (x1).toInt (y54_5) (y54_3).toInt) → (sc54.1 145 = sc14.1 145) → (BB sc54 (y54_3).toInt) → (y54_3).toInt - (-1) < (k54 : Int) → GG Z (d - 1) 345 post (gx xp) (1 + k14 * 32401 + 1 + k54 * 900) 54 (fun j => xlook j [(0, .ref (A 109)), (1, .int x1), (2, .int x2), (3, .int y54_3), (4, .int y54_4), (5, .int y54_5)]) [] (WW Z A sc54 ++ ex) 0 0 := by
        intro k54
        induction k54 with
        | zero => intro sc54 y54_3 y54_4 y54_5 hIc54 hFc54 j54_3 j54_4 n54_0 g54_0 g54_1 g54_2 mm54; exact m_nod mm54 j54_3 rfl
        | succ k54 ih54 =>
          intro sc54 y54_3 y54_4 y54_5 hIc54 hFc54 j54_3 j54_4 n54_0 g54_0 g54_1 g54_2 mm54
          refine gg_w (M := 1 + k14 * 32401 + 1 + k54 * 900 + 900) gws ?_
          refine g_iload_n 55 (gd rfl) rfl rfl ?_
          refine g_if_lt 58 90 (gd rfl) rfl rfl (fun c55 => ?_) (fun c55 => ?_)
          · skip
            have i55 := z_lt (-1) (-1) c55 j54_3 rfl
            refine g_iload_n 91 (gd rfl) rfl rfl ?_
            refine g_if_lt 94 116 (gd rfl) rfl rfl (fun c91 => ?_) (fun c91 => ?_)
            · skip
              refine g_goto 207 (gd rfl) rfl ?_
              refine g_goto 14 (gd rfl) rfl ?_
              have n14 : A14 sc54 (x1).toInt (y54_3).toInt := by exact jm_end g54_0 (by (first | have a0 := oa4 h2 h1 j54_4 i55 | ((first | have a0 := in_u h2 | (have a0 := h2; unfold In at a0)); (first | have a1 := in_u h1 | (have a1 := h1; unfold In at a1)); (first | have a2 := in_u j54_4 | (have a2 := j54_4; unfold In at a2)); (first | have a3 := in_u i55 | (have a3 := i55; unfold In at a3)))); omega)
              have n14a : BB sc54 (y54_3).toInt := by exact g54_2
              have m14 : sV (sc54.1 145) ((y54_3).toInt + 1).toNat < k14 := by rw [g54_1]; have hm := mm14; have hv := sV_pop (f := sc14.1 145) (n := ((y54_3).toInt + 1).toNat) (m := (y14_3.toInt + 1).toNat) (by (first | have a0 := oa4 h2 h1 j54_4 i55 | ((first | have a0 := in_u h2 | (have a0 := h2; unfold In at a0)); (first | have a1 := in_u h1 | (have a1 := h1; unfold In at a1)); (first | have a2 := in_u j54_4 | (have a2 := j54_4; unfold In at a2)); (first | have a3 := in_u i55 | (have a3 := i55; unfold In at a3)))); omega); omega
              exact gg_w (by first | exact Nat.le_add_right _ _ | exact gw2 | exact gw3 | exact gwe rfl | exact gwf rfl | exact gwg rfl | exact gwh rfl | omega) (gg_f (gf_cons rfl (gf_cons rfl (gf_cons rfl (gf_cons rfl gf_nil)))) (ih14  sc54 y54_3 hIc54 hFc54 (in_w (-1) 31 i55 rfl) n14 n14a m14))
            · skip
              exact zn_ge c91 i55 rfl
          · skip
            have i55 := z_ge 0 31 c55 j54_3 rfl
            refine g_iload 60 (gd rfl) rfl rfl ?_
            refine g_aload_n 61 (gd rfl) rfl rfl ?_
            refine g_getA (q2 := 144) 64 (gd rfl) rfl rfl rfl rfl ?_
            refine g_iload_n 65 (gd rfl) rfl rfl ?_
            refine g_iaload 66 (gd rfl) rfl (n := 33) rfl (in_ix i55 rfl) (fun z65 e65 => ?_)
            have i65 := inv_I hIc54 (n := 33) (t := 0) 0 31 rfl (in_ix i55 rfl) rfl e65
            refine g_calls (As := [.int y54_5, .int z65]) (r := []) 69 (gd rfl) rfl rfl rfl rfl rfl (Nat.le_of_ble_eq_true rfl) (mc := 0) (ms := 0) (Nat.zero_le _) (Nat.zero_le _) (P := fun v u => _) ?_ (fun v u h => h)
            intro po66 xx66 hp66 hx66
            refine g_enter2 (k := 311) (N := 300) (by first | exact dq1 hd rfl | exact dq0 hd rfl | exact dq2 hd rfl | exact dq3 hd rfl | omega) rfl (Nat.le_of_ble_eq_true rfl) ?_
            refine g_iload_n 1 (gd rfl) rfl rfl ?_
            refine g_iload_n 2 (gd rfl) rfl rfl ?_
            refine g_ishr 3 (gd rfl) rfl (fun z66x2 e66x2 => ?_)
            refine g_iconst 1 4 (gd rfl) rfl rfl ?_
            refine g_iand 5 (gd rfl) rfl (fun z66x4 e66x4 => ?_)
            have i66x4 := in_and2 e66x4 (in_c 1 rfl) rfl
            refine g_iconst 1 6 (gd rfl) rfl rfl ?_
            refine g_cmp_ne 9 13 (gd rfl) rfl rfl (fun c66x6 => ?_) (fun c66x6 => ?_)
            · skip
              have i66x6 := r_ne1 0 0 c66x6 i66x4 (in_c 1 rfl) rfl
              refine g_iconst 0 14 (gd rfl) rfl rfl ?_
              refine g_ireturn (gd rfl) rfl (nb01 (in_w 0 1 (in_c 0 rfl) rfl)) (hp66 _ _ ?_)
              show GG _ _ _ _ _ _ _ _ [.int (Int32.ofInt 0)] _ _ _
              refine g_if_ne 72 90 (gd rfl) rfl rfl (fun c69 => ?_) (fun c69 => ?_)
              · skip
                exact zn_ne c69 (in_c 0 rfl) rfl
              · skip
                refine g_aload_n 73 (gd rfl) rfl rfl ?_
                refine g_getA (q2 := 142) 76 (gd rfl) rfl rfl rfl rfl ?_
                refine g_aload_n 77 (gd rfl) rfl rfl ?_
                refine g_getA (q2 := 144) 80 (gd rfl) rfl rfl rfl rfl ?_
                refine g_iload_n 81 (gd rfl) rfl rfl ?_
                refine g_iaload 82 (gd rfl) rfl (n := 33) rfl (in_ix i55 rfl) (fun z81 e81 => ?_)
                have q81 : z65 = z81 := (e65).trans e81.symm
                subst q81
                refine g_iconst (-1) 83 (gd rfl) rfl rfl ?_
                refine g_iastore 84 (gd rfl) rfl (n := 32) rfl (in_ix i65 rfl) ?_
                have hI83 := inv_sI (q := 142) (j := z65.toNatClampNeg) hIc54 rfl (in_w (-2147483648) 31 (in_c (-1) rfl) rfl)
                refine g_iinc 87 (gd rfl) rfl rfl (Nat.le_of_ble_eq_true rfl) (fun z84 e84 => ?_)
                have i84 := in_add (-1) 30 e84 i55 (in_c (-1) rfl) rfl rfl
                refine g_goto 54 (gd rfl) rfl ?_
                have n54 : (z84).toInt < y14_3.toInt := by (first | have a0 := oa5 h2 h1 j54_4 i55 i84 | ((first | have a0 := in_u h2 | (have a0 := h2; unfold In at a0)); (first | have a1 := in_u h1 | (have a1 := h1; unfold In at a1)); (first | have a2 := in_u j54_4 | (have a2 := j54_4; unfold In at a2)); (first | have a3 := in_u i55 | (have a3 := i55; unfold In at a3)); (first | have a4 := in_u i84 | (have a4 := i84; unfold In at a4)))); have a5 := t_add e84 i55 (in_c (-1) rfl) rfl; (first | have a6 := in_u ((in_c (-1) rfl)) | (have a6 := (in_c (-1) rfl); unfold In at a6)); omega
                have n54a : JMP (sI sc54 142 z65.toNatClampNeg (Int32.ofInt (-1))) (x1).toInt (y54_5) (z84).toInt := by exact jm_s g54_0 (by (first | have a0 := oa5 h2 h1 j54_4 i55 i84 | ((first | have a0 := in_u h2 | (have a0 := h2; unfold In at a0)); (first | have a1 := in_u h1 | (have a1 := h1; unfold In at a1)); (first | have a2 := in_u j54_4 | (have a2 := j54_4; unfold In at a2)); (first | have a3 := in_u i55 | (have a3 := i55; unfold In at a3)); (first | have a4 := in_u i84 | (have a4 := i84; unfold In at a4)))); have a5 := t_add e84 i55 (in_c (-1) rfl) rfl; (first | have a6 := in_u ((in_c (-1) rfl)) | (have a6 := (in_c (-1) rfl); unfold In at a6)); omega) e81 (bt_no e66x2 e66x4 i65 c66x6) (by (first | have a0 := oa5 h2 h1 j54_4 i55 i84 | ((first | have a0 := in_u h2 | (have a0 := h2; unfold In at a0)); (first | have a1 := in_u h1 | (have a1 := h1; unfold In at a1)); (first | have a2 := in_u j54_4 | (have a2 := j54_4; unfold In at a2)); (first | have a3 := in_u i55 | (have a3 := i55; unfold In at a3)); (first | have a4 := in_u i84 | (have a4 := i84; unfold In at a4)))); have a5 := t_add e84 i55 (in_c (-1) rfl) rfl; (first | have a6 := in_u ((in_c (-1) rfl)) | (have a6 := (in_c (-1) rfl); unfold In at a6)); omega)
                have n54b : (sI sc54 142 z65.toNatClampNeg (Int32.ofInt (-1))).1 145 = sc14.1 145 := by rw [sI_p rfl]; exact g54_1
                have n54c : BB (sI sc54 142 z65.toNatClampNeg (Int32.ofInt (-1))) (z84).toInt := by exact bb_le g54_2 (by rw [sI_p rfl]) (by (first | have a0 := oa5 h2 h1 j54_4 i55 i84 | ((first | have a0 := in_u h2 | (have a0 := h2; unfold In at a0)); (first | have a1 := in_u h1 | (have a1 := h1; unfold In at a1)); (first | have a2 := in_u j54_4 | (have a2 := j54_4; unfold In at a2)); (first | have a3 := in_u i55 | (have a3 := i55; unfold In at a3)); (first | have a4 := in_u i84 | (have a4 := i84; unfold In at a4)))); have a5 := t_add e84 i55 (in_c (-1) rfl) rfl; (first | have a6 := in_u ((in_c (-1) rfl)) | (have a6 := (in_c (-1) rfl); unfold In at a6)); omega)
                exact gg_w (by first | exact Nat.le_add_right _ _ | exact gw2 | exact gw3 | exact gwe rfl | exact gwf rfl | exact gwg rfl | exact gwh rfl | omega) (gg_f (gf_cons rfl (gf_cons rfl (gf_cons rfl (gf_cons rfl (gf_cons rfl (gf_cons rfl gf_nil)))))) (ih54 (sI sc54 142 z65.toNatClampNeg (Int32.ofInt (-1))) z84 y54_4 y54_5 hI83 (fr_sI rfl hFc54) (in_w (-1) 31 i84 rfl) (in_w 0 31 j54_4 rfl) n54 n54a n54b n54c (m_dn mm54 (t_add e84 i55 (in_c (-1) rfl) rfl) (in_w (-1) (-1) (in_c (-1) rfl) rfl))))
            · skip
              have i66x6 := r_eq1 1 1 c66x6 i66x4 (in_c 1 rfl) rfl
              refine g_iconst 1 10 (gd rfl) rfl rfl ?_
              refine g_goto 14 (gd rfl) rfl ?_
              refine g_ireturn (gd rfl) rfl (nb01 (in_w 0 1 (in_c 1 rfl) rfl)) (hp66 _ _ ?_)
              show GG _ _ _ _ _ _ _ _ [.int (Int32.ofInt 1)] _ _ _
              refine g_if_ne 72 90 (gd rfl) rfl rfl (fun c69 => ?_) (fun c69 => ?_)
              · skip
                refine g_iload_n 91 (gd rfl) rfl rfl ?_
                refine g_if_lt 94 116 (gd rfl) rfl rfl (fun c91 => ?_) (fun c91 => ?_)
                · skip
                  exact zn_lt c91 i55 rfl
                · skip
                  refine g_aload_n 95 (gd rfl) rfl rfl ?_
                  refine g_getA (q2 := 146) 98 (gd rfl) rfl rfl rfl rfl ?_
                  refine g_iload_n 99 (gd rfl) rfl rfl ?_
                  refine g_dup2 100 (gd rfl) rfl rfl rfl ?_
                  refine g_iaload 101 (gd rfl) rfl (n := 33) rfl (in_ix i55 rfl) (fun z100 e100 => ?_)
                  refine g_iload 103 (gd rfl) rfl rfl ?_
                  refine g_iconst 1 104 (gd rfl) rfl rfl ?_
                  refine g_aload_n 105 (gd rfl) rfl rfl ?_
                  refine g_getA (q2 := 144) 108 (gd rfl) rfl rfl rfl rfl ?_
                  refine g_iload_n 109 (gd rfl) rfl rfl ?_
                  refine g_iaload 110 (gd rfl) rfl (n := 33) rfl (in_ix i55 rfl) (fun z109 e109 => ?_)
                  have q109 : z65 = z109 := (e65).trans e109.symm
                  subst q109
                  refine g_ishl 111 (gd rfl) rfl (fun z110 e110 => ?_)
                  refine g_iconst (-1) 112 (gd rfl) rfl rfl ?_
                  refine g_ixor 113 (gd rfl) rfl (fun z112 e112 => ?_)
                  refine g_iand 114 (gd rfl) rfl (fun z113 e113 => ?_)
                  refine g_ior 115 (gd rfl) rfl (fun z114 e114 => ?_)
                  refine g_iastore 116 (gd rfl) rfl (n := 33) rfl (in_ix i55 rfl) ?_
                  have hI115 := inv_sI (q := 146) (j := y54_3.toNatClampNeg) hIc54 rfl (in_w (-2147483648) 2147483647 (i_rng z114) rfl)
                  refine g_goto 207 (gd rfl) rfl ?_
                  refine g_goto 14 (gd rfl) rfl ?_
                  have n14 : A14 (sI sc54 146 y54_3.toNatClampNeg z114) (x1).toInt (y54_3).toInt := by exact jm_pop g54_0 (by (first | have a0 := oa4 h2 h1 j54_4 i55 | ((first | have a0 := in_u h2 | (have a0 := h2; unfold In at a0)); (first | have a1 := in_u h1 | (have a1 := h1; unfold In at a1)); (first | have a2 := in_u j54_4 | (have a2 := j54_4; unfold In at a2)); (first | have a3 := in_u i55 | (have a3 := i55; unfold In at a3)))); omega) e100 e109 i65 e110 e112 e113 e114
                  have n14a : BB (sI sc54 146 y54_3.toNatClampNeg z114) (y54_3).toInt := by exact bb_le g54_2 (by rw [sI_p rfl]) (Int.le_refl _)
                  have m14 : sV ((sI sc54 146 y54_3.toNatClampNeg z114).1 145) ((y54_3).toInt + 1).toNat < k14 := by rw [sI_p rfl, g54_1]; have hm := mm14; have hv := sV_pop (f := sc14.1 145) (n := ((y54_3).toInt + 1).toNat) (m := (y14_3.toInt + 1).toNat) (by (first | have a0 := oa4 h2 h1 j54_4 i55 | ((first | have a0 := in_u h2 | (have a0 := h2; unfold In at a0)); (first | have a1 := in_u h1 | (have a1 := h1; unfold In at a1)); (first | have a2 := in_u j54_4 | (have a2 := j54_4; unfold In at a2)); (first | have a3 := in_u i55 | (have a3 := i55; unfold In at a3)))); omega); omega
                  exact gg_w (by first | exact Nat.le_add_right _ _ | exact gw2 | exact gw3 | exact gwe rfl | exact gwf rfl | exact gwg rfl | exact gwh rfl | omega) (gg_f (gf_cons rfl (gf_cons rfl (gf_cons rfl (gf_cons rfl gf_nil)))) (ih14  (sI sc54 146 y54_3.toNatClampNeg z114) y54_3 hI115 (fr_sI rfl hFc54) (in_w (-1) 31 i55 rfl) n14 n14a m14))
              · skip
                exact zn_eq c69 (in_c 1 rfl) rfl
      refine g_iload_n 15 (gd rfl) rfl rfl ?_
      refine g_if_lt 18 210 (gd rfl) rfl rfl (fun c15 => ?_) (fun c15 => ?_)
      · skip
        have i15 := z_lt (-1) (-1) c15 j14_3 rfl
        refine g_iconst 0 211 (gd rfl) rfl rfl ?_
        have n211 : (((Int32.ofInt 0)).toInt = 0 → ¬ EXP sc14 (x1).toInt) ∧ (((Int32.ofInt 0)).toInt ≠ 0 → EXP sc14 (x1).toInt) := by exact ⟨fun _ => g14_0.2 (by (first | have a0 := oa3 h2 h1 i15 | ((first | have a0 := in_u h2 | (have a0 := h2; unfold In at a0)); (first | have a1 := in_u h1 | (have a1 := h1; unfold In at a1)); (first | have a2 := in_u i15 | (have a2 := i15; unfold In at a2)))); omega), fun h => absurd (by decide) h⟩
        exact g_ireturn (gd rfl) rfl (nb01 (in_w 0 1 (in_c 0 rfl) rfl)) (hP _ _ ⟨sc14, hIc14, hFc14, (Int32.ofInt 0), rfl, rfl, in_w 0 1 (in_c 0 rfl) rfl, n211⟩)
      · skip
        have i15 := z_ge 0 31 c15 j14_3 rfl
        refine g_aload_n 19 (gd rfl) rfl rfl ?_
        refine g_getA (q2 := 144) 22 (gd rfl) rfl rfl rfl rfl ?_
        refine g_iload_n 23 (gd rfl) rfl rfl ?_
        refine g_iaload 24 (gd rfl) rfl (n := 33) rfl (in_ix i15 rfl) (fun z23 e23 => ?_)
        have i23 := inv_I hIc14 (n := 33) (t := 0) 0 31 rfl (in_ix i15 rfl) rfl e23
        refine g_istore 26 (gd rfl) rfl (Nat.le_of_ble_eq_true rfl) ?_
        refine g_aload_n 27 (gd rfl) rfl rfl ?_
        refine g_getA (q2 := 142) 30 (gd rfl) rfl rfl rfl rfl ?_
        refine g_iload 32 (gd rfl) rfl rfl ?_
        refine g_iconst (-1) 33 (gd rfl) rfl rfl ?_
        refine g_iastore 34 (gd rfl) rfl (n := 32) rfl (in_ix i23 rfl) ?_
        have hI33 := inv_sI (q := 142) (j := z23.toNatClampNeg) hIc14 rfl (in_w (-2147483648) 31 (in_c (-1) rfl) rfl)
        refine g_aload_n 35 (gd rfl) rfl rfl ?_
        refine g_getA (q2 := 145) 38 (gd rfl) rfl rfl rfl rfl ?_
        refine g_iload_n 39 (gd rfl) rfl rfl ?_
        refine g_iaload 40 (gd rfl) rfl (n := 33) rfl (in_ix i15 rfl) (fun z39 e39 => ?_)
        have e39b : z39 = sc14.1 145 y14_3.toNatClampNeg := (by rw [e39, sI_p rfl])
        refine g_if_ne 43 119 (gd rfl) rfl rfl (fun c40 => ?_) (fun c40 => ?_)
        · skip
          refine g_aload_n 120 (gd rfl) rfl rfl ?_
          refine g_getA (q2 := 145) 123 (gd rfl) rfl rfl rfl rfl ?_
          refine g_iload_n 124 (gd rfl) rfl rfl ?_
          refine g_iaload 125 (gd rfl) rfl (n := 33) rfl (in_ix i15 rfl) (fun z124 e124 => ?_)
          have q124 : z39 = z124 := (e39).trans e124.symm
          subst q124
          refine g_calls (As := [.int z39]) (r := []) 128 (gd rfl) rfl rfl rfl rfl rfl (Nat.le_of_ble_eq_true rfl) (Nat.zero_le _) (Nat.zero_le _) (k_327n (by first | exact dq1 hd rfl | exact dq0 hd rfl | exact dq2 hd rfl | exact dq3 hd rfl | omega) c40) (fun v u h => ?_)
          obtain ⟨z125, rfl, rfl, i125, hb125⟩ := h
          show GG _ _ _ _ _ _ _ _ [.int z125] _ _ _
          refine g_istore 130 (gd rfl) rfl (Nat.le_of_ble_eq_true rfl) ?_
          refine g_aload_n 131 (gd rfl) rfl rfl ?_
          refine g_getA (q2 := 145) 134 (gd rfl) rfl rfl rfl rfl ?_
          refine g_iload_n 135 (gd rfl) rfl rfl ?_
          refine g_dup2 136 (gd rfl) rfl rfl rfl ?_
          refine g_iaload 137 (gd rfl) rfl (n := 33) rfl (in_ix i15 rfl) (fun z136 e136 => ?_)
          have q136 : z39 = z136 := (e39).trans e136.symm
          subst q136
          refine g_iconst 1 138 (gd rfl) rfl rfl ?_
          refine g_iload 140 (gd rfl) rfl rfl ?_
          refine g_ishl 141 (gd rfl) rfl (fun z140 e140 => ?_)
          refine g_iconst (-1) 142 (gd rfl) rfl rfl ?_
          refine g_ixor 143 (gd rfl) rfl (fun z142 e142 => ?_)
          refine g_iand 144 (gd rfl) rfl (fun z143 e143 => ?_)
          refine g_iastore 145 (gd rfl) rfl (n := 33) rfl (in_ix i15 rfl) ?_
          have hI144 := inv_sI (q := 145) (j := y14_3.toNatClampNeg) hI33 rfl (in_w (-2147483648) 2147483647 (i_rng z143) rfl)
          refine g_aload_n 146 (gd rfl) rfl rfl ?_
          refine g_getA (q2 := 142) 149 (gd rfl) rfl rfl rfl rfl ?_
          refine g_iload 151 (gd rfl) rfl rfl ?_
          refine g_iload 153 (gd rfl) rfl rfl ?_
          refine g_iastore 154 (gd rfl) rfl (n := 32) rfl (in_ix i23 rfl) ?_
          have hI153 := inv_sI (q := 142) (j := z23.toNatClampNeg) hI144 rfl (in_w (-2147483648) 31 i125 rfl)
          refine g_aload_n 155 (gd rfl) rfl rfl ?_
          refine g_iload_n 156 (gd rfl) rfl rfl ?_
          refine g_callv (X := _) (As := [.int x1]) (r := []) (b := A 109) (q := 109) 159 (gd rfl) rfl rfl rfl rfl rfl (ww_o rfl) (Nat.le_of_ble_eq_true rfl) (Nat.zero_le _) (Nat.zero_le _) (k_340 (by first | exact dq1 hd rfl | exact dq0 hd rfl | exact dq2 hd rfl | exact dq3 hd rfl | omega) hI153 (in_w 0 200 h1 rfl)) (fun e u h => h) (fun v u h => ?_)
          obtain ⟨z156, rfl, rfl, i156, p156⟩ := h
          show GG _ _ _ _ _ _ _ _ [.int z156] _ _ _
          refine g_istore 161 (gd rfl) rfl (Nat.le_of_ble_eq_true rfl) ?_
          refine g_iload 163 (gd rfl) rfl rfl ?_
          refine g_if_ge 166 168 (gd rfl) rfl rfl (fun c163 => ?_) (fun c163 => ?_)
          · skip
            have i163 := z_ge 0 31 c163 i156 rfl
            refine g_iinc 171 (gd rfl) rfl rfl (Nat.le_of_ble_eq_true rfl) (fun z168 e168 => ?_)
            have i168 := in_add 1 32 e168 i15 (in_c 1 rfl) rfl rfl
            have hd30 := pc_d g14_0 (by (first | have a0 := oa7 h2 h1 i15 i163 i125 i23 i168 | ((first | have a0 := in_u h2 | (have a0 := h2; unfold In at a0)); (first | have a1 := in_u h1 | (have a1 := h1; unfold In at a1)); (first | have a2 := in_u i15 | (have a2 := i15; unfold In at a2)); (first | have a3 := in_u i163 | (have a3 := i163; unfold In at a3)); (first | have a4 := in_u i125 | (have a4 := i125; unfold In at a4)); (first | have a5 := in_u i23 | (have a5 := i23; unfold In at a5)); (first | have a6 := in_u i168 | (have a6 := i168; unfold In at a6)))); have a7 := t_add e168 i15 (in_c 1 rfl) rfl; (first | have a8 := in_u ((in_c 1 rfl)) | (have a8 := (in_c 1 rfl); unfold In at a8)); omega) lk_i e23 (by (first | have a0 := oa7 h2 h1 i15 i163 i125 i23 i168 | ((first | have a0 := in_u h2 | (have a0 := h2; unfold In at a0)); (first | have a1 := in_u h1 | (have a1 := h1; unfold In at a1)); (first | have a2 := in_u i15 | (have a2 := i15; unfold In at a2)); (first | have a3 := in_u i163 | (have a3 := i163; unfold In at a3)); (first | have a4 := in_u i125 | (have a4 := i125; unfold In at a4)); (first | have a5 := in_u i23 | (have a5 := i23; unfold In at a5)); (first | have a6 := in_u i168 | (have a6 := i168; unfold In at a6)))); have a7 := t_add e168 i15 (in_c 1 rfl) rfl; (first | have a8 := in_u ((in_c 1 rfl)) | (have a8 := (in_c 1 rfl); unfold In at a8)); omega) p156 (by (first | have a0 := oa7 h2 h1 i15 i163 i125 i23 i168 | ((first | have a0 := in_u h2 | (have a0 := h2; unfold In at a0)); (first | have a1 := in_u h1 | (have a1 := h1; unfold In at a1)); (first | have a2 := in_u i15 | (have a2 := i15; unfold In at a2)); (first | have a3 := in_u i163 | (have a3 := i163; unfold In at a3)); (first | have a4 := in_u i125 | (have a4 := i125; unfold In at a4)); (first | have a5 := in_u i23 | (have a5 := i23; unfold In at a5)); (first | have a6 := in_u i168 | (have a6 := i168; unfold In at a6)))); have a7 := t_add e168 i15 (in_c 1 rfl) rfl; (first | have a8 := in_u ((in_c 1 rfl)) | (have a8 := (in_c 1 rfl); unfold In at a8)); omega)
            have i171 : In z168 1 31 := by exact ⟨by (first | have a0 := oa7 h2 h1 i15 i163 i125 i23 i168 | ((first | have a0 := in_u h2 | (have a0 := h2; unfold In at a0)); (first | have a1 := in_u h1 | (have a1 := h1; unfold In at a1)); (first | have a2 := in_u i15 | (have a2 := i15; unfold In at a2)); (first | have a3 := in_u i163 | (have a3 := i163; unfold In at a3)); (first | have a4 := in_u i125 | (have a4 := i125; unfold In at a4)); (first | have a5 := in_u i23 | (have a5 := i23; unfold In at a5)); (first | have a6 := in_u i168 | (have a6 := i168; unfold In at a6)))); have a7 := t_add e168 i15 (in_c 1 rfl) rfl; (first | have a8 := in_u ((in_c 1 rfl)) | (have a8 := (in_c 1 rfl); unfold In at a8)); omega, by (first | have a0 := oa7 h2 h1 i15 i163 i125 i23 i168 | ((first | have a0 := in_u h2 | (have a0 := h2; unfold In at a0)); (first | have a1 := in_u h1 | (have a1 := h1; unfold In at a1)); (first | have a2 := in_u i15 | (have a2 := i15; unfold In at a2)); (first | have a3 := in_u i163 | (have a3 := i163; unfold In at a3)); (first | have a4 := in_u i125 | (have a4 := i125; unfold In at a4)); (first | have a5 := in_u i23 | (have a5 := i23; unfold In at a5)); (first | have a6 := in_u i168 | (have a6 := i168; unfold In at a6)))); have a7 := t_add e168 i15 (in_c 1 rfl) rfl; (first | have a8 := in_u ((in_c 1 rfl)) | (have a8 := (in_c 1 rfl); unfold In at a8)); omega⟩
            refine g_aload_n 172 (gd rfl) rfl rfl ?_
            refine g_iload_n 173 (gd rfl) rfl rfl ?_
            refine g_iload 175 (gd rfl) rfl rfl ?_
            refine g_iload 177 (gd rfl) rfl rfl ?_
            refine g_aload_n 178 (gd rfl) rfl rfl ?_
            refine g_getA (q2 := 143) 181 (gd rfl) rfl rfl rfl rfl ?_
            refine g_iload_n 182 (gd rfl) rfl rfl ?_
            refine g_iconst 1 183 (gd rfl) rfl rfl ?_
            refine g_isub 184 (gd rfl) rfl (fun z183 e183 => ?_)
            have i183 := in_sub 0 30 e183 i171 (in_c 1 rfl) rfl rfl
            refine g_iaload 185 (gd rfl) rfl (n := 32) rfl (in_ix i183 rfl) (fun z184 e184 => ?_)
            have h8 : z184 = sc14.1 143 y14_3.toNatClampNeg := (by rw [e184, sI_p rfl, sI_p rfl, sI_p rfl, show z183.toNatClampNeg = y14_3.toNatClampNeg from (by show z183.toInt.toNat = y14_3.toInt.toNat; (first | have a0 := oa7 h2 h1 i15 i163 i125 i23 i171 | ((first | have a0 := in_u h2 | (have a0 := h2; unfold In at a0)); (first | have a1 := in_u h1 | (have a1 := h1; unfold In at a1)); (first | have a2 := in_u i15 | (have a2 := i15; unfold In at a2)); (first | have a3 := in_u i163 | (have a3 := i163; unfold In at a3)); (first | have a4 := in_u i125 | (have a4 := i125; unfold In at a4)); (first | have a5 := in_u i23 | (have a5 := i23; unfold In at a5)); (first | have a6 := in_u i171 | (have a6 := i171; unfold In at a6)))); have a7 := t_add e168 i15 (in_c 1 rfl) rfl; (first | have a8 := oa2 ((in_c 1 rfl)) i183 | ((first | have a8 := in_u ((in_c 1 rfl)) | (have a8 := (in_c 1 rfl); unfold In at a8)); (first | have a9 := in_u i183 | (have a9 := i183; unfold In at a9)))); have a10 := t_sub e183 i171 (in_c 1 rfl) rfl; (first | exact zt_q (by omega) | omega))])
            refine g_cmp_lt 188 195 (gd rfl) rfl rfl (fun c185 => ?_) (fun c185 => ?_)
            · skip
              have i185 := r_lt2 1 2147483647 c185 i125 (i_rng z184) rfl
              refine g_aload_n 196 (gd rfl) rfl rfl ?_
              refine g_getA (q2 := 143) 199 (gd rfl) rfl rfl rfl rfl ?_
              refine g_iload_n 200 (gd rfl) rfl rfl ?_
              refine g_iconst 1 201 (gd rfl) rfl rfl ?_
              refine g_isub 202 (gd rfl) rfl (fun z201 e201 => ?_)
              have i201 := in_sub 0 30 e201 i171 (in_c 1 rfl) rfl rfl
              refine g_iaload 203 (gd rfl) rfl (n := 32) rfl (in_ix i201 rfl) (fun z202 e202 => ?_)
              have h9 : z202 = sc14.1 143 y14_3.toNatClampNeg := (by rw [e202, sI_p rfl, sI_p rfl, sI_p rfl, show z201.toNatClampNeg = y14_3.toNatClampNeg from (by show z201.toInt.toNat = y14_3.toInt.toNat; (first | have a0 := oa7 h2 h1 i15 i163 i125 i23 i171 | ((first | have a0 := in_u h2 | (have a0 := h2; unfold In at a0)); (first | have a1 := in_u h1 | (have a1 := h1; unfold In at a1)); (first | have a2 := in_u i15 | (have a2 := i15; unfold In at a2)); (first | have a3 := in_u i163 | (have a3 := i163; unfold In at a3)); (first | have a4 := in_u i125 | (have a4 := i125; unfold In at a4)); (first | have a5 := in_u i23 | (have a5 := i23; unfold In at a5)); (first | have a6 := in_u i171 | (have a6 := i171; unfold In at a6)))); have a7 := t_add e168 i15 (in_c 1 rfl) rfl; (first | have a8 := oa2 ((in_c 1 rfl)) i201 | ((first | have a8 := in_u ((in_c 1 rfl)) | (have a8 := (in_c 1 rfl); unfold In at a8)); (first | have a9 := in_u i201 | (have a9 := i201; unfold In at a9)))); have a10 := t_sub e201 i171 (in_c 1 rfl) rfl; (first | have a11 := in_u i183 | (have a11 := i183; unfold In at a11)); have a12 := t_sub e183 i171 (in_c 1 rfl) rfl; (first | exact zt_q (by omega) | omega))])
              have h98 : z202.toInt = z184.toInt := (by rw [h9, h8])
              have i203 : In z202 0 32 := by rw [h9]; exact ⟨pc_b0 g14_0 (by (first | have a0 := oa7 h2 h1 i15 i163 i125 i23 i171 | ((first | have a0 := in_u h2 | (have a0 := h2; unfold In at a0)); (first | have a1 := in_u h1 | (have a1 := h1; unfold In at a1)); (first | have a2 := in_u i15 | (have a2 := i15; unfold In at a2)); (first | have a3 := in_u i163 | (have a3 := i163; unfold In at a3)); (first | have a4 := in_u i125 | (have a4 := i125; unfold In at a4)); (first | have a5 := in_u i23 | (have a5 := i23; unfold In at a5)); (first | have a6 := in_u i171 | (have a6 := i171; unfold In at a6)))); have a7 := t_add e168 i15 (in_c 1 rfl) rfl; (first | have a8 := oa2 ((in_c 1 rfl)) i201 | ((first | have a8 := in_u ((in_c 1 rfl)) | (have a8 := (in_c 1 rfl); unfold In at a8)); (first | have a9 := in_u i201 | (have a9 := i201; unfold In at a9)))); have a10 := t_sub e201 i171 (in_c 1 rfl) rfl; (first | have a11 := in_u i183 | (have a11 := i183; unfold In at a11)); have a12 := t_sub e183 i171 (in_c 1 rfl) rfl; omega), g14_1 _ (by show ((y14_3.toInt.toNat : Nat) : Int) ≤ _; (first | have a0 := oa7 h2 h1 i15 i163 i125 i23 i171 | ((first | have a0 := in_u h2 | (have a0 := h2; unfold In at a0)); (first | have a1 := in_u h1 | (have a1 := h1; unfold In at a1)); (first | have a2 := in_u i15 | (have a2 := i15; unfold In at a2)); (first | have a3 := in_u i163 | (have a3 := i163; unfold In at a3)); (first | have a4 := in_u i125 | (have a4 := i125; unfold In at a4)); (first | have a5 := in_u i23 | (have a5 := i23; unfold In at a5)); (first | have a6 := in_u i171 | (have a6 := i171; unfold In at a6)))); have a7 := t_add e168 i15 (in_c 1 rfl) rfl; (first | have a8 := oa2 ((in_c 1 rfl)) i201 | ((first | have a8 := in_u ((in_c 1 rfl)) | (have a8 := (in_c 1 rfl); unfold In at a8)); (first | have a9 := in_u i201 | (have a9 := i201; unfold In at a9)))); have a10 := t_sub e201 i171 (in_c 1 rfl) rfl; (first | have a11 := in_u i183 | (have a11 := i183; unfold In at a11)); have a12 := t_sub e183 i171 (in_c 1 rfl) rfl; omega)⟩
              refine g_iload_n 204 (gd rfl) rfl rfl ?_
              refine g_callv (X := _) (As := [.int z168, .int z156, .int z202, .int x1]) (r := []) (b := A 109) (q := 109) 207 (gd rfl) rfl rfl rfl rfl rfl (ww_o rfl) (Nat.le_of_ble_eq_true rfl) (Nat.zero_le _) (Nat.zero_le _) (k_344 (by first | exact dq1 hd rfl | exact dq0 hd rfl | exact dq2 hd rfl | exact dq3 hd rfl | omega) hI153 (in_w 0 31 i171 rfl) (in_w 0 31 i163 rfl) (in_w 0 32 i203 rfl) (in_w 0 32 h1 rfl)) (fun e u h => h) (fun v u h => ?_)
              obtain ⟨s204, hI204, hF204, rfl, rfl, p204, p204a, p204b⟩ := h
              show GG _ _ _ _ _ _ _ _ [] _ _ _
              refine g_goto 14 (gd rfl) rfl ?_
              have n14 : A14 s204 (x1).toInt (z168).toInt := by exact (pc_st g14_0 (by (first | have a0 := oa7 h2 h1 i15 i163 i125 i23 i171 | ((first | have a0 := in_u h2 | (have a0 := h2; unfold In at a0)); (first | have a1 := in_u h1 | (have a1 := h1; unfold In at a1)); (first | have a2 := in_u i15 | (have a2 := i15; unfold In at a2)); (first | have a3 := in_u i163 | (have a3 := i163; unfold In at a3)); (first | have a4 := in_u i125 | (have a4 := i125; unfold In at a4)); (first | have a5 := in_u i23 | (have a5 := i23; unfold In at a5)); (first | have a6 := in_u i171 | (have a6 := i171; unfold In at a6)))); have a7 := t_add e168 i15 (in_c 1 rfl) rfl; (first | have a8 := oa2 ((in_c 1 rfl)) i201 | ((first | have a8 := in_u ((in_c 1 rfl)) | (have a8 := (in_c 1 rfl); unfold In at a8)); (first | have a9 := in_u i201 | (have a9 := i201; unfold In at a9)))); have a10 := t_sub e201 i171 (in_c 1 rfl) rfl; (first | have a11 := in_u i183 | (have a11 := i183; unfold In at a11)); have a12 := t_sub e183 i171 (in_c 1 rfl) rfl; omega) (pst_cg (hFc14.1 141 rfl) (hFc14.1 138 rfl) (funext fun q => funext fun k => hFc14.2.2.1 q k rfl) q_0.1) lk_i e23 e39b hb125 i125 e140 e142 e143 p156 (by (first | have a0 := oa7 h2 h1 i15 i163 i125 i23 i171 | ((first | have a0 := in_u h2 | (have a0 := h2; unfold In at a0)); (first | have a1 := in_u h1 | (have a1 := h1; unfold In at a1)); (first | have a2 := in_u i15 | (have a2 := i15; unfold In at a2)); (first | have a3 := in_u i163 | (have a3 := i163; unfold In at a3)); (first | have a4 := in_u i125 | (have a4 := i125; unfold In at a4)); (first | have a5 := in_u i23 | (have a5 := i23; unfold In at a5)); (first | have a6 := in_u i171 | (have a6 := i171; unfold In at a6)))); have a7 := t_add e168 i15 (in_c 1 rfl) rfl; (first | have a8 := oa2 ((in_c 1 rfl)) i201 | ((first | have a8 := in_u ((in_c 1 rfl)) | (have a8 := (in_c 1 rfl); unfold In at a8)); (first | have a9 := in_u i201 | (have a9 := i201; unfold In at a9)))); have a10 := t_sub e201 i171 (in_c 1 rfl) rfl; (first | have a11 := in_u i183 | (have a11 := i183; unfold In at a11)); have a12 := t_sub e183 i171 (in_c 1 rfl) rfl; omega) (by (first | have a0 := oa7 h2 h1 i15 i163 i125 i23 i171 | ((first | have a0 := in_u h2 | (have a0 := h2; unfold In at a0)); (first | have a1 := in_u h1 | (have a1 := h1; unfold In at a1)); (first | have a2 := in_u i15 | (have a2 := i15; unfold In at a2)); (first | have a3 := in_u i163 | (have a3 := i163; unfold In at a3)); (first | have a4 := in_u i125 | (have a4 := i125; unfold In at a4)); (first | have a5 := in_u i23 | (have a5 := i23; unfold In at a5)); (first | have a6 := in_u i171 | (have a6 := i171; unfold In at a6)))); have a7 := t_add e168 i15 (in_c 1 rfl) rfl; (first | have a8 := oa2 ((in_c 1 rfl)) i201 | ((first | have a8 := in_u ((in_c 1 rfl)) | (have a8 := (in_c 1 rfl); unfold In at a8)); (first | have a9 := in_u i201 | (have a9 := i201; unfold In at a9)))); have a10 := t_sub e201 i171 (in_c 1 rfl) rfl; (first | have a11 := in_u i183 | (have a11 := i183; unfold In at a11)); have a12 := t_sub e183 i171 (in_c 1 rfl) rfl; omega) (by rw [← h8]; (first | have a0 := oa7 h2 h1 i15 i163 i125 i23 i171 | ((first | have a0 := in_u h2 | (have a0 := h2; unfold In at a0)); (first | have a1 := in_u h1 | (have a1 := h1; unfold In at a1)); (first | have a2 := in_u i15 | (have a2 := i15; unfold In at a2)); (first | have a3 := in_u i163 | (have a3 := i163; unfold In at a3)); (first | have a4 := in_u i125 | (have a4 := i125; unfold In at a4)); (first | have a5 := in_u i23 | (have a5 := i23; unfold In at a5)); (first | have a6 := in_u i171 | (have a6 := i171; unfold In at a6)))); have a7 := t_add e168 i15 (in_c 1 rfl) rfl; (first | have a8 := oa2 ((in_c 1 rfl)) i201 | ((first | have a8 := in_u ((in_c 1 rfl)) | (have a8 := (in_c 1 rfl); unfold In at a8)); (first | have a9 := in_u i201 | (have a9 := i201; unfold In at a9)))); have a10 := t_sub e201 i171 (in_c 1 rfl) rfl; (first | have a11 := in_u i183 | (have a11 := i183; unfold In at a11)); have a12 := t_sub e183 i171 (in_c 1 rfl) rfl; omega) (by (first | have a0 := oa7 h2 h1 i15 i163 i125 i23 i171 | ((first | have a0 := in_u h2 | (have a0 := h2; unfold In at a0)); (first | have a1 := in_u h1 | (have a1 := h1; unfold In at a1)); (first | have a2 := in_u i15 | (have a2 := i15; unfold In at a2)); (first | have a3 := in_u i163 | (have a3 := i163; unfold In at a3)); (first | have a4 := in_u i125 | (have a4 := i125; unfold In at a4)); (first | have a5 := in_u i23 | (have a5 := i23; unfold In at a5)); (first | have a6 := in_u i171 | (have a6 := i171; unfold In at a6)))); have a7 := t_add e168 i15 (in_c 1 rfl) rfl; (first | have a8 := oa2 ((in_c 1 rfl)) i201 | ((first | have a8 := in_u ((in_c 1 rfl)) | (have a8 := (in_c 1 rfl); unfold In at a8)); (first | have a9 := in_u i201 | (have a9 := i201; unfold In at a9)))); have a10 := t_sub e201 i171 (in_c 1 rfl) rfl; (first | have a11 := in_u i183 | (have a11 := i183; unfold In at a11)); have a12 := t_sub e183 i171 (in_c 1 rfl) rfl; omega) p204 p204a p204b (hF204.1 142 rfl) (hF204.1 141 rfl) (hF204.1 138 rfl) (funext fun q => funext fun k => hF204.2.2.1 q k rfl)).1
              have n14a : BB s204 (z168).toInt := by exact bb_up g14_1 (by rw [sI_p rfl, sI_p rfl, sI_p rfl]) p204.2 (by (first | have a0 := oa7 h2 h1 i15 i163 i125 i23 i171 | ((first | have a0 := in_u h2 | (have a0 := h2; unfold In at a0)); (first | have a1 := in_u h1 | (have a1 := h1; unfold In at a1)); (first | have a2 := in_u i15 | (have a2 := i15; unfold In at a2)); (first | have a3 := in_u i163 | (have a3 := i163; unfold In at a3)); (first | have a4 := in_u i125 | (have a4 := i125; unfold In at a4)); (first | have a5 := in_u i23 | (have a5 := i23; unfold In at a5)); (first | have a6 := in_u i171 | (have a6 := i171; unfold In at a6)))); have a7 := t_add e168 i15 (in_c 1 rfl) rfl; (first | have a8 := oa2 ((in_c 1 rfl)) i201 | ((first | have a8 := in_u ((in_c 1 rfl)) | (have a8 := (in_c 1 rfl); unfold In at a8)); (first | have a9 := in_u i201 | (have a9 := i201; unfold In at a9)))); have a10 := t_sub e201 i171 (in_c 1 rfl) rfl; (first | have a11 := in_u i183 | (have a11 := i183; unfold In at a11)); have a12 := t_sub e183 i171 (in_c 1 rfl) rfl; omega) i203.2
              have m14 : sV (s204.1 145) ((z168).toInt + 1).toNat < k14 := by have hm := mm14; have hv := (pc_st g14_0 (by (first | have a0 := oa7 h2 h1 i15 i163 i125 i23 i171 | ((first | have a0 := in_u h2 | (have a0 := h2; unfold In at a0)); (first | have a1 := in_u h1 | (have a1 := h1; unfold In at a1)); (first | have a2 := in_u i15 | (have a2 := i15; unfold In at a2)); (first | have a3 := in_u i163 | (have a3 := i163; unfold In at a3)); (first | have a4 := in_u i125 | (have a4 := i125; unfold In at a4)); (first | have a5 := in_u i23 | (have a5 := i23; unfold In at a5)); (first | have a6 := in_u i171 | (have a6 := i171; unfold In at a6)))); have a7 := t_add e168 i15 (in_c 1 rfl) rfl; (first | have a8 := oa2 ((in_c 1 rfl)) i201 | ((first | have a8 := in_u ((in_c 1 rfl)) | (have a8 := (in_c 1 rfl); unfold In at a8)); (first | have a9 := in_u i201 | (have a9 := i201; unfold In at a9)))); have a10 := t_sub e201 i171 (in_c 1 rfl) rfl; (first | have a11 := in_u i183 | (have a11 := i183; unfold In at a11)); have a12 := t_sub e183 i171 (in_c 1 rfl) rfl; omega) (pst_cg (hFc14.1 141 rfl) (hFc14.1 138 rfl) (funext fun q => funext fun k => hFc14.2.2.1 q k rfl) q_0.1) lk_i e23 e39b hb125 i125 e140 e142 e143 p156 (by (first | have a0 := oa7 h2 h1 i15 i163 i125 i23 i171 | ((first | have a0 := in_u h2 | (have a0 := h2; unfold In at a0)); (first | have a1 := in_u h1 | (have a1 := h1; unfold In at a1)); (first | have a2 := in_u i15 | (have a2 := i15; unfold In at a2)); (first | have a3 := in_u i163 | (have a3 := i163; unfold In at a3)); (first | have a4 := in_u i125 | (have a4 := i125; unfold In at a4)); (first | have a5 := in_u i23 | (have a5 := i23; unfold In at a5)); (first | have a6 := in_u i171 | (have a6 := i171; unfold In at a6)))); have a7 := t_add e168 i15 (in_c 1 rfl) rfl; (first | have a8 := oa2 ((in_c 1 rfl)) i201 | ((first | have a8 := in_u ((in_c 1 rfl)) | (have a8 := (in_c 1 rfl); unfold In at a8)); (first | have a9 := in_u i201 | (have a9 := i201; unfold In at a9)))); have a10 := t_sub e201 i171 (in_c 1 rfl) rfl; (first | have a11 := in_u i183 | (have a11 := i183; unfold In at a11)); have a12 := t_sub e183 i171 (in_c 1 rfl) rfl; omega) (by (first | have a0 := oa7 h2 h1 i15 i163 i125 i23 i171 | ((first | have a0 := in_u h2 | (have a0 := h2; unfold In at a0)); (first | have a1 := in_u h1 | (have a1 := h1; unfold In at a1)); (first | have a2 := in_u i15 | (have a2 := i15; unfold In at a2)); (first | have a3 := in_u i163 | (have a3 := i163; unfold In at a3)); (first | have a4 := in_u i125 | (have a4 := i125; unfold In at a4)); (first | have a5 := in_u i23 | (have a5 := i23; unfold In at a5)); (first | have a6 := in_u i171 | (have a6 := i171; unfold In at a6)))); have a7 := t_add e168 i15 (in_c 1 rfl) rfl; (first | have a8 := oa2 ((in_c 1 rfl)) i201 | ((first | have a8 := in_u ((in_c 1 rfl)) | (have a8 := (in_c 1 rfl); unfold In at a8)); (first | have a9 := in_u i201 | (have a9 := i201; unfold In at a9)))); have a10 := t_sub e201 i171 (in_c 1 rfl) rfl; (first | have a11 := in_u i183 | (have a11 := i183; unfold In at a11)); have a12 := t_sub e183 i171 (in_c 1 rfl) rfl; omega) (by rw [← h8]; (first | have a0 := oa7 h2 h1 i15 i163 i125 i23 i171 | ((first | have a0 := in_u h2 | (have a0 := h2; unfold In at a0)); (first | have a1 := in_u h1 | (have a1 := h1; unfold In at a1)); (first | have a2 := in_u i15 | (have a2 := i15; unfold In at a2)); (first | have a3 := in_u i163 | (have a3 := i163; unfold In at a3)); (first | have a4 := in_u i125 | (have a4 := i125; unfold In at a4)); (first | have a5 := in_u i23 | (have a5 := i23; unfold In at a5)); (first | have a6 := in_u i171 | (have a6 := i171; unfold In at a6)))); have a7 := t_add e168 i15 (in_c 1 rfl) rfl; (first | have a8 := oa2 ((in_c 1 rfl)) i201 | ((first | have a8 := in_u ((in_c 1 rfl)) | (have a8 := (in_c 1 rfl); unfold In at a8)); (first | have a9 := in_u i201 | (have a9 := i201; unfold In at a9)))); have a10 := t_sub e201 i171 (in_c 1 rfl) rfl; (first | have a11 := in_u i183 | (have a11 := i183; unfold In at a11)); have a12 := t_sub e183 i171 (in_c 1 rfl) rfl; omega) (by (first | have a0 := oa7 h2 h1 i15 i163 i125 i23 i171 | ((first | have a0 := in_u h2 | (have a0 := h2; unfold In at a0)); (first | have a1 := in_u h1 | (have a1 := h1; unfold In at a1)); (first | have a2 := in_u i15 | (have a2 := i15; unfold In at a2)); (first | have a3 := in_u i163 | (have a3 := i163; unfold In at a3)); (first | have a4 := in_u i125 | (have a4 := i125; unfold In at a4)); (first | have a5 := in_u i23 | (have a5 := i23; unfold In at a5)); (first | have a6 := in_u i171 | (have a6 := i171; unfold In at a6)))); have a7 := t_add e168 i15 (in_c 1 rfl) rfl; (first | have a8 := oa2 ((in_c 1 rfl)) i201 | ((first | have a8 := in_u ((in_c 1 rfl)) | (have a8 := (in_c 1 rfl); unfold In at a8)); (first | have a9 := in_u i201 | (have a9 := i201; unfold In at a9)))); have a10 := t_sub e201 i171 (in_c 1 rfl) rfl; (first | have a11 := in_u i183 | (have a11 := i183; unfold In at a11)); have a12 := t_sub e183 i171 (in_c 1 rfl) rfl; omega) p204 p204a p204b (hF204.1 142 rfl) (hF204.1 141 rfl) (hF204.1 138 rfl) (funext fun q => funext fun k => hF204.2.2.1 q k rfl)).2; omega
              exact gg_w (by first | exact Nat.le_add_right _ _ | exact gw2 | exact gw3 | exact gwe rfl | exact gwf rfl | exact gwg rfl | exact gwh rfl | omega) (gg_f (gf_cons rfl (gf_cons rfl (gf_cons rfl (gf_cons rfl gf_nil)))) (ih14  s204 z168 hI204 (fr_tr rfl (fr_sI rfl (fr_sI rfl (fr_sI rfl hFc14))) hF204) (in_w (-1) 31 i171 rfl) n14 n14a m14))
            · skip
              have i185 := r_le1 (-2147483648) 31 c185 (i_rng z184) i125 rfl
              refine g_iload 190 (gd rfl) rfl rfl ?_
              refine g_iconst 1 191 (gd rfl) rfl rfl ?_
              refine g_iadd 192 (gd rfl) rfl (fun z191 e191 => ?_)
              have i191 := in_add 1 32 e191 i125 (in_c 1 rfl) rfl rfl
              refine g_goto 203 (gd rfl) rfl ?_
              have h9 : True := trivial
              have h98 : z191.toInt = z125.toInt + 1 := (by (first | have a0 := oa7 h2 h1 i15 i163 i125 i23 i171 | ((first | have a0 := in_u h2 | (have a0 := h2; unfold In at a0)); (first | have a1 := in_u h1 | (have a1 := h1; unfold In at a1)); (first | have a2 := in_u i15 | (have a2 := i15; unfold In at a2)); (first | have a3 := in_u i163 | (have a3 := i163; unfold In at a3)); (first | have a4 := in_u i125 | (have a4 := i125; unfold In at a4)); (first | have a5 := in_u i23 | (have a5 := i23; unfold In at a5)); (first | have a6 := in_u i171 | (have a6 := i171; unfold In at a6)))); have a7 := t_add e168 i15 (in_c 1 rfl) rfl; (first | have a8 := oa2 ((in_c 1 rfl)) i191 | ((first | have a8 := in_u ((in_c 1 rfl)) | (have a8 := (in_c 1 rfl); unfold In at a8)); (first | have a9 := in_u i191 | (have a9 := i191; unfold In at a9)))); have a10 := t_add e191 i125 (in_c 1 rfl) rfl; (first | have a11 := in_u i183 | (have a11 := i183; unfold In at a11)); have a12 := t_sub e183 i171 (in_c 1 rfl) rfl; omega)
              have i203 : In z191 0 32 := by exact ⟨by (first | have a0 := oa7 h2 h1 i15 i163 i125 i23 i171 | ((first | have a0 := in_u h2 | (have a0 := h2; unfold In at a0)); (first | have a1 := in_u h1 | (have a1 := h1; unfold In at a1)); (first | have a2 := in_u i15 | (have a2 := i15; unfold In at a2)); (first | have a3 := in_u i163 | (have a3 := i163; unfold In at a3)); (first | have a4 := in_u i125 | (have a4 := i125; unfold In at a4)); (first | have a5 := in_u i23 | (have a5 := i23; unfold In at a5)); (first | have a6 := in_u i171 | (have a6 := i171; unfold In at a6)))); have a7 := t_add e168 i15 (in_c 1 rfl) rfl; (first | have a8 := oa2 ((in_c 1 rfl)) i191 | ((first | have a8 := in_u ((in_c 1 rfl)) | (have a8 := (in_c 1 rfl); unfold In at a8)); (first | have a9 := in_u i191 | (have a9 := i191; unfold In at a9)))); have a10 := t_add e191 i125 (in_c 1 rfl) rfl; (first | have a11 := in_u i183 | (have a11 := i183; unfold In at a11)); have a12 := t_sub e183 i171 (in_c 1 rfl) rfl; omega, by (first | have a0 := oa7 h2 h1 i15 i163 i125 i23 i171 | ((first | have a0 := in_u h2 | (have a0 := h2; unfold In at a0)); (first | have a1 := in_u h1 | (have a1 := h1; unfold In at a1)); (first | have a2 := in_u i15 | (have a2 := i15; unfold In at a2)); (first | have a3 := in_u i163 | (have a3 := i163; unfold In at a3)); (first | have a4 := in_u i125 | (have a4 := i125; unfold In at a4)); (first | have a5 := in_u i23 | (have a5 := i23; unfold In at a5)); (first | have a6 := in_u i171 | (have a6 := i171; unfold In at a6)))); have a7 := t_add e168 i15 (in_c 1 rfl) rfl; (first | have a8 := oa2 ((in_c 1 rfl)) i191 | ((first | have a8 := in_u ((in_c 1 rfl)) | (have a8 := (in_c 1 rfl); unfold In at a8)); (first | have a9 := in_u i191 | (have a9 := i191; unfold In at a9)))); have a10 := t_add e191 i125 (in_c 1 rfl) rfl; (first | have a11 := in_u i183 | (have a11 := i183; unfold In at a11)); have a12 := t_sub e183 i171 (in_c 1 rfl) rfl; omega⟩
              refine g_iload_n 204 (gd rfl) rfl rfl ?_
              refine g_callv (X := _) (As := [.int z168, .int z156, .int z191, .int x1]) (r := []) (b := A 109) (q := 109) 207 (gd rfl) rfl rfl rfl rfl rfl (ww_o rfl) (Nat.le_of_ble_eq_true rfl) (Nat.zero_le _) (Nat.zero_le _) (k_344 (by first | exact dq1 hd rfl | exact dq0 hd rfl | exact dq2 hd rfl | exact dq3 hd rfl | omega) hI153 (in_w 0 31 i171 rfl) (in_w 0 31 i163 rfl) (in_w 0 32 i203 rfl) (in_w 0 32 h1 rfl)) (fun e u h => h) (fun v u h => ?_)
              obtain ⟨s204, hI204, hF204, rfl, rfl, p204, p204a, p204b⟩ := h
              show GG _ _ _ _ _ _ _ _ [] _ _ _
              refine g_goto 14 (gd rfl) rfl ?_
              have n14 : A14 s204 (x1).toInt (z168).toInt := by exact (pc_st g14_0 (by (first | have a0 := oa7 h2 h1 i15 i163 i125 i23 i171 | ((first | have a0 := in_u h2 | (have a0 := h2; unfold In at a0)); (first | have a1 := in_u h1 | (have a1 := h1; unfold In at a1)); (first | have a2 := in_u i15 | (have a2 := i15; unfold In at a2)); (first | have a3 := in_u i163 | (have a3 := i163; unfold In at a3)); (first | have a4 := in_u i125 | (have a4 := i125; unfold In at a4)); (first | have a5 := in_u i23 | (have a5 := i23; unfold In at a5)); (first | have a6 := in_u i171 | (have a6 := i171; unfold In at a6)))); have a7 := t_add e168 i15 (in_c 1 rfl) rfl; (first | have a8 := oa2 ((in_c 1 rfl)) i203 | ((first | have a8 := in_u ((in_c 1 rfl)) | (have a8 := (in_c 1 rfl); unfold In at a8)); (first | have a9 := in_u i203 | (have a9 := i203; unfold In at a9)))); have a10 := t_add e191 i125 (in_c 1 rfl) rfl; (first | have a11 := in_u i183 | (have a11 := i183; unfold In at a11)); have a12 := t_sub e183 i171 (in_c 1 rfl) rfl; omega) (pst_cg (hFc14.1 141 rfl) (hFc14.1 138 rfl) (funext fun q => funext fun k => hFc14.2.2.1 q k rfl) q_0.1) lk_i e23 e39b hb125 i125 e140 e142 e143 p156 (by (first | have a0 := oa7 h2 h1 i15 i163 i125 i23 i171 | ((first | have a0 := in_u h2 | (have a0 := h2; unfold In at a0)); (first | have a1 := in_u h1 | (have a1 := h1; unfold In at a1)); (first | have a2 := in_u i15 | (have a2 := i15; unfold In at a2)); (first | have a3 := in_u i163 | (have a3 := i163; unfold In at a3)); (first | have a4 := in_u i125 | (have a4 := i125; unfold In at a4)); (first | have a5 := in_u i23 | (have a5 := i23; unfold In at a5)); (first | have a6 := in_u i171 | (have a6 := i171; unfold In at a6)))); have a7 := t_add e168 i15 (in_c 1 rfl) rfl; (first | have a8 := oa2 ((in_c 1 rfl)) i203 | ((first | have a8 := in_u ((in_c 1 rfl)) | (have a8 := (in_c 1 rfl); unfold In at a8)); (first | have a9 := in_u i203 | (have a9 := i203; unfold In at a9)))); have a10 := t_add e191 i125 (in_c 1 rfl) rfl; (first | have a11 := in_u i183 | (have a11 := i183; unfold In at a11)); have a12 := t_sub e183 i171 (in_c 1 rfl) rfl; omega) (by (first | have a0 := oa7 h2 h1 i15 i163 i125 i23 i171 | ((first | have a0 := in_u h2 | (have a0 := h2; unfold In at a0)); (first | have a1 := in_u h1 | (have a1 := h1; unfold In at a1)); (first | have a2 := in_u i15 | (have a2 := i15; unfold In at a2)); (first | have a3 := in_u i163 | (have a3 := i163; unfold In at a3)); (first | have a4 := in_u i125 | (have a4 := i125; unfold In at a4)); (first | have a5 := in_u i23 | (have a5 := i23; unfold In at a5)); (first | have a6 := in_u i171 | (have a6 := i171; unfold In at a6)))); have a7 := t_add e168 i15 (in_c 1 rfl) rfl; (first | have a8 := oa2 ((in_c 1 rfl)) i203 | ((first | have a8 := in_u ((in_c 1 rfl)) | (have a8 := (in_c 1 rfl); unfold In at a8)); (first | have a9 := in_u i203 | (have a9 := i203; unfold In at a9)))); have a10 := t_add e191 i125 (in_c 1 rfl) rfl; (first | have a11 := in_u i183 | (have a11 := i183; unfold In at a11)); have a12 := t_sub e183 i171 (in_c 1 rfl) rfl; omega) (by rw [← h8]; (first | have a0 := oa7 h2 h1 i15 i163 i125 i23 i171 | ((first | have a0 := in_u h2 | (have a0 := h2; unfold In at a0)); (first | have a1 := in_u h1 | (have a1 := h1; unfold In at a1)); (first | have a2 := in_u i15 | (have a2 := i15; unfold In at a2)); (first | have a3 := in_u i163 | (have a3 := i163; unfold In at a3)); (first | have a4 := in_u i125 | (have a4 := i125; unfold In at a4)); (first | have a5 := in_u i23 | (have a5 := i23; unfold In at a5)); (first | have a6 := in_u i171 | (have a6 := i171; unfold In at a6)))); have a7 := t_add e168 i15 (in_c 1 rfl) rfl; (first | have a8 := oa2 ((in_c 1 rfl)) i203 | ((first | have a8 := in_u ((in_c 1 rfl)) | (have a8 := (in_c 1 rfl); unfold In at a8)); (first | have a9 := in_u i203 | (have a9 := i203; unfold In at a9)))); have a10 := t_add e191 i125 (in_c 1 rfl) rfl; (first | have a11 := in_u i183 | (have a11 := i183; unfold In at a11)); have a12 := t_sub e183 i171 (in_c 1 rfl) rfl; omega) (by (first | have a0 := oa7 h2 h1 i15 i163 i125 i23 i171 | ((first | have a0 := in_u h2 | (have a0 := h2; unfold In at a0)); (first | have a1 := in_u h1 | (have a1 := h1; unfold In at a1)); (first | have a2 := in_u i15 | (have a2 := i15; unfold In at a2)); (first | have a3 := in_u i163 | (have a3 := i163; unfold In at a3)); (first | have a4 := in_u i125 | (have a4 := i125; unfold In at a4)); (first | have a5 := in_u i23 | (have a5 := i23; unfold In at a5)); (first | have a6 := in_u i171 | (have a6 := i171; unfold In at a6)))); have a7 := t_add e168 i15 (in_c 1 rfl) rfl; (first | have a8 := oa2 ((in_c 1 rfl)) i203 | ((first | have a8 := in_u ((in_c 1 rfl)) | (have a8 := (in_c 1 rfl); unfold In at a8)); (first | have a9 := in_u i203 | (have a9 := i203; unfold In at a9)))); have a10 := t_add e191 i125 (in_c 1 rfl) rfl; (first | have a11 := in_u i183 | (have a11 := i183; unfold In at a11)); have a12 := t_sub e183 i171 (in_c 1 rfl) rfl; omega) p204 p204a p204b (hF204.1 142 rfl) (hF204.1 141 rfl) (hF204.1 138 rfl) (funext fun q => funext fun k => hF204.2.2.1 q k rfl)).1
              have n14a : BB s204 (z168).toInt := by exact bb_up g14_1 (by rw [sI_p rfl, sI_p rfl, sI_p rfl]) p204.2 (by (first | have a0 := oa7 h2 h1 i15 i163 i125 i23 i171 | ((first | have a0 := in_u h2 | (have a0 := h2; unfold In at a0)); (first | have a1 := in_u h1 | (have a1 := h1; unfold In at a1)); (first | have a2 := in_u i15 | (have a2 := i15; unfold In at a2)); (first | have a3 := in_u i163 | (have a3 := i163; unfold In at a3)); (first | have a4 := in_u i125 | (have a4 := i125; unfold In at a4)); (first | have a5 := in_u i23 | (have a5 := i23; unfold In at a5)); (first | have a6 := in_u i171 | (have a6 := i171; unfold In at a6)))); have a7 := t_add e168 i15 (in_c 1 rfl) rfl; (first | have a8 := oa2 ((in_c 1 rfl)) i203 | ((first | have a8 := in_u ((in_c 1 rfl)) | (have a8 := (in_c 1 rfl); unfold In at a8)); (first | have a9 := in_u i203 | (have a9 := i203; unfold In at a9)))); have a10 := t_add e191 i125 (in_c 1 rfl) rfl; (first | have a11 := in_u i183 | (have a11 := i183; unfold In at a11)); have a12 := t_sub e183 i171 (in_c 1 rfl) rfl; omega) i203.2
              have m14 : sV (s204.1 145) ((z168).toInt + 1).toNat < k14 := by have hm := mm14; have hv := (pc_st g14_0 (by (first | have a0 := oa7 h2 h1 i15 i163 i125 i23 i171 | ((first | have a0 := in_u h2 | (have a0 := h2; unfold In at a0)); (first | have a1 := in_u h1 | (have a1 := h1; unfold In at a1)); (first | have a2 := in_u i15 | (have a2 := i15; unfold In at a2)); (first | have a3 := in_u i163 | (have a3 := i163; unfold In at a3)); (first | have a4 := in_u i125 | (have a4 := i125; unfold In at a4)); (first | have a5 := in_u i23 | (have a5 := i23; unfold In at a5)); (first | have a6 := in_u i171 | (have a6 := i171; unfold In at a6)))); have a7 := t_add e168 i15 (in_c 1 rfl) rfl; (first | have a8 := oa2 ((in_c 1 rfl)) i203 | ((first | have a8 := in_u ((in_c 1 rfl)) | (have a8 := (in_c 1 rfl); unfold In at a8)); (first | have a9 := in_u i203 | (have a9 := i203; unfold In at a9)))); have a10 := t_add e191 i125 (in_c 1 rfl) rfl; (first | have a11 := in_u i183 | (have a11 := i183; unfold In at a11)); have a12 := t_sub e183 i171 (in_c 1 rfl) rfl; omega) (pst_cg (hFc14.1 141 rfl) (hFc14.1 138 rfl) (funext fun q => funext fun k => hFc14.2.2.1 q k rfl) q_0.1) lk_i e23 e39b hb125 i125 e140 e142 e143 p156 (by (first | have a0 := oa7 h2 h1 i15 i163 i125 i23 i171 | ((first | have a0 := in_u h2 | (have a0 := h2; unfold In at a0)); (first | have a1 := in_u h1 | (have a1 := h1; unfold In at a1)); (first | have a2 := in_u i15 | (have a2 := i15; unfold In at a2)); (first | have a3 := in_u i163 | (have a3 := i163; unfold In at a3)); (first | have a4 := in_u i125 | (have a4 := i125; unfold In at a4)); (first | have a5 := in_u i23 | (have a5 := i23; unfold In at a5)); (first | have a6 := in_u i171 | (have a6 := i171; unfold In at a6)))); have a7 := t_add e168 i15 (in_c 1 rfl) rfl; (first | have a8 := oa2 ((in_c 1 rfl)) i203 | ((first | have a8 := in_u ((in_c 1 rfl)) | (have a8 := (in_c 1 rfl); unfold In at a8)); (first | have a9 := in_u i203 | (have a9 := i203; unfold In at a9)))); have a10 := t_add e191 i125 (in_c 1 rfl) rfl; (first | have a11 := in_u i183 | (have a11 := i183; unfold In at a11)); have a12 := t_sub e183 i171 (in_c 1 rfl) rfl; omega) (by (first | have a0 := oa7 h2 h1 i15 i163 i125 i23 i171 | ((first | have a0 := in_u h2 | (have a0 := h2; unfold In at a0)); (first | have a1 := in_u h1 | (have a1 := h1; unfold In at a1)); (first | have a2 := in_u i15 | (have a2 := i15; unfold In at a2)); (first | have a3 := in_u i163 | (have a3 := i163; unfold In at a3)); (first | have a4 := in_u i125 | (have a4 := i125; unfold In at a4)); (first | have a5 := in_u i23 | (have a5 := i23; unfold In at a5)); (first | have a6 := in_u i171 | (have a6 := i171; unfold In at a6)))); have a7 := t_add e168 i15 (in_c 1 rfl) rfl; (first | have a8 := oa2 ((in_c 1 rfl)) i203 | ((first | have a8 := in_u ((in_c 1 rfl)) | (have a8 := (in_c 1 rfl); unfold In at a8)); (first | have a9 := in_u i203 | (have a9 := i203; unfold In at a9)))); have a10 := t_add e191 i125 (in_c 1 rfl) rfl; (first | have a11 := in_u i183 | (have a11 := i183; unfold In at a11)); have a12 := t_sub e183 i171 (in_c 1 rfl) rfl; omega) (by rw [← h8]; (first | have a0 := oa7 h2 h1 i15 i163 i125 i23 i171 | ((first | have a0 := in_u h2 | (have a0 := h2; unfold In at a0)); (first | have a1 := in_u h1 | (have a1 := h1; unfold In at a1)); (first | have a2 := in_u i15 | (have a2 := i15; unfold In at a2)); (first | have a3 := in_u i163 | (have a3 := i163; unfold In at a3)); (first | have a4 := in_u i125 | (have a4 := i125; unfold In at a4)); (first | have a5 := in_u i23 | (have a5 := i23; unfold In at a5)); (first | have a6 := in_u i171 | (have a6 := i171; unfold In at a6)))); have a7 := t_add e168 i15 (in_c 1 rfl) rfl; (first | have a8 := oa2 ((in_c 1 rfl)) i203 | ((first | have a8 := in_u ((in_c 1 rfl)) | (have a8 := (in_c 1 rfl); unfold In at a8)); (first | have a9 := in_u i203 | (have a9 := i203; unfold In at a9)))); have a10 := t_add e191 i125 (in_c 1 rfl) rfl; (first | have a11 := in_u i183 | (have a11 := i183; unfold In at a11)); have a12 := t_sub e183 i171 (in_c 1 rfl) rfl; omega) (by (first | have a0 := oa7 h2 h1 i15 i163 i125 i23 i171 | ((first | have a0 := in_u h2 | (have a0 := h2; unfold In at a0)); (first | have a1 := in_u h1 | (have a1 := h1; unfold In at a1)); (first | have a2 := in_u i15 | (have a2 := i15; unfold In at a2)); (first | have a3 := in_u i163 | (have a3 := i163; unfold In at a3)); (first | have a4 := in_u i125 | (have a4 := i125; unfold In at a4)); (first | have a5 := in_u i23 | (have a5 := i23; unfold In at a5)); (first | have a6 := in_u i171 | (have a6 := i171; unfold In at a6)))); have a7 := t_add e168 i15 (in_c 1 rfl) rfl; (first | have a8 := oa2 ((in_c 1 rfl)) i203 | ((first | have a8 := in_u ((in_c 1 rfl)) | (have a8 := (in_c 1 rfl); unfold In at a8)); (first | have a9 := in_u i203 | (have a9 := i203; unfold In at a9)))); have a10 := t_add e191 i125 (in_c 1 rfl) rfl; (first | have a11 := in_u i183 | (have a11 := i183; unfold In at a11)); have a12 := t_sub e183 i171 (in_c 1 rfl) rfl; omega) p204 p204a p204b (hF204.1 142 rfl) (hF204.1 141 rfl) (hF204.1 138 rfl) (funext fun q => funext fun k => hF204.2.2.1 q k rfl)).2; omega
              exact gg_w (by first | exact Nat.le_add_right _ _ | exact gw2 | exact gw3 | exact gwe rfl | exact gwf rfl | exact gwg rfl | exact gwh rfl | omega) (gg_f (gf_cons rfl (gf_cons rfl (gf_cons rfl (gf_cons rfl gf_nil)))) (ih14  s204 z168 hI204 (fr_tr rfl (fr_sI rfl (fr_sI rfl (fr_sI rfl hFc14))) hF204) (in_w (-1) 31 i171 rfl) n14 n14a m14))
          · skip
            have i163 := z_lt (-1) (-1) c163 i156 rfl
            refine g_iconst 1 167 (gd rfl) rfl rfl ?_
            have n167 : (((Int32.ofInt 1)).toInt = 0 → ¬ EXP (sI (sI (sI sc14 142 z23.toNatClampNeg (Int32.ofInt (-1))) 145 y14_3.toNatClampNeg z143) 142 z23.toNatClampNeg z125) (x1).toInt) ∧ (((Int32.ofInt 1)).toInt ≠ 0 → EXP (sI (sI (sI sc14 142 z23.toNatClampNeg (Int32.ofInt (-1))) 145 y14_3.toNatClampNeg z143) 142 z23.toNatClampNeg z125) (x1).toInt) := by exact ⟨fun h => absurd h (by decide), fun _ => pc_t g14_0 (by (first | have a0 := oa6 h2 h1 i15 i163 i125 i23 | ((first | have a0 := in_u h2 | (have a0 := h2; unfold In at a0)); (first | have a1 := in_u h1 | (have a1 := h1; unfold In at a1)); (first | have a2 := in_u i15 | (have a2 := i15; unfold In at a2)); (first | have a3 := in_u i163 | (have a3 := i163; unfold In at a3)); (first | have a4 := in_u i125 | (have a4 := i125; unfold In at a4)); (first | have a5 := in_u i23 | (have a5 := i23; unfold In at a5)))); omega) (pst_cg (hFc14.1 141 rfl) (hFc14.1 138 rfl) (funext fun q => funext fun k => hFc14.2.2.1 q k rfl) q_0.1) lk_i e23 e39b hb125 (by (first | have a0 := oa6 h2 h1 i15 i163 i125 i23 | ((first | have a0 := in_u h2 | (have a0 := h2; unfold In at a0)); (first | have a1 := in_u h1 | (have a1 := h1; unfold In at a1)); (first | have a2 := in_u i15 | (have a2 := i15; unfold In at a2)); (first | have a3 := in_u i163 | (have a3 := i163; unfold In at a3)); (first | have a4 := in_u i125 | (have a4 := i125; unfold In at a4)); (first | have a5 := in_u i23 | (have a5 := i23; unfold In at a5)))); omega) p156 (by (first | have a0 := oa6 h2 h1 i15 i163 i125 i23 | ((first | have a0 := in_u h2 | (have a0 := h2; unfold In at a0)); (first | have a1 := in_u h1 | (have a1 := h1; unfold In at a1)); (first | have a2 := in_u i15 | (have a2 := i15; unfold In at a2)); (first | have a3 := in_u i163 | (have a3 := i163; unfold In at a3)); (first | have a4 := in_u i125 | (have a4 := i125; unfold In at a4)); (first | have a5 := in_u i23 | (have a5 := i23; unfold In at a5)))); omega)⟩
            exact g_ireturn (gd rfl) rfl (nb01 (in_w 0 1 (in_c 1 rfl) rfl)) (hP _ _ ⟨(sI (sI (sI sc14 142 z23.toNatClampNeg (Int32.ofInt (-1))) 145 y14_3.toNatClampNeg z143) 142 z23.toNatClampNeg z125), hI153, (fr_sI rfl (fr_sI rfl (fr_sI rfl hFc14))), (Int32.ofInt 1), rfl, rfl, in_w 0 1 (in_c 1 rfl) rfl, n167⟩)
        · skip
          have i40 := z_eq 0 0 c40 (i_rng z39) rfl
          refine g_aload_n 44 (gd rfl) rfl rfl ?_
          refine g_getA (q2 := 146) 47 (gd rfl) rfl rfl rfl rfl ?_
          refine g_iload_n 48 (gd rfl) rfl rfl ?_
          refine g_iaload 49 (gd rfl) rfl (n := 33) rfl (in_ix i15 rfl) (fun z48 e48 => ?_)
          refine g_istore 51 (gd rfl) rfl (Nat.le_of_ble_eq_true rfl) ?_
          have e48b : z48 = sc14.1 146 y14_3.toNatClampNeg := (by rw [e48, sI_p rfl])
          refine g_iinc 54 (gd rfl) rfl rfl (Nat.le_of_ble_eq_true rfl) (fun z51 e51 => ?_)
          have i51 := in_add (-1) 30 e51 i15 (in_c (-1) rfl) rfl rfl
          have n54 : (z51).toInt < y14_3.toInt := by (first | have a0 := oa5 h2 h1 i15 i23 i51 | ((first | have a0 := in_u h2 | (have a0 := h2; unfold In at a0)); (first | have a1 := in_u h1 | (have a1 := h1; unfold In at a1)); (first | have a2 := in_u i15 | (have a2 := i15; unfold In at a2)); (first | have a3 := in_u i23 | (have a3 := i23; unfold In at a3)); (first | have a4 := in_u i51 | (have a4 := i51; unfold In at a4)))); have a5 := t_add e51 i15 (in_c (-1) rfl) rfl; (first | have a6 := in_u ((in_c (-1) rfl)) | (have a6 := (in_c (-1) rfl); unfold In at a6)); omega
          have n54a : JMP (sI sc14 142 z23.toNatClampNeg (Int32.ofInt (-1))) (x1).toInt (z48) (z51).toInt := by exact jm_0 g14_0 (by (first | have a0 := oa5 h2 h1 i15 i23 i51 | ((first | have a0 := in_u h2 | (have a0 := h2; unfold In at a0)); (first | have a1 := in_u h1 | (have a1 := h1; unfold In at a1)); (first | have a2 := in_u i15 | (have a2 := i15; unfold In at a2)); (first | have a3 := in_u i23 | (have a3 := i23; unfold In at a3)); (first | have a4 := in_u i51 | (have a4 := i51; unfold In at a4)))); have a5 := t_add e51 i15 (in_c (-1) rfl) rfl; (first | have a6 := in_u ((in_c (-1) rfl)) | (have a6 := (in_c (-1) rfl); unfold In at a6)); omega) e23 e39b c40 e48b (by (first | have a0 := oa5 h2 h1 i15 i23 i51 | ((first | have a0 := in_u h2 | (have a0 := h2; unfold In at a0)); (first | have a1 := in_u h1 | (have a1 := h1; unfold In at a1)); (first | have a2 := in_u i15 | (have a2 := i15; unfold In at a2)); (first | have a3 := in_u i23 | (have a3 := i23; unfold In at a3)); (first | have a4 := in_u i51 | (have a4 := i51; unfold In at a4)))); have a5 := t_add e51 i15 (in_c (-1) rfl) rfl; (first | have a6 := in_u ((in_c (-1) rfl)) | (have a6 := (in_c (-1) rfl); unfold In at a6)); omega)
          have n54b : (sI sc14 142 z23.toNatClampNeg (Int32.ofInt (-1))).1 145 = sc14.1 145 := by rw [sI_p rfl]
          have n54c : BB (sI sc14 142 z23.toNatClampNeg (Int32.ofInt (-1))) (z51).toInt := by exact bb_le g14_1 (by rw [sI_p rfl]) (by (first | have a0 := oa5 h2 h1 i15 i23 i51 | ((first | have a0 := in_u h2 | (have a0 := h2; unfold In at a0)); (first | have a1 := in_u h1 | (have a1 := h1; unfold In at a1)); (first | have a2 := in_u i15 | (have a2 := i15; unfold In at a2)); (first | have a3 := in_u i23 | (have a3 := i23; unfold In at a3)); (first | have a4 := in_u i51 | (have a4 := i51; unfold In at a4)))); have a5 := t_add e51 i15 (in_c (-1) rfl) rfl; (first | have a6 := in_u ((in_c (-1) rfl)) | (have a6 := (in_c (-1) rfl); unfold In at a6)); omega)
          exact gg_w (by first | exact Nat.le_add_right _ _ | exact gw2 | exact gw3 | exact gwe rfl | exact gwf rfl | exact gwg rfl | exact gwh rfl | omega) (gg_f (gf_cons rfl (gf_cons rfl (gf_cons rfl (gf_cons rfl (gf_cons rfl (gf_cons rfl gf_nil)))))) (ct54 33 (sI sc14 142 z23.toNatClampNeg (Int32.ofInt (-1))) z51 z23 z48 hI33 (fr_sI rfl hFc14) (in_w (-1) 31 i51 rfl) (in_w 0 31 i23 rfl) n54 n54a n54b n54c (m_ind 33 (in_w (-1) 31 i51 rfl) rfl)))
  refine g_enter2 (k := 345) (N := 3825234910286484364224102400000000000000000000000000000000901) (by first | exact dq1 hd rfl | exact dq0 hd rfl | exact dq2 hd rfl | exact dq3 hd rfl | omega) rfl (Nat.le_of_ble_eq_true rfl) ?_
  refine g_iconst 0 1 (gd rfl) rfl rfl ?_
  refine g_istore_n 2 (gd rfl) rfl (Nat.le_of_ble_eq_true rfl) ?_
  refine g_aload_n 3 (gd rfl) rfl rfl ?_
  refine g_iconst 0 4 (gd rfl) rfl rfl ?_
  refine g_aload_n 5 (gd rfl) rfl rfl ?_
  refine g_iload_n 6 (gd rfl) rfl rfl ?_
  refine g_callv (X := _) (As := [.int x1]) (r := [.int (Int32.ofInt 0), .ref (A 109)]) (b := A 109) (q := 109) 9 (gd rfl) rfl rfl rfl rfl rfl (ww_o rfl) (Nat.le_of_ble_eq_true rfl) (Nat.zero_le _) (Nat.zero_le _) (k_340 (by first | exact dq1 hd rfl | exact dq0 hd rfl | exact dq2 hd rfl | exact dq3 hd rfl | omega) hI (in_w 0 200 h1 rfl)) (fun e u h => h) (fun v u h => ?_)
  obtain ⟨z6, rfl, rfl, i6, p6⟩ := h
  show GG _ _ _ _ _ _ _ _ [.int z6, .int (Int32.ofInt 0), .ref (A 109)] _ _ _
  have i9 : In z6 0 31 := by exact ⟨p5_z6 q_0 p6, i6.2⟩
  refine g_iload_n 10 (gd rfl) rfl rfl ?_
  refine g_iload_n 11 (gd rfl) rfl rfl ?_
  refine g_callv (X := _) (As := [.int (Int32.ofInt 0), .int z6, .int x2, .int x1]) (r := []) (b := A 109) (q := 109) 14 (gd rfl) rfl rfl rfl rfl rfl (ww_o rfl) (Nat.le_of_ble_eq_true rfl) (Nat.zero_le _) (Nat.zero_le _) (k_344 (by first | exact dq1 hd rfl | exact dq0 hd rfl | exact dq2 hd rfl | exact dq3 hd rfl | omega) hI (in_w 0 31 (in_c 0 rfl) rfl) (in_w 0 31 i9 rfl) (in_w 0 32 h2 rfl) (in_w 0 32 h1 rfl)) (fun e u h => h) (fun v u h => ?_)
  obtain ⟨s11, hI11, hF11, rfl, rfl, p11, p11a, p11b⟩ := h
  show GG _ _ _ _ _ _ _ _ [] _ _ _
  have n14 : A14 s11 (x1).toInt ((Int32.ofInt 0)).toInt := by exact pc_ini q_0 (by (first | have a0 := oa3 h2 h1 ((in_c 0 rfl)) | ((first | have a0 := in_u h2 | (have a0 := h2; unfold In at a0)); (first | have a1 := in_u h1 | (have a1 := h1; unfold In at a1)); (first | have a2 := in_u ((in_c 0 rfl)) | (have a2 := (in_c 0 rfl); unfold In at a2)))); omega) p6 p11 p11a p11b (hF11.1 142 rfl) (hF11.1 141 rfl) (hF11.1 138 rfl) (funext fun q => funext fun k => hF11.2.2.1 q k rfl)
  have n14a : BB s11 ((Int32.ofInt 0)).toInt := by exact bb_0 p11.2 (by (first | have a0 := oa3 h2 h1 ((in_c 0 rfl)) | ((first | have a0 := in_u h2 | (have a0 := h2; unfold In at a0)); (first | have a1 := in_u h1 | (have a1 := h1; unfold In at a1)); (first | have a2 := in_u ((in_c 0 rfl)) | (have a2 := (in_c 0 rfl); unfold In at a2)))); omega)
  have m14 : sV (s11.1 145) (((Int32.ofInt 0)).toInt + 1).toNat < 118059162071741130342400000000000000000000000000000000000 := by exact sV_1
  exact gg_w (by first | exact Nat.le_of_ble_eq_true rfl | omega) (gg_f (gf_cons rfl (gf_cons rfl (gf_cons rfl (gf_cons rfl gf_nil)))) (ct14 (118059162071741130342400000000000000000000000000000000000) s11 (Int32.ofInt 0) hI11 (fr_tr rfl fr_rf hF11) (in_w (-1) 31 (in_c 0 rfl) rfl) n14 n14a m14))

def fm_343 : FM := ([142, 143, 144, 145, 146], [], [(109, 53)], [])
/-- GraphHouseModel.isColourable -/
theorem k_343 {Z : AmZ} {A : Nat → Nat} {s : GS} {ex : va_W} {d : Nat} {X : AmX} {x1 : Int32} (hd : 6 ≤ d) (hI : Inv s) (h1 : In x1 0 32) (q_0 : BSD s) : GC Z d 343 [.ref (A 109), .int x1] (WW Z A s ++ ex) 0 0 (fun v u => ∃ t : GS, Inv t ∧ Fr fm_343 s t ∧ ∃ z : Int32, v = some (.int z) ∧ u = WW Z A t ++ ex ∧ In z 0 1 ∧ (CLR s (x1).toInt (z).toInt)) X := by
  intro post xp hP hX
  obtain ⟨u_109_20, e_109_20⟩ : ∃ w, w = s.2.2.1 109 20 := ⟨_, rfl⟩
  have ro_109_20 := inv_F hI 0 32 rfl e_109_20
  have ct62 : ∀ (k62 : Nat) (sc62 : GS) (y62_2 : Int32) (y62_3 : Int32) (y62_4 : Int32), Inv sc62 → Fr fm_343 s sc62 → (In y62_2 0 32) → (In y62_4 0 1) → (I62 s (x1).toInt (y62_3) (y62_4).toInt) → (CE sc62) → (UB s (y62_2).toInt) → cb y62_3 < k62 → GG Z (d - 1) 343 post (gx xp) (1 + k62 * 32401) 62 (fun j => xlook j [(0, .ref (A 109)), (1, .int x1), (2, .int y62_2), (3, .int y62_3), (4, .int y62_4)]) [] (WW Z A sc62 ++ ex) 0 0 := by
    intro k62
    induction k62 with
    | zero => intro sc62 y62_2 y62_3 y62_4 hIc62 hFc62 j62_2 j62_4 g62_0 g62_1 g62_2 mm62; exact absurd mm62 (Nat.not_lt_zero _)
    | succ k62 ih62 =>
      intro sc62 y62_2 y62_3 y62_4 hIc62 hFc62 j62_2 j62_4 g62_0 g62_1 g62_2 mm62
      refine gg_w (M := 1 + k62 * 32401 + 32401) gws ?_
      have ct104 : ∀ (k104 : Nat) (sc104 : GS) (y104_3 : Int32) (y104_4 : Int32) (y104_5 : Int32), Inv sc104 → Fr fm_343 s sc104 → (In y104_4 0 1) → (In y104_5 0 32) → ((y104_5).toInt ≤ (u_109_20).toInt) → (I62 s (x1).toInt (y104_3) (y104_4).toInt) → (CEm sc104 (y104_5).toInt) → (cb y104_3 < k62) → 32 - (y104_5).toInt < (k104 : Int) → GG Z (d - 1) 343 post (gx xp) (1 + k62 * 32401 + 1 + k104 * 900) 104 (fun j => xlook j [(0, .ref (A 109)), (1, .int x1), (2, .int y62_2), (3, .int y104_3), (4, .int y104_4), (5, .int y104_5)]) [] (WW Z A sc104 ++ ex) 0 0 := by
        intro k104
        induction k104 with
        | zero => intro sc104 y104_3 y104_4 y104_5 hIc104 hFc104 j104_4 j104_5 n104_0 g104_0 g104_1 g104_2 mm104; exact m_no mm104 j104_5 rfl
        | succ k104 ih104 =>
          intro sc104 y104_3 y104_4 y104_5 hIc104 hFc104 j104_4 j104_5 n104_0 g104_0 g104_1 g104_2 mm104
          refine gg_w (M := 1 + k62 * 32401 + 1 + k104 * 900 + 900) gws ?_
          refine g_iload 106 (gd rfl) rfl rfl ?_
          refine g_aload_n 107 (gd rfl) rfl rfl ?_
          refine g_getI 110 (gd rfl) rfl rfl rfl (fun z107 e107 => ?_)
          have q107 : u_109_20 = z107 := (fr_F e_109_20 hFc104 rfl).trans e107.symm
          subst q107
          refine g_cmp_ge 113 133 (gd rfl) rfl rfl (fun c110 => ?_) (fun c110 => ?_)
          · skip
            refine g_goto 62 (gd rfl) rfl ?_
            have n62 : I62 s (x1).toInt (y104_3) (y104_4).toInt := by exact g104_0
            have n62a : CE sc104 := by (have h := g104_1; rw [show y104_5.toInt = (sc104.2.2.1 109 20).toInt from (by rw [hFc104.2.2.1 109 20 rfl, ← e_109_20]; (first | have a0 := oa5 j62_2 h1 ro_109_20 j104_5 j104_4 | ((first | have a0 := in_u j62_2 | (have a0 := j62_2; unfold In at a0)); (first | have a1 := in_u h1 | (have a1 := h1; unfold In at a1)); (first | have a2 := in_u ro_109_20 | (have a2 := ro_109_20; unfold In at a2)); (first | have a3 := in_u j104_5 | (have a3 := j104_5; unfold In at a3)); (first | have a4 := in_u j104_4 | (have a4 := j104_4; unfold In at a4)))); omega)] at h; exact h)
            have n62b : UB s (y62_2).toInt := by exact g62_2
            have m62 : cb y104_3 < k62 := by have h := g104_2; omega
            exact gg_w (by first | exact Nat.le_add_right _ _ | exact gw2 | exact gw3 | exact gwe rfl | exact gwf rfl | exact gwg rfl | exact gwh rfl | omega) (gg_f (gf_cons rfl (gf_cons rfl (gf_cons rfl (gf_cons rfl (gf_cons rfl gf_nil))))) (ih62  sc104 y62_2 y104_3 y104_4 hIc104 hFc104 (in_w 0 32 j62_2 rfl) (in_w 0 1 j104_4 rfl) n62 n62a n62b m62))
          · skip
            have i110 := r_lt1 0 31 c110 j104_5 ro_109_20 rfl
            have i110a := r_lt2 1 32 c110 j104_5 ro_109_20 rfl
            refine g_aload_n 114 (gd rfl) rfl rfl ?_
            refine g_getA (q2 := 142) 117 (gd rfl) rfl rfl rfl rfl ?_
            refine g_iload 119 (gd rfl) rfl rfl ?_
            refine g_aload_n 120 (gd rfl) rfl rfl ?_
            refine g_getA (q2 := 141) 123 (gd rfl) rfl rfl rfl rfl ?_
            refine g_iload 125 (gd rfl) rfl rfl ?_
            refine g_iaload 126 (gd rfl) rfl (n := 32) rfl (in_ix i110 rfl) (fun z125 e125 => ?_)
            have i125 := inv_I hIc104 (n := 32) (t := 0) (-2147483648) 31 rfl (in_ix i110 rfl) rfl e125
            refine g_iastore 127 (gd rfl) rfl (n := 32) rfl (in_ix i110 rfl) ?_
            have hI126 := inv_sI (q := 142) (j := y104_5.toNatClampNeg) hIc104 rfl (in_w (-2147483648) 31 i125 rfl)
            refine g_iinc 130 (gd rfl) rfl rfl (Nat.le_of_ble_eq_true rfl) (fun z127 e127 => ?_)
            have i127 := in_add 1 32 e127 i110 (in_c 1 rfl) rfl rfl
            refine g_goto 104 (gd rfl) rfl ?_
            have n104 : (z127).toInt ≤ (u_109_20).toInt := by (first | have a0 := oa6 j62_2 h1 i110a i110 j104_4 i127 | ((first | have a0 := in_u j62_2 | (have a0 := j62_2; unfold In at a0)); (first | have a1 := in_u h1 | (have a1 := h1; unfold In at a1)); (first | have a2 := in_u i110a | (have a2 := i110a; unfold In at a2)); (first | have a3 := in_u i110 | (have a3 := i110; unfold In at a3)); (first | have a4 := in_u j104_4 | (have a4 := j104_4; unfold In at a4)); (first | have a5 := in_u i127 | (have a5 := i127; unfold In at a5)))); have a6 := t_add e127 i110 (in_c 1 rfl) rfl; (first | have a7 := in_u ((in_c 1 rfl)) | (have a7 := (in_c 1 rfl); unfold In at a7)); omega
            have n104a : I62 s (x1).toInt (y104_3) (y104_4).toInt := by exact g104_0
            have n104b : CEm (sI sc104 142 y104_5.toNatClampNeg z125) (z127).toInt := by exact cem_s g104_1 e125 (by (first | have a0 := oa6 j62_2 h1 i110a i110 j104_4 i127 | ((first | have a0 := in_u j62_2 | (have a0 := j62_2; unfold In at a0)); (first | have a1 := in_u h1 | (have a1 := h1; unfold In at a1)); (first | have a2 := in_u i110a | (have a2 := i110a; unfold In at a2)); (first | have a3 := in_u i110 | (have a3 := i110; unfold In at a3)); (first | have a4 := in_u j104_4 | (have a4 := j104_4; unfold In at a4)); (first | have a5 := in_u i127 | (have a5 := i127; unfold In at a5)))); have a6 := t_add e127 i110 (in_c 1 rfl) rfl; (first | have a7 := in_u ((in_c 1 rfl)) | (have a7 := (in_c 1 rfl); unfold In at a7)); omega) (by (first | have a0 := oa6 j62_2 h1 i110a i110 j104_4 i127 | ((first | have a0 := in_u j62_2 | (have a0 := j62_2; unfold In at a0)); (first | have a1 := in_u h1 | (have a1 := h1; unfold In at a1)); (first | have a2 := in_u i110a | (have a2 := i110a; unfold In at a2)); (first | have a3 := in_u i110 | (have a3 := i110; unfold In at a3)); (first | have a4 := in_u j104_4 | (have a4 := j104_4; unfold In at a4)); (first | have a5 := in_u i127 | (have a5 := i127; unfold In at a5)))); have a6 := t_add e127 i110 (in_c 1 rfl) rfl; (first | have a7 := in_u ((in_c 1 rfl)) | (have a7 := (in_c 1 rfl); unfold In at a7)); omega)
            have n104c : cb y104_3 < k62 := by exact g104_2
            exact gg_w (by first | exact Nat.le_add_right _ _ | exact gw2 | exact gw3 | exact gwe rfl | exact gwf rfl | exact gwg rfl | exact gwh rfl | omega) (gg_f (gf_cons rfl (gf_cons rfl (gf_cons rfl (gf_cons rfl (gf_cons rfl (gf_cons rfl gf_nil)))))) (ih104 (sI sc104 142 y104_5.toNatClampNeg z125) y104_3 y104_4 z127 hI126 (fr_sI rfl hFc104) (in_w 0 1 j104_4 rfl) (in_w 0 32 i127 rfl) n104 n104a n104b n104c (m_up mm104 (t_add e127 i110 (in_c 1 rfl) rfl) (in_w 1 1 (in_c 1 rfl) rfl))))
      refine g_iload 64 (gd rfl) rfl rfl ?_
      refine g_if_eq 67 136 (gd rfl) rfl rfl (fun c64 => ?_) (fun c64 => ?_)
      · skip
        have i64 := z_eq 0 0 c64 j62_4 rfl
        refine g_iload 138 (gd rfl) rfl rfl ?_
        have n138 : CLR s (x1).toInt (y62_4).toInt := by first | exact i62_e g62_0 c68 | exact i62_f g62_0 c64
        exact g_ireturn (gd rfl) rfl (nb01 (in_w 0 1 i64 rfl)) (hP _ _ ⟨sc62, hIc62, hFc62, y62_4, rfl, rfl, in_w 0 1 i64 rfl, n138⟩)
      · skip
        have i64 := z_ne 1 1 c64 j62_4 rfl
        refine g_iload_n 68 (gd rfl) rfl rfl ?_
        refine g_if_eq 71 136 (gd rfl) rfl rfl (fun c68 => ?_) (fun c68 => ?_)
        · skip
          have i68 := z_eq 0 0 c68 (i_rng y62_3) rfl
          refine g_iload 138 (gd rfl) rfl rfl ?_
          have n138 : CLR s (x1).toInt (y62_4).toInt := by first | exact i62_e g62_0 c68 | exact i62_f g62_0 c64
          exact g_ireturn (gd rfl) rfl (nb01 (in_w 0 1 i64 rfl)) (hP _ _ ⟨sc62, hIc62, hFc62, y62_4, rfl, rfl, in_w 0 1 i64 rfl, n138⟩)
        · skip
          refine g_aload_n 72 (gd rfl) rfl rfl ?_
          refine g_aload_n 73 (gd rfl) rfl rfl ?_
          refine g_iload_n 74 (gd rfl) rfl rfl ?_
          refine g_calls (As := [.int y62_3]) (r := [.ref (A 109), .ref (A 109)]) 77 (gd rfl) rfl rfl rfl rfl rfl (Nat.le_of_ble_eq_true rfl) (Nat.zero_le _) (Nat.zero_le _) (k_327n (by first | exact dq1 hd rfl | exact dq0 hd rfl | exact dq2 hd rfl | exact dq3 hd rfl | omega) c68) (fun v u h => ?_)
          obtain ⟨z74, rfl, rfl, i74, hb74⟩ := h
          show GG _ _ _ _ _ _ _ _ [.int z74, .ref (A 109), .ref (A 109)] _ _ _
          refine g_iload_n 78 (gd rfl) rfl rfl ?_
          refine g_callv (X := _) (As := [.int z74, .int y62_3]) (r := [.ref (A 109)]) (b := A 109) (q := 109) 81 (gd rfl) rfl rfl rfl rfl rfl (ww_o rfl) (Nat.le_of_ble_eq_true rfl) (Nat.zero_le _) (Nat.zero_le _) (k_342 (by first | exact dq1 hd rfl | exact dq0 hd rfl | exact dq2 hd rfl | exact dq3 hd rfl | omega) hIc62 (in_w 0 31 i74 rfl)) (fun e u h => h) (fun v u h => ?_)
          obtain ⟨z78, rfl, rfl, i78, p78, p78a, p78b⟩ := h
          show GG _ _ _ _ _ _ _ _ [.int z78, .ref (A 109)] _ _ _
          refine g_putI 84 (gd rfl) rfl rfl rfl rfl ?_
          have hI81 := inv_sF (q := 109) (j := 53) hIc62 rfl (in_w (-2147483648) 2147483647 i78 rfl)
          have hS62 : S3 s sc62 := ⟨hFc62.1 138 rfl, hFc62.1 141 rfl, hFc62.2.2.1 109 20 rfl⟩
          have hF20 : (sF sc62 109 53 z78).2.2.1 109 20 = sc62.2.2.1 109 20 := (by simp [sF])
          have hS81 : S3 s (sF sc62 109 53 z78) := ⟨hS62.1, hS62.2.1, hF20.trans hS62.2.2⟩
          have hC62 : CE (sF sc62 109 53 z78) := (by unfold CE; rw [hF20]; exact g62_1)
          have hP62 : (sF sc62 109 53 z78).2.2.1 109 53 = z78 := sF_get.symm
          refine g_iload_n 85 (gd rfl) rfl rfl ?_
          refine g_aload_n 86 (gd rfl) rfl rfl ?_
          refine g_getI 89 (gd rfl) rfl rfl rfl (fun z86 e86 => ?_)
          have q86 : z78 = z86 := (sF_get).trans e86.symm
          subst q86
          refine g_iconst (-1) 90 (gd rfl) rfl rfl ?_
          refine g_ixor 91 (gd rfl) rfl (fun z90 e90 => ?_)
          refine g_iand 92 (gd rfl) rfl (fun z91 e91 => ?_)
          refine g_istore_n 93 (gd rfl) rfl (Nat.le_of_ble_eq_true rfl) ?_
          refine g_aload_n 94 (gd rfl) rfl rfl ?_
          refine g_iload_n 95 (gd rfl) rfl rfl ?_
          refine g_iload_n 96 (gd rfl) rfl rfl ?_
          have p96 : P345 (sF sc62 109 53 z78) (y62_2).toInt := by exact p5_i g62_0 q_0 hS81 hC62 g62_2 hP62 p78 (hn_sub hb74 p78b)
          refine g_callv (X := _) (As := [.int x1, .int y62_2]) (r := []) (b := A 109) (q := 109) 99 (gd rfl) rfl rfl rfl rfl rfl (ww_o rfl) (Nat.le_of_ble_eq_true rfl) (Nat.zero_le _) (Nat.zero_le _) (k_345 (by first | exact dq1 hd rfl | exact dq0 hd rfl | exact dq2 hd rfl | exact dq3 hd rfl | omega) hI81 (in_w 0 32 h1 rfl) (in_w 0 32 j62_2 rfl) p96) (fun e u h => h) (fun v u h => ?_)
          obtain ⟨s96, hI96, hF96, z96, rfl, rfl, i96, p96a⟩ := h
          show GG _ _ _ _ _ _ _ _ [.int z96] _ _ _
          have hS96 : S3 s s96 := ⟨(hF96.1 138 rfl).trans hS81.1, (hF96.1 141 rfl).trans hS81.2.1, (hF96.2.2.1 109 20 rfl).trans hS81.2.2⟩
          have hP96 : s96.2.2.1 109 53 = z78 := (hF96.2.2.1 109 53 rfl).trans hP62
          refine g_istore 101 (gd rfl) rfl (Nat.le_of_ble_eq_true rfl) ?_
          refine g_iconst 0 102 (gd rfl) rfl rfl ?_
          refine g_istore 104 (gd rfl) rfl (Nat.le_of_ble_eq_true rfl) ?_
          have n104 : ((Int32.ofInt 0)).toInt ≤ (u_109_20).toInt := by (first | have a0 := oa6 h1 ro_109_20 i64 j62_2 ((in_c 0 rfl)) i96 | ((first | have a0 := in_u h1 | (have a0 := h1; unfold In at a0)); (first | have a1 := in_u ro_109_20 | (have a1 := ro_109_20; unfold In at a1)); (first | have a2 := in_u i64 | (have a2 := i64; unfold In at a2)); (first | have a3 := in_u j62_2 | (have a3 := j62_2; unfold In at a3)); (first | have a4 := in_u ((in_c 0 rfl)) | (have a4 := (in_c 0 rfl); unfold In at a4)); (first | have a5 := in_u i96 | (have a5 := i96; unfold In at a5)))); omega
          have n104a : I62 s (x1).toInt (z91) (z96).toInt := by exact i62_s g62_0 c64 q_0 hS62 hS96 p78a (hn_sub hb74 p78b) e90 e91 hP96 p96a
          have n104b : CEm s96 ((Int32.ofInt 0)).toInt := by exact cem_0
          have n104c : cb z91 < k62 := by have h := cb_dn hb74 p78 e90 e91; have hm := mm62; omega
          exact gg_w (by first | exact Nat.le_add_right _ _ | exact gw2 | exact gw3 | exact gwe rfl | exact gwf rfl | exact gwg rfl | exact gwh rfl | omega) (gg_f (gf_cons rfl (gf_cons rfl (gf_cons rfl (gf_cons rfl (gf_cons rfl (gf_cons rfl gf_nil)))))) (ct104 33 s96 z91 z96 (Int32.ofInt 0) hI96 (fr_tr rfl (fr_sF rfl hFc62) hF96) (in_w 0 1 i96 rfl) (in_w 0 32 (in_c 0 rfl) rfl) n104 n104a n104b n104c (m_in 33 (in_w 0 32 (in_c 0 rfl) rfl) rfl)))
  have ct4 : ∀ (k4 : Nat) (sc4 : GS) (y4_2 : Int32) (y4_3 : Int32), Inv sc4 → Fr fm_343 s sc4 → (In y4_2 0 32) → (In y4_3 0 32) → ((y4_3).toInt ≤ (u_109_20).toInt) → (CEm sc4 (y4_3).toInt) → (UBm sc4 (y4_3).toInt (y4_2).toInt) → 32 - (y4_3).toInt < (k4 : Int) → GG Z (d - 1) 343 post (gx xp) (1296042 + k4 * 900) 4 (fun j => xlook j [(0, .ref (A 109)), (1, .int x1), (2, .int y4_2), (3, .int y4_3)]) [] (WW Z A sc4 ++ ex) 0 0 := by
    intro k4
    induction k4 with
    | zero => intro sc4 y4_2 y4_3 hIc4 hFc4 j4_2 j4_3 n4_0 g4_0 g4_1 mm4; exact m_no mm4 j4_3 rfl
    | succ k4 ih4 =>
      intro sc4 y4_2 y4_3 hIc4 hFc4 j4_2 j4_3 n4_0 g4_0 g4_1 mm4
      refine gg_w (M := 1296042 + k4 * 900 + 900) gws ?_
      refine g_iload_n 5 (gd rfl) rfl rfl ?_
      refine g_aload_n 6 (gd rfl) rfl rfl ?_
      refine g_getI 9 (gd rfl) rfl rfl rfl (fun z6 e6 => ?_)
      have q6 : u_109_20 = z6 := (fr_F e_109_20 hFc4 rfl).trans e6.symm
      subst q6
      refine g_cmp_ge 12 53 (gd rfl) rfl rfl (fun c9 => ?_) (fun c9 => ?_)
      · skip
        have hS4 : S3 s sc4 := ⟨hFc4.1 138 rfl, hFc4.1 141 rfl, hFc4.2.2.1 109 20 rfl⟩
        have hC4 : CE sc4 := (by have h := g4_0; rw [show y4_3.toInt = (sc4.2.2.1 109 20).toInt from (by rw [hFc4.2.2.1 109 20 rfl, ← e_109_20]; (first | have a0 := oa4 h1 ro_109_20 j4_3 j4_2 | ((first | have a0 := in_u h1 | (have a0 := h1; unfold In at a0)); (first | have a1 := in_u ro_109_20 | (have a1 := ro_109_20; unfold In at a1)); (first | have a2 := in_u j4_3 | (have a2 := j4_3; unfold In at a2)); (first | have a3 := in_u j4_2 | (have a3 := j4_2; unfold In at a3)))); omega)] at h; exact h)
        have hU4 : UB s y4_2.toInt := ub_i hS4 (by have h := g4_1; rw [show y4_3.toInt = (sc4.2.2.1 109 20).toInt from (by rw [hFc4.2.2.1 109 20 rfl, ← e_109_20]; (first | have a0 := oa4 h1 ro_109_20 j4_3 j4_2 | ((first | have a0 := in_u h1 | (have a0 := h1; unfold In at a0)); (first | have a1 := in_u ro_109_20 | (have a1 := ro_109_20; unfold In at a1)); (first | have a2 := in_u j4_3 | (have a2 := j4_3; unfold In at a2)); (first | have a3 := in_u j4_2 | (have a3 := j4_2; unfold In at a3)))); omega)] at h; exact h)
        refine g_aload_n 54 (gd rfl) rfl rfl ?_
        refine g_iload_n 55 (gd rfl) rfl rfl ?_
        refine g_callv (X := _) (As := [.int x1]) (r := []) (b := A 109) (q := 109) 58 (gd rfl) rfl rfl rfl rfl rfl (ww_o rfl) (Nat.le_of_ble_eq_true rfl) (Nat.zero_le _) (Nat.zero_le _) (k_341 (by first | exact dq1 hd rfl | exact dq0 hd rfl | exact dq2 hd rfl | exact dq3 hd rfl | omega) hIc4 (in_w 0 32 h1 rfl)) (fun e u h => h) (fun v u h => ?_)
        obtain ⟨z55, rfl, rfl, i55, p55⟩ := h
        show GG _ _ _ _ _ _ _ _ [.int z55] _ _ _
        refine g_istore_n 59 (gd rfl) rfl (Nat.le_of_ble_eq_true rfl) ?_
        refine g_iconst 1 60 (gd rfl) rfl rfl ?_
        refine g_istore 62 (gd rfl) rfl (Nat.le_of_ble_eq_true rfl) ?_
        have n62 : I62 s (x1).toInt (z55) ((Int32.ofInt 1)).toInt := by exact i62_0 hS4 q_0 hC4 p55 (by decide)
        have n62a : CE sc4 := by exact hC4
        have n62b : UB s (y4_2).toInt := by exact hU4
        have m62 : cb z55 < 40 := by have h := cb_le z55; omega
        exact gg_w (by first | exact Nat.le_add_right _ _ | exact gw2 | exact gw3 | exact gwe rfl | exact gwf rfl | exact gwg rfl | exact gwh rfl | omega) (gg_f (gf_cons rfl (gf_cons rfl (gf_cons rfl (gf_cons rfl (gf_cons rfl gf_nil))))) (ct62 (40) sc4 y4_2 z55 (Int32.ofInt 1) hIc4 hFc4 (in_w 0 32 j4_2 rfl) (in_w 0 1 (in_c 1 rfl) rfl) n62 n62a n62b m62))
      · skip
        have i9 := r_lt1 0 31 c9 j4_3 ro_109_20 rfl
        have i9a := r_lt2 1 32 c9 j4_3 ro_109_20 rfl
        refine g_aload_n 13 (gd rfl) rfl rfl ?_
        refine g_getA (q2 := 142) 16 (gd rfl) rfl rfl rfl rfl ?_
        refine g_iload_n 17 (gd rfl) rfl rfl ?_
        refine g_aload_n 18 (gd rfl) rfl rfl ?_
        refine g_getA (q2 := 141) 21 (gd rfl) rfl rfl rfl rfl ?_
        refine g_iload_n 22 (gd rfl) rfl rfl ?_
        refine g_iaload 23 (gd rfl) rfl (n := 32) rfl (in_ix i9 rfl) (fun z22 e22 => ?_)
        have i22 := inv_I hIc4 (n := 32) (t := 0) (-2147483648) 31 rfl (in_ix i9 rfl) rfl e22
        refine g_iastore 24 (gd rfl) rfl (n := 32) rfl (in_ix i9 rfl) ?_
        have hI23 := inv_sI (q := 142) (j := y4_3.toNatClampNeg) hIc4 rfl (in_w (-2147483648) 31 i22 rfl)
        refine g_aload_n 25 (gd rfl) rfl rfl ?_
        refine g_getA (q2 := 141) 28 (gd rfl) rfl rfl rfl rfl ?_
        refine g_iload_n 29 (gd rfl) rfl rfl ?_
        refine g_iaload 30 (gd rfl) rfl (n := 32) rfl (in_ix i9 rfl) (fun z29 e29 => ?_)
        have q29 : z22 = z29 := (sI_ne rfl (e22)).trans e29.symm
        subst q29
        refine g_iload_n 31 (gd rfl) rfl rfl ?_
        refine g_cmp_lt 34 45 (gd rfl) rfl rfl (fun c31 => ?_) (fun c31 => ?_)
        · skip
          refine g_iload_n 46 (gd rfl) rfl rfl ?_
          refine g_istore_n 47 (gd rfl) rfl (Nat.le_of_ble_eq_true rfl) ?_
          refine g_iinc 50 (gd rfl) rfl rfl (Nat.le_of_ble_eq_true rfl) (fun z47 e47 => ?_)
          have i47 := in_add 1 32 e47 i9 (in_c 1 rfl) rfl rfl
          refine g_goto 4 (gd rfl) rfl ?_
          have n4 : (z47).toInt ≤ (u_109_20).toInt := by (first | have a0 := oa5 h1 i9a i9 j4_2 i47 | ((first | have a0 := in_u h1 | (have a0 := h1; unfold In at a0)); (first | have a1 := in_u i9a | (have a1 := i9a; unfold In at a1)); (first | have a2 := in_u i9 | (have a2 := i9; unfold In at a2)); (first | have a3 := in_u j4_2 | (have a3 := j4_2; unfold In at a3)); (first | have a4 := in_u i47 | (have a4 := i47; unfold In at a4)))); have a5 := t_add e47 i9 (in_c 1 rfl) rfl; (first | have a6 := in_u ((in_c 1 rfl)) | (have a6 := (in_c 1 rfl); unfold In at a6)); omega
          have n4a : CEm (sI sc4 142 y4_3.toNatClampNeg z22) (z47).toInt := by exact cem_s g4_0 e22 (by (first | have a0 := oa5 h1 i9a i9 j4_2 i47 | ((first | have a0 := in_u h1 | (have a0 := h1; unfold In at a0)); (first | have a1 := in_u i9a | (have a1 := i9a; unfold In at a1)); (first | have a2 := in_u i9 | (have a2 := i9; unfold In at a2)); (first | have a3 := in_u j4_2 | (have a3 := j4_2; unfold In at a3)); (first | have a4 := in_u i47 | (have a4 := i47; unfold In at a4)))); have a5 := t_add e47 i9 (in_c 1 rfl) rfl; (first | have a6 := in_u ((in_c 1 rfl)) | (have a6 := (in_c 1 rfl); unfold In at a6)); omega) (by (first | have a0 := oa5 h1 i9a i9 j4_2 i47 | ((first | have a0 := in_u h1 | (have a0 := h1; unfold In at a0)); (first | have a1 := in_u i9a | (have a1 := i9a; unfold In at a1)); (first | have a2 := in_u i9 | (have a2 := i9; unfold In at a2)); (first | have a3 := in_u j4_2 | (have a3 := j4_2; unfold In at a3)); (first | have a4 := in_u i47 | (have a4 := i47; unfold In at a4)))); have a5 := t_add e47 i9 (in_c 1 rfl) rfl; (first | have a6 := in_u ((in_c 1 rfl)) | (have a6 := (in_c 1 rfl); unfold In at a6)); omega)
          have n4b : UBm (sI sc4 142 y4_3.toNatClampNeg z22) (z47).toInt (y4_2).toInt := by exact ubm_s g4_1 (by rw [sI_p rfl]) e22 (by (first | have a0 := oa5 h1 i9a i9 j4_2 i47 | ((first | have a0 := in_u h1 | (have a0 := h1; unfold In at a0)); (first | have a1 := in_u i9a | (have a1 := i9a; unfold In at a1)); (first | have a2 := in_u i9 | (have a2 := i9; unfold In at a2)); (first | have a3 := in_u j4_2 | (have a3 := j4_2; unfold In at a3)); (first | have a4 := in_u i47 | (have a4 := i47; unfold In at a4)))); have a5 := t_add e47 i9 (in_c 1 rfl) rfl; (first | have a6 := in_u ((in_c 1 rfl)) | (have a6 := (in_c 1 rfl); unfold In at a6)); omega) (by (first | have a0 := oa5 h1 i9a i9 j4_2 i47 | ((first | have a0 := in_u h1 | (have a0 := h1; unfold In at a0)); (first | have a1 := in_u i9a | (have a1 := i9a; unfold In at a1)); (first | have a2 := in_u i9 | (have a2 := i9; unfold In at a2)); (first | have a3 := in_u j4_2 | (have a3 := j4_2; unfold In at a3)); (first | have a4 := in_u i47 | (have a4 := i47; unfold In at a4)))); have a5 := t_add e47 i9 (in_c 1 rfl) rfl; (first | have a6 := in_u ((in_c 1 rfl)) | (have a6 := (in_c 1 rfl); unfold In at a6)); omega) (by (first | have a0 := oa5 h1 i9a i9 j4_2 i47 | ((first | have a0 := in_u h1 | (have a0 := h1; unfold In at a0)); (first | have a1 := in_u i9a | (have a1 := i9a; unfold In at a1)); (first | have a2 := in_u i9 | (have a2 := i9; unfold In at a2)); (first | have a3 := in_u j4_2 | (have a3 := j4_2; unfold In at a3)); (first | have a4 := in_u i47 | (have a4 := i47; unfold In at a4)))); have a5 := t_add e47 i9 (in_c 1 rfl) rfl; (first | have a6 := in_u ((in_c 1 rfl)) | (have a6 := (in_c 1 rfl); unfold In at a6)); omega) (by (first | have a0 := oa5 h1 i9a i9 j4_2 i47 | ((first | have a0 := in_u h1 | (have a0 := h1; unfold In at a0)); (first | have a1 := in_u i9a | (have a1 := i9a; unfold In at a1)); (first | have a2 := in_u i9 | (have a2 := i9; unfold In at a2)); (first | have a3 := in_u j4_2 | (have a3 := j4_2; unfold In at a3)); (first | have a4 := in_u i47 | (have a4 := i47; unfold In at a4)))); have a5 := t_add e47 i9 (in_c 1 rfl) rfl; (first | have a6 := in_u ((in_c 1 rfl)) | (have a6 := (in_c 1 rfl); unfold In at a6)); omega)
          exact gg_w (by first | exact Nat.le_add_right _ _ | exact gw2 | exact gw3 | exact gwe rfl | exact gwf rfl | exact gwg rfl | exact gwh rfl | omega) (gg_f (gf_cons rfl (gf_cons rfl (gf_cons rfl (gf_cons rfl gf_nil)))) (ih4 (sI sc4 142 y4_3.toNatClampNeg z22) y4_2 z47 hI23 (fr_sI rfl hFc4) (in_w 0 32 j4_2 rfl) (in_w 0 32 i47 rfl) n4 n4a n4b (m_up mm4 (t_add e47 i9 (in_c 1 rfl) rfl) (in_w 1 1 (in_c 1 rfl) rfl))))
        · skip
          have i31 := r_le1 0 31 c31 j4_2 i22 rfl
          have i31a := r_le2 0 31 c31 j4_2 i22 rfl
          refine g_aload_n 35 (gd rfl) rfl rfl ?_
          refine g_getA (q2 := 141) 38 (gd rfl) rfl rfl rfl rfl ?_
          refine g_iload_n 39 (gd rfl) rfl rfl ?_
          refine g_iaload 40 (gd rfl) rfl (n := 32) rfl (in_ix i9 rfl) (fun z39 e39 => ?_)
          have q39 : z22 = z39 := (sI_ne rfl (e22)).trans e39.symm
          subst q39
          refine g_iconst 1 41 (gd rfl) rfl rfl ?_
          refine g_iadd 42 (gd rfl) rfl (fun z41 e41 => ?_)
          have i41 := in_add 1 32 e41 i31a (in_c 1 rfl) rfl rfl
          refine g_goto 46 (gd rfl) rfl ?_
          refine g_istore_n 47 (gd rfl) rfl (Nat.le_of_ble_eq_true rfl) ?_
          refine g_iinc 50 (gd rfl) rfl rfl (Nat.le_of_ble_eq_true rfl) (fun z47 e47 => ?_)
          have i47 := in_add 1 32 e47 i9 (in_c 1 rfl) rfl rfl
          refine g_goto 4 (gd rfl) rfl ?_
          have n4 : (z47).toInt ≤ (u_109_20).toInt := by (first | have a0 := oa5 h1 i9a i9 i31 i47 | ((first | have a0 := in_u h1 | (have a0 := h1; unfold In at a0)); (first | have a1 := in_u i9a | (have a1 := i9a; unfold In at a1)); (first | have a2 := in_u i9 | (have a2 := i9; unfold In at a2)); (first | have a3 := in_u i31 | (have a3 := i31; unfold In at a3)); (first | have a4 := in_u i47 | (have a4 := i47; unfold In at a4)))); have a5 := t_add e47 i9 (in_c 1 rfl) rfl; (first | have a6 := oa2 ((in_c 1 rfl)) i41 | ((first | have a6 := in_u ((in_c 1 rfl)) | (have a6 := (in_c 1 rfl); unfold In at a6)); (first | have a7 := in_u i41 | (have a7 := i41; unfold In at a7)))); have a8 := t_add e41 i31a (in_c 1 rfl) rfl; (first | have a9 := in_u i31a | (have a9 := i31a; unfold In at a9)); omega
          have n4a : CEm (sI sc4 142 y4_3.toNatClampNeg z22) (z47).toInt := by exact cem_s g4_0 e22 (by (first | have a0 := oa5 h1 i9a i9 i31 i47 | ((first | have a0 := in_u h1 | (have a0 := h1; unfold In at a0)); (first | have a1 := in_u i9a | (have a1 := i9a; unfold In at a1)); (first | have a2 := in_u i9 | (have a2 := i9; unfold In at a2)); (first | have a3 := in_u i31 | (have a3 := i31; unfold In at a3)); (first | have a4 := in_u i47 | (have a4 := i47; unfold In at a4)))); have a5 := t_add e47 i9 (in_c 1 rfl) rfl; (first | have a6 := oa2 ((in_c 1 rfl)) i41 | ((first | have a6 := in_u ((in_c 1 rfl)) | (have a6 := (in_c 1 rfl); unfold In at a6)); (first | have a7 := in_u i41 | (have a7 := i41; unfold In at a7)))); have a8 := t_add e41 i31a (in_c 1 rfl) rfl; (first | have a9 := in_u i31a | (have a9 := i31a; unfold In at a9)); omega) (by (first | have a0 := oa5 h1 i9a i9 i31 i47 | ((first | have a0 := in_u h1 | (have a0 := h1; unfold In at a0)); (first | have a1 := in_u i9a | (have a1 := i9a; unfold In at a1)); (first | have a2 := in_u i9 | (have a2 := i9; unfold In at a2)); (first | have a3 := in_u i31 | (have a3 := i31; unfold In at a3)); (first | have a4 := in_u i47 | (have a4 := i47; unfold In at a4)))); have a5 := t_add e47 i9 (in_c 1 rfl) rfl; (first | have a6 := oa2 ((in_c 1 rfl)) i41 | ((first | have a6 := in_u ((in_c 1 rfl)) | (have a6 := (in_c 1 rfl); unfold In at a6)); (first | have a7 := in_u i41 | (have a7 := i41; unfold In at a7)))); have a8 := t_add e41 i31a (in_c 1 rfl) rfl; (first | have a9 := in_u i31a | (have a9 := i31a; unfold In at a9)); omega)
          have n4b : UBm (sI sc4 142 y4_3.toNatClampNeg z22) (z47).toInt (z41).toInt := by exact ubm_s g4_1 (by rw [sI_p rfl]) e22 (by (first | have a0 := oa5 h1 i9a i9 i31 i47 | ((first | have a0 := in_u h1 | (have a0 := h1; unfold In at a0)); (first | have a1 := in_u i9a | (have a1 := i9a; unfold In at a1)); (first | have a2 := in_u i9 | (have a2 := i9; unfold In at a2)); (first | have a3 := in_u i31 | (have a3 := i31; unfold In at a3)); (first | have a4 := in_u i47 | (have a4 := i47; unfold In at a4)))); have a5 := t_add e47 i9 (in_c 1 rfl) rfl; (first | have a6 := oa2 ((in_c 1 rfl)) i41 | ((first | have a6 := in_u ((in_c 1 rfl)) | (have a6 := (in_c 1 rfl); unfold In at a6)); (first | have a7 := in_u i41 | (have a7 := i41; unfold In at a7)))); have a8 := t_add e41 i31a (in_c 1 rfl) rfl; (first | have a9 := in_u i31a | (have a9 := i31a; unfold In at a9)); omega) (by (first | have a0 := oa5 h1 i9a i9 i31 i47 | ((first | have a0 := in_u h1 | (have a0 := h1; unfold In at a0)); (first | have a1 := in_u i9a | (have a1 := i9a; unfold In at a1)); (first | have a2 := in_u i9 | (have a2 := i9; unfold In at a2)); (first | have a3 := in_u i31 | (have a3 := i31; unfold In at a3)); (first | have a4 := in_u i47 | (have a4 := i47; unfold In at a4)))); have a5 := t_add e47 i9 (in_c 1 rfl) rfl; (first | have a6 := oa2 ((in_c 1 rfl)) i41 | ((first | have a6 := in_u ((in_c 1 rfl)) | (have a6 := (in_c 1 rfl); unfold In at a6)); (first | have a7 := in_u i41 | (have a7 := i41; unfold In at a7)))); have a8 := t_add e41 i31a (in_c 1 rfl) rfl; (first | have a9 := in_u i31a | (have a9 := i31a; unfold In at a9)); omega) (by (first | have a0 := oa5 h1 i9a i9 i31 i47 | ((first | have a0 := in_u h1 | (have a0 := h1; unfold In at a0)); (first | have a1 := in_u i9a | (have a1 := i9a; unfold In at a1)); (first | have a2 := in_u i9 | (have a2 := i9; unfold In at a2)); (first | have a3 := in_u i31 | (have a3 := i31; unfold In at a3)); (first | have a4 := in_u i47 | (have a4 := i47; unfold In at a4)))); have a5 := t_add e47 i9 (in_c 1 rfl) rfl; (first | have a6 := oa2 ((in_c 1 rfl)) i41 | ((first | have a6 := in_u ((in_c 1 rfl)) | (have a6 := (in_c 1 rfl); unfold In at a6)); (first | have a7 := in_u i41 | (have a7 := i41; unfold In at a7)))); have a8 := t_add e41 i31a (in_c 1 rfl) rfl; (first | have a9 := in_u i31a | (have a9 := i31a; unfold In at a9)); omega) (by (first | have a0 := oa5 h1 i9a i9 i31 i47 | ((first | have a0 := in_u h1 | (have a0 := h1; unfold In at a0)); (first | have a1 := in_u i9a | (have a1 := i9a; unfold In at a1)); (first | have a2 := in_u i9 | (have a2 := i9; unfold In at a2)); (first | have a3 := in_u i31 | (have a3 := i31; unfold In at a3)); (first | have a4 := in_u i47 | (have a4 := i47; unfold In at a4)))); have a5 := t_add e47 i9 (in_c 1 rfl) rfl; (first | have a6 := oa2 ((in_c 1 rfl)) i41 | ((first | have a6 := in_u ((in_c 1 rfl)) | (have a6 := (in_c 1 rfl); unfold In at a6)); (first | have a7 := in_u i41 | (have a7 := i41; unfold In at a7)))); have a8 := t_add e41 i31a (in_c 1 rfl) rfl; (first | have a9 := in_u i31a | (have a9 := i31a; unfold In at a9)); omega)
          exact gg_w (by first | exact Nat.le_add_right _ _ | exact gw2 | exact gw3 | exact gwe rfl | exact gwf rfl | exact gwg rfl | exact gwh rfl | omega) (gg_f (gf_cons rfl (gf_cons rfl (gf_cons rfl (gf_cons rfl gf_nil)))) (ih4 (sI sc4 142 y4_3.toNatClampNeg z22) z41 z47 hI23 (fr_sI rfl hFc4) (in_w 0 32 i41 rfl) (in_w 0 32 i47 rfl) n4 n4a n4b (m_up mm4 (t_add e47 i9 (in_c 1 rfl) rfl) (in_w 1 1 (in_c 1 rfl) rfl))))
  refine g_enter2 (k := 343) (N := 1326642) (by first | exact dq1 hd rfl | exact dq0 hd rfl | exact dq2 hd rfl | exact dq3 hd rfl | omega) rfl (Nat.le_of_ble_eq_true rfl) ?_
  refine g_iconst 0 1 (gd rfl) rfl rfl ?_
  refine g_istore_n 2 (gd rfl) rfl (Nat.le_of_ble_eq_true rfl) ?_
  refine g_iconst 0 3 (gd rfl) rfl rfl ?_
  refine g_istore_n 4 (gd rfl) rfl (Nat.le_of_ble_eq_true rfl) ?_
  have n4 : ((Int32.ofInt 0)).toInt ≤ (u_109_20).toInt := by (first | have a0 := oa3 ro_109_20 h1 ((in_c 0 rfl)) | ((first | have a0 := in_u ro_109_20 | (have a0 := ro_109_20; unfold In at a0)); (first | have a1 := in_u h1 | (have a1 := h1; unfold In at a1)); (first | have a2 := in_u ((in_c 0 rfl)) | (have a2 := (in_c 0 rfl); unfold In at a2)))); omega
  have n4a : CEm s ((Int32.ofInt 0)).toInt := by exact cem_0
  have n4b : UBm s ((Int32.ofInt 0)).toInt ((Int32.ofInt 0)).toInt := by exact ubm_0
  exact gg_w (by first | exact Nat.le_of_ble_eq_true rfl | omega) (gg_f (gf_cons rfl (gf_cons rfl (gf_cons rfl (gf_cons rfl gf_nil)))) (ct4 33 s (Int32.ofInt 0) (Int32.ofInt 0) hI fr_rf (in_w 0 32 (in_c 0 rfl) rfl) (in_w 0 32 (in_c 0 rfl) rfl) n4 n4a n4b (m_in 33 (in_w 0 32 (in_c 0 rfl) rfl) rfl)))
end
section
/-! methods, by vc.py -/
def fm_347 : FM := ([138, 139, 140, 141, 142, 143, 144, 145, 146], [], [(109, 0), (109, 53)], [])
/-- GraphHouseModel.colour -/
theorem k_347 {Z : AmZ} {A : Nat → Nat} {s : GS} {ex : va_W} {d : Nat} {X : AmX} {x1 : Int32} (hd : 7 ≤ d) (hI : Inv s)  : GC Z d 347 [.ref (A 109), .int x1] (WW Z A s ++ ex) 0 0 (fun v u => ∃ t : GS, Inv t ∧ Fr fm_347 s t ∧ ∃ z : Int32, v = some (.int z) ∧ u = WW Z A t ++ ex ∧ In z (-2147483648) 31) X := by
  intro post xp hP hX
  obtain ⟨u_109_20, e_109_20⟩ : ∃ w, w = s.2.2.1 109 20 := ⟨_, rfl⟩
  have ro_109_20 := inv_F hI 0 32 rfl e_109_20
  have ct61 : ∀ (k61 : Nat) (sc61 : GS) (y61_2 : Int32) (y61_3 : Int32), Inv sc61 → Fr fm_347 s sc61 → (In x1 0 31) → (In y61_2 0 32) → (In y61_3 0 32) → ((x1).toInt < (u_109_20).toInt) → (0 ≤ (x1).toInt) → ((y61_3).toInt ≤ (x1).toInt + 1) → (BSD sc61) → (NS sc61 (y61_3).toInt) → (EXT sc61 (y61_2).toInt (UU sc61)) → 40 - (y61_3).toInt < (k61 : Int) → GG Z (d - 1) 347 post (gx xp) (1 + k61 * 1395044) 61 (fun j => xlook j [(0, .ref (A 109)), (1, .int x1), (2, .int y61_2), (3, .int y61_3)]) [] (WW Z A sc61 ++ ex) 0 0 := by
    intro k61
    induction k61 with
    | zero => intro sc61 y61_2 y61_3 hIc61 hFc61 j61_1 j61_2 j61_3 n61_0 n61_1 n61_2 g61_0 g61_1 g61_2 mm61; exfalso; have a0 := j61_1; unfold In at a0; (first | have a1 := in_u ro_109_20 | (have a1 := ro_109_20; unfold In at a1)); have a2 := j61_3; unfold In at a2; have a3 := j61_2; unfold In at a3; omega
    | succ k61 ih61 =>
      intro sc61 y61_2 y61_3 hIc61 hFc61 j61_1 j61_2 j61_3 n61_0 n61_1 n61_2 g61_0 g61_1 g61_2 mm61
      refine gg_w (M := 1 + k61 * 1395044 + 1395044) gws ?_
      have ct72 : ∀ (k72 : Nat) (sc72 : GS) (y72_4 : Int32) (y72_5 : Int32), Inv sc72 → Fr fm_347 s sc72 → (In y61_3 0 31) → (In y72_4 (-1) 31) → (In y72_5 0 1) → ((x1).toInt < (u_109_20).toInt) → (0 ≤ (x1).toInt) → ((y61_3).toInt ≤ (x1).toInt) → (BSD sc72) → (E61 sc61 sc72 (y61_3).toNatClampNeg) → (F72 sc61 sc72 (y61_2).toInt (y61_3).toNatClampNeg (y72_4).toInt (y72_5).toInt) → 40 - (y72_4).toInt < (k72 : Int) → GG Z (d - 1) 347 post (gx xp) (1 + k61 * 1395044 + 1 + k72 * 32401) 72 (fun j => xlook j [(0, .ref (A 109)), (1, .int x1), (2, .int y61_2), (3, .int y61_3), (4, .int y72_4), (5, .int y72_5)]) [] (WW Z A sc72 ++ ex) 0 0 := by
        intro k72
        induction k72 with
        | zero => intro sc72 y72_4 y72_5 hIc72 hFc72 j72_3 j72_4 j72_5 n72_0 n72_1 n72_2 g72_0 g72_1 g72_2 mm72; exfalso; have a0 := j72_3; unfold In at a0; (first | have a1 := oa3 j61_2 j61_1 ro_109_20 | ((first | have a1 := in_u j61_2 | (have a1 := j61_2; unfold In at a1)); (first | have a2 := in_u j61_1 | (have a2 := j61_1; unfold In at a2)); (first | have a3 := in_u ro_109_20 | (have a3 := ro_109_20; unfold In at a3)))); have a4 := j72_5; unfold In at a4; have a5 := j72_4; unfold In at a5; omega
        | succ k72 ih72 =>
          intro sc72 y72_4 y72_5 hIc72 hFc72 j72_3 j72_4 j72_5 n72_0 n72_1 n72_2 g72_0 g72_1 g72_2 mm72
          refine gg_w (M := 1 + k61 * 1395044 + 1 + k72 * 32401 + 32401) gws ?_
          have ct90 : ∀ (k90 : Nat) (sc90 : GS) (y90_4 : Int32) (y90_6 : Int32), Inv sc90 → Fr fm_347 s sc90 → (In y90_4 0 31) → (In y72_5 0 0) → (In y90_6 0 32) → ((x1).toInt < (u_109_20).toInt) → (0 ≤ (x1).toInt) → ((y61_3).toInt ≤ (x1).toInt) → ((y72_5).toInt = 0) → ((y90_4).toInt = y72_4.toInt + 1) → ((y90_6).toInt ≤ (u_109_20).toInt) → (BSD sc90) → (S3 sc61 sc90) → (CEm sc90 (y90_6).toInt) → (G90 sc61 (y61_2).toInt (y61_3).toNatClampNeg (y90_4).toInt) → 32 - (y90_6).toInt < (k90 : Int) → GG Z (d - 1) 347 post (gx xp) (1 + k61 * 1395044 + 1 + k72 * 32401 + 1 + k90 * 900) 90 (fun j => xlook j [(0, .ref (A 109)), (1, .int x1), (2, .int y61_2), (3, .int y61_3), (4, .int y90_4), (5, .int y72_5), (6, .int y90_6)]) [] (WW Z A sc90 ++ ex) 0 0 := by
            intro k90
            induction k90 with
            | zero => intro sc90 y90_4 y90_6 hIc90 hFc90 j90_4 j90_5 j90_6 n90_0 n90_1 n90_2 n90_3 n90_4 n90_5 g90_0 g90_1 g90_2 g90_3 mm90; exact m_no mm90 j90_6 rfl
            | succ k90 ih90 =>
              intro sc90 y90_4 y90_6 hIc90 hFc90 j90_4 j90_5 j90_6 n90_0 n90_1 n90_2 n90_3 n90_4 n90_5 g90_0 g90_1 g90_2 g90_3 mm90
              refine gg_w (M := 1 + k61 * 1395044 + 1 + k72 * 32401 + 1 + k90 * 900 + 900) gws ?_
              refine g_iload 92 (gd rfl) rfl rfl ?_
              refine g_aload_n 93 (gd rfl) rfl rfl ?_
              refine g_getI 96 (gd rfl) rfl rfl rfl (fun z93 e93 => ?_)
              have q93 : u_109_20 = z93 := (fr_F e_109_20 hFc90 rfl).trans e93.symm
              subst q93
              refine g_cmp_ge 99 119 (gd rfl) rfl rfl (fun c96 => ?_) (fun c96 => ?_)
              · skip
                have hC90 : CE sc90 := (by have h := g90_2; rw [show y90_6.toInt = (sc90.2.2.1 109 20).toInt from (by rw [hFc90.2.2.1 109 20 rfl, ← e_109_20]; (first | have a0 := oa7 j90_5 j72_3 j61_2 j61_1 ro_109_20 j90_6 j90_4 | ((first | have a0 := in_u j90_5 | (have a0 := j90_5; unfold In at a0)); (first | have a1 := in_u j72_3 | (have a1 := j72_3; unfold In at a1)); (first | have a2 := in_u j61_2 | (have a2 := j61_2; unfold In at a2)); (first | have a3 := in_u j61_1 | (have a3 := j61_1; unfold In at a3)); (first | have a4 := in_u ro_109_20 | (have a4 := ro_109_20; unfold In at a4)); (first | have a5 := in_u j90_6 | (have a5 := j90_6; unfold In at a5)); (first | have a6 := in_u j90_4 | (have a6 := j90_4; unfold In at a6)))); omega)] at h; exact h)
                have i119 : In y61_3 0 31 := by exact ⟨by (first | have a0 := oa7 j90_5 j72_3 j61_2 j61_1 ro_109_20 j90_6 j90_4 | ((first | have a0 := in_u j90_5 | (have a0 := j90_5; unfold In at a0)); (first | have a1 := in_u j72_3 | (have a1 := j72_3; unfold In at a1)); (first | have a2 := in_u j61_2 | (have a2 := j61_2; unfold In at a2)); (first | have a3 := in_u j61_1 | (have a3 := j61_1; unfold In at a3)); (first | have a4 := in_u ro_109_20 | (have a4 := ro_109_20; unfold In at a4)); (first | have a5 := in_u j90_6 | (have a5 := j90_6; unfold In at a5)); (first | have a6 := in_u j90_4 | (have a6 := j90_4; unfold In at a6)))); omega, by (first | have a0 := oa7 j90_5 j72_3 j61_2 j61_1 ro_109_20 j90_6 j90_4 | ((first | have a0 := in_u j90_5 | (have a0 := j90_5; unfold In at a0)); (first | have a1 := in_u j72_3 | (have a1 := j72_3; unfold In at a1)); (first | have a2 := in_u j61_2 | (have a2 := j61_2; unfold In at a2)); (first | have a3 := in_u j61_1 | (have a3 := j61_1; unfold In at a3)); (first | have a4 := in_u ro_109_20 | (have a4 := ro_109_20; unfold In at a4)); (first | have a5 := in_u j90_6 | (have a5 := j90_6; unfold In at a5)); (first | have a6 := in_u j90_4 | (have a6 := j90_4; unfold In at a6)))); omega⟩
                refine g_aload_n 120 (gd rfl) rfl rfl ?_
                refine g_iload_n 121 (gd rfl) rfl rfl ?_
                refine g_callv (X := _) (As := [.int y61_3]) (r := []) (b := A 109) (q := 109) 124 (gd rfl) rfl rfl rfl rfl rfl (ww_o rfl) (Nat.le_of_ble_eq_true rfl) (Nat.zero_le _) (Nat.zero_le _) (k_339 (by first | exact dq1 hd rfl | exact dq0 hd rfl | exact dq2 hd rfl | exact dq3 hd rfl | omega) hIc90 (in_w 0 31 i119 rfl)) (fun e u h => h) (fun v u h => ?_)
                obtain ⟨z121, rfl, rfl, i121, p121⟩ := h
                show GG _ _ _ _ _ _ _ _ [.int z121] _ _ _
                refine g_iload 126 (gd rfl) rfl rfl ?_
                refine g_calls (As := [.int z121, .int y90_4]) (r := []) 129 (gd rfl) rfl rfl rfl rfl rfl (Nat.le_of_ble_eq_true rfl) (mc := 0) (ms := 0) (Nat.zero_le _) (Nat.zero_le _) (P := fun v u => _) ?_ (fun v u h => h)
                intro po126 xx126 hp126 hx126
                refine g_enter2 (k := 311) (N := 300) (by first | exact dq1 hd rfl | exact dq0 hd rfl | exact dq2 hd rfl | exact dq3 hd rfl | omega) rfl (Nat.le_of_ble_eq_true rfl) ?_
                refine g_iload_n 1 (gd rfl) rfl rfl ?_
                refine g_iload_n 2 (gd rfl) rfl rfl ?_
                refine g_ishr 3 (gd rfl) rfl (fun z126x2 e126x2 => ?_)
                refine g_iconst 1 4 (gd rfl) rfl rfl ?_
                refine g_iand 5 (gd rfl) rfl (fun z126x4 e126x4 => ?_)
                have i126x4 := in_and2 e126x4 (in_c 1 rfl) rfl
                refine g_iconst 1 6 (gd rfl) rfl rfl ?_
                refine g_cmp_ne 9 13 (gd rfl) rfl rfl (fun c126x6 => ?_) (fun c126x6 => ?_)
                · skip
                  have i126x6 := r_ne1 0 0 c126x6 i126x4 (in_c 1 rfl) rfl
                  refine g_iconst 0 14 (gd rfl) rfl rfl ?_
                  refine g_ireturn (gd rfl) rfl (nb01 (in_w 0 1 (in_c 0 rfl) rfl)) (hp126 _ _ ?_)
                  show GG _ _ _ _ _ _ _ _ [.int (Int32.ofInt 0)] _ _ _
                  refine g_if_ne 132 72 (gd rfl) rfl rfl (fun c129 => ?_) (fun c129 => ?_)
                  · skip
                    exact zn_ne c129 (in_c 0 rfl) rfl
                  · skip
                    refine g_aload_n 133 (gd rfl) rfl rfl ?_
                    refine g_getA (q2 := 141) 136 (gd rfl) rfl rfl rfl rfl ?_
                    refine g_iload_n 137 (gd rfl) rfl rfl ?_
                    refine g_iload 139 (gd rfl) rfl rfl ?_
                    refine g_iastore 140 (gd rfl) rfl (n := 32) rfl (in_ix i119 rfl) ?_
                    have hI139 := inv_sI (q := 141) (j := y61_3.toNatClampNeg) hIc90 rfl (in_w (-2147483648) 31 j90_4 rfl)
                    refine g_aload_n 141 (gd rfl) rfl rfl ?_
                    refine g_iload_n 142 (gd rfl) rfl rfl ?_
                    have p142 : BSD (sI sc90 141 y61_3.toNatClampNeg y90_4) := by exact bsd_I rfl g90_0
                    refine g_callv (X := _) (As := [.int y61_2]) (r := []) (b := A 109) (q := 109) 145 (gd rfl) rfl rfl rfl rfl rfl (ww_o rfl) (Nat.le_of_ble_eq_true rfl) (Nat.zero_le _) (Nat.zero_le _) (k_343 (by first | exact dq1 hd rfl | exact dq0 hd rfl | exact dq2 hd rfl | exact dq3 hd rfl | omega) hI139 (in_w 0 32 j61_2 rfl) p142) (fun e u h => h) (fun v u h => ?_)
                    obtain ⟨s142, hI142, hF142, z142, rfl, rfl, i142, p142a⟩ := h
                    show GG _ _ _ _ _ _ _ _ [.int z142] _ _ _
                    have hS142 : S3 (sI sc90 141 (y61_3).toNatClampNeg (y90_4)) s142 := ⟨hF142.1 138 rfl, hF142.1 141 rfl, hF142.2.2.1 109 20 rfl⟩
                    refine g_istore 147 (gd rfl) rfl (Nat.le_of_ble_eq_true rfl) ?_
                    refine g_goto 72 (gd rfl) rfl ?_
                    have n72 : (x1).toInt < (u_109_20).toInt := by first | exact n61_0 | ((first | have a0 := oa8 j90_5 i119 j61_2 j61_1 ro_109_20 j90_6 j90_4 i142 | ((first | have a0 := in_u j90_5 | (have a0 := j90_5; unfold In at a0)); (first | have a1 := in_u i119 | (have a1 := i119; unfold In at a1)); (first | have a2 := in_u j61_2 | (have a2 := j61_2; unfold In at a2)); (first | have a3 := in_u j61_1 | (have a3 := j61_1; unfold In at a3)); (first | have a4 := in_u ro_109_20 | (have a4 := ro_109_20; unfold In at a4)); (first | have a5 := in_u j90_6 | (have a5 := j90_6; unfold In at a5)); (first | have a6 := in_u j90_4 | (have a6 := j90_4; unfold In at a6)); (first | have a7 := in_u i142 | (have a7 := i142; unfold In at a7)))); omega)
                    have n72a : 0 ≤ (x1).toInt := by first | exact n61_1 | ((first | have a0 := oa8 j90_5 i119 j61_2 j61_1 ro_109_20 j90_6 j90_4 i142 | ((first | have a0 := in_u j90_5 | (have a0 := j90_5; unfold In at a0)); (first | have a1 := in_u i119 | (have a1 := i119; unfold In at a1)); (first | have a2 := in_u j61_2 | (have a2 := j61_2; unfold In at a2)); (first | have a3 := in_u j61_1 | (have a3 := j61_1; unfold In at a3)); (first | have a4 := in_u ro_109_20 | (have a4 := ro_109_20; unfold In at a4)); (first | have a5 := in_u j90_6 | (have a5 := j90_6; unfold In at a5)); (first | have a6 := in_u j90_4 | (have a6 := j90_4; unfold In at a6)); (first | have a7 := in_u i142 | (have a7 := i142; unfold In at a7)))); omega)
                    have n72b : (y61_3).toInt ≤ (x1).toInt := by first | exact n72_2 | ((first | have a0 := oa8 j90_5 i119 j61_2 j61_1 ro_109_20 j90_6 j90_4 i142 | ((first | have a0 := in_u j90_5 | (have a0 := j90_5; unfold In at a0)); (first | have a1 := in_u i119 | (have a1 := i119; unfold In at a1)); (first | have a2 := in_u j61_2 | (have a2 := j61_2; unfold In at a2)); (first | have a3 := in_u j61_1 | (have a3 := j61_1; unfold In at a3)); (first | have a4 := in_u ro_109_20 | (have a4 := ro_109_20; unfold In at a4)); (first | have a5 := in_u j90_6 | (have a5 := j90_6; unfold In at a5)); (first | have a6 := in_u j90_4 | (have a6 := j90_4; unfold In at a6)); (first | have a7 := in_u i142 | (have a7 := i142; unfold In at a7)))); omega)
                    have n72c : BSD s142 := by exact bsd3 hS142 (bsd_I rfl g90_0)
                    have n72d : E61 sc61 s142 (y61_3).toNatClampNeg := by exact e61_c g90_1 hS142
                    have n72e : F72 sc61 s142 (y61_2).toInt (y61_3).toNatClampNeg (y90_4).toInt (z142).toInt := by exact f72_c g61_1 (by (first | have a0 := oa8 j90_5 i119 j61_2 j61_1 ro_109_20 j90_6 j90_4 i142 | ((first | have a0 := in_u j90_5 | (have a0 := j90_5; unfold In at a0)); (first | have a1 := in_u i119 | (have a1 := i119; unfold In at a1)); (first | have a2 := in_u j61_2 | (have a2 := j61_2; unfold In at a2)); (first | have a3 := in_u j61_1 | (have a3 := j61_1; unfold In at a3)); (first | have a4 := in_u ro_109_20 | (have a4 := ro_109_20; unfold In at a4)); (first | have a5 := in_u j90_6 | (have a5 := j90_6; unfold In at a5)); (first | have a6 := in_u j90_4 | (have a6 := j90_4; unfold In at a6)); (first | have a7 := in_u i142 | (have a7 := i142; unfold In at a7)))); omega) (by rw [hFc61.2.2.1 109 20 rfl, ← e_109_20]; (first | have a0 := oa8 j90_5 i119 j61_2 j61_1 ro_109_20 j90_6 j90_4 i142 | ((first | have a0 := in_u j90_5 | (have a0 := j90_5; unfold In at a0)); (first | have a1 := in_u i119 | (have a1 := i119; unfold In at a1)); (first | have a2 := in_u j61_2 | (have a2 := j61_2; unfold In at a2)); (first | have a3 := in_u j61_1 | (have a3 := j61_1; unfold In at a3)); (first | have a4 := in_u ro_109_20 | (have a4 := ro_109_20; unfold In at a4)); (first | have a5 := in_u j90_6 | (have a5 := j90_6; unfold In at a5)); (first | have a6 := in_u j90_4 | (have a6 := j90_4; unfold In at a6)); (first | have a7 := in_u i142 | (have a7 := i142; unfold In at a7)))); omega) g90_1 hS142 (by (first | have a0 := oa8 j90_5 i119 j61_2 j61_1 ro_109_20 j90_6 j90_4 i142 | ((first | have a0 := in_u j90_5 | (have a0 := j90_5; unfold In at a0)); (first | have a1 := in_u i119 | (have a1 := i119; unfold In at a1)); (first | have a2 := in_u j61_2 | (have a2 := j61_2; unfold In at a2)); (first | have a3 := in_u j61_1 | (have a3 := j61_1; unfold In at a3)); (first | have a4 := in_u ro_109_20 | (have a4 := ro_109_20; unfold In at a4)); (first | have a5 := in_u j90_6 | (have a5 := j90_6; unfold In at a5)); (first | have a6 := in_u j90_4 | (have a6 := j90_4; unfold In at a6)); (first | have a7 := in_u i142 | (have a7 := i142; unfold In at a7)))); omega) g90_3 p142a
                    have m72 : 40 - (y90_4).toInt < ((k72 : Nat) : Int) := by (first | have a0 := oa8 j90_5 i119 j61_2 j61_1 ro_109_20 j90_6 j90_4 i142 | ((first | have a0 := in_u j90_5 | (have a0 := j90_5; unfold In at a0)); (first | have a1 := in_u i119 | (have a1 := i119; unfold In at a1)); (first | have a2 := in_u j61_2 | (have a2 := j61_2; unfold In at a2)); (first | have a3 := in_u j61_1 | (have a3 := j61_1; unfold In at a3)); (first | have a4 := in_u ro_109_20 | (have a4 := ro_109_20; unfold In at a4)); (first | have a5 := in_u j90_6 | (have a5 := j90_6; unfold In at a5)); (first | have a6 := in_u j90_4 | (have a6 := j90_4; unfold In at a6)); (first | have a7 := in_u i142 | (have a7 := i142; unfold In at a7)))); omega
                    exact gg_w (by first | exact Nat.le_add_right _ _ | exact gw2 | exact gw3 | exact gwe rfl | exact gwf rfl | exact gwg rfl | exact gwh rfl | omega) (gg_f (gf_cons rfl (gf_cons rfl (gf_cons rfl (gf_cons rfl (gf_cons rfl (gf_cons rfl gf_nil)))))) (ih72  s142 y90_4 z142 hI142 (fr_tr rfl (fr_sI rfl hFc90) hF142) (in_w 0 31 i119 rfl) (in_w (-1) 31 j90_4 rfl) (in_w 0 1 i142 rfl) n72 n72a n72b n72c n72d n72e m72))
                · skip
                  have i126x6 := r_eq1 1 1 c126x6 i126x4 (in_c 1 rfl) rfl
                  refine g_iconst 1 10 (gd rfl) rfl rfl ?_
                  refine g_goto 14 (gd rfl) rfl ?_
                  refine g_ireturn (gd rfl) rfl (nb01 (in_w 0 1 (in_c 1 rfl) rfl)) (hp126 _ _ ?_)
                  show GG _ _ _ _ _ _ _ _ [.int (Int32.ofInt 1)] _ _ _
                  refine g_if_ne 132 72 (gd rfl) rfl rfl (fun c129 => ?_) (fun c129 => ?_)
                  · skip
                    have n72 : (x1).toInt < (u_109_20).toInt := by first | exact n61_0 | ((first | have a0 := oa7 j90_5 i119 j61_2 j61_1 ro_109_20 j90_6 j90_4 | ((first | have a0 := in_u j90_5 | (have a0 := j90_5; unfold In at a0)); (first | have a1 := in_u i119 | (have a1 := i119; unfold In at a1)); (first | have a2 := in_u j61_2 | (have a2 := j61_2; unfold In at a2)); (first | have a3 := in_u j61_1 | (have a3 := j61_1; unfold In at a3)); (first | have a4 := in_u ro_109_20 | (have a4 := ro_109_20; unfold In at a4)); (first | have a5 := in_u j90_6 | (have a5 := j90_6; unfold In at a5)); (first | have a6 := in_u j90_4 | (have a6 := j90_4; unfold In at a6)))); omega)
                    have n72a : 0 ≤ (x1).toInt := by first | exact n61_1 | ((first | have a0 := oa7 j90_5 i119 j61_2 j61_1 ro_109_20 j90_6 j90_4 | ((first | have a0 := in_u j90_5 | (have a0 := j90_5; unfold In at a0)); (first | have a1 := in_u i119 | (have a1 := i119; unfold In at a1)); (first | have a2 := in_u j61_2 | (have a2 := j61_2; unfold In at a2)); (first | have a3 := in_u j61_1 | (have a3 := j61_1; unfold In at a3)); (first | have a4 := in_u ro_109_20 | (have a4 := ro_109_20; unfold In at a4)); (first | have a5 := in_u j90_6 | (have a5 := j90_6; unfold In at a5)); (first | have a6 := in_u j90_4 | (have a6 := j90_4; unfold In at a6)))); omega)
                    have n72b : (y61_3).toInt ≤ (x1).toInt := by first | exact n72_2 | ((first | have a0 := oa7 j90_5 i119 j61_2 j61_1 ro_109_20 j90_6 j90_4 | ((first | have a0 := in_u j90_5 | (have a0 := j90_5; unfold In at a0)); (first | have a1 := in_u i119 | (have a1 := i119; unfold In at a1)); (first | have a2 := in_u j61_2 | (have a2 := j61_2; unfold In at a2)); (first | have a3 := in_u j61_1 | (have a3 := j61_1; unfold In at a3)); (first | have a4 := in_u ro_109_20 | (have a4 := ro_109_20; unfold In at a4)); (first | have a5 := in_u j90_6 | (have a5 := j90_6; unfold In at a5)); (first | have a6 := in_u j90_4 | (have a6 := j90_4; unfold In at a6)))); omega)
                    have n72c : BSD sc90 := by exact g90_0
                    have n72d : E61 sc61 sc90 (y61_3).toNatClampNeg := by exact e61_3 g90_1
                    have n72e : F72 sc61 sc90 (y61_2).toInt (y61_3).toNatClampNeg (y90_4).toInt (y72_5).toInt := by exact f72_b g61_1 (by (first | have a0 := oa7 j90_5 i119 j61_2 j61_1 ro_109_20 j90_6 j90_4 | ((first | have a0 := in_u j90_5 | (have a0 := j90_5; unfold In at a0)); (first | have a1 := in_u i119 | (have a1 := i119; unfold In at a1)); (first | have a2 := in_u j61_2 | (have a2 := j61_2; unfold In at a2)); (first | have a3 := in_u j61_1 | (have a3 := j61_1; unfold In at a3)); (first | have a4 := in_u ro_109_20 | (have a4 := ro_109_20; unfold In at a4)); (first | have a5 := in_u j90_6 | (have a5 := j90_6; unfold In at a5)); (first | have a6 := in_u j90_4 | (have a6 := j90_4; unfold In at a6)))); omega) (by rw [hFc61.2.2.1 109 20 rfl, ← e_109_20]; (first | have a0 := oa7 j90_5 i119 j61_2 j61_1 ro_109_20 j90_6 j90_4 | ((first | have a0 := in_u j90_5 | (have a0 := j90_5; unfold In at a0)); (first | have a1 := in_u i119 | (have a1 := i119; unfold In at a1)); (first | have a2 := in_u j61_2 | (have a2 := j61_2; unfold In at a2)); (first | have a3 := in_u j61_1 | (have a3 := j61_1; unfold In at a3)); (first | have a4 := in_u ro_109_20 | (have a4 := ro_109_20; unfold In at a4)); (first | have a5 := in_u j90_6 | (have a5 := j90_6; unfold In at a5)); (first | have a6 := in_u j90_4 | (have a6 := j90_4; unfold In at a6)))); omega) g61_0 g90_1 hC90 p121 (bt_yes e126x2 e126x4 j90_4 c126x6) (by (first | have a0 := oa7 j90_5 i119 j61_2 j61_1 ro_109_20 j90_6 j90_4 | ((first | have a0 := in_u j90_5 | (have a0 := j90_5; unfold In at a0)); (first | have a1 := in_u i119 | (have a1 := i119; unfold In at a1)); (first | have a2 := in_u j61_2 | (have a2 := j61_2; unfold In at a2)); (first | have a3 := in_u j61_1 | (have a3 := j61_1; unfold In at a3)); (first | have a4 := in_u ro_109_20 | (have a4 := ro_109_20; unfold In at a4)); (first | have a5 := in_u j90_6 | (have a5 := j90_6; unfold In at a5)); (first | have a6 := in_u j90_4 | (have a6 := j90_4; unfold In at a6)))); omega) g90_3 (by (first | have a0 := oa7 j90_5 i119 j61_2 j61_1 ro_109_20 j90_6 j90_4 | ((first | have a0 := in_u j90_5 | (have a0 := j90_5; unfold In at a0)); (first | have a1 := in_u i119 | (have a1 := i119; unfold In at a1)); (first | have a2 := in_u j61_2 | (have a2 := j61_2; unfold In at a2)); (first | have a3 := in_u j61_1 | (have a3 := j61_1; unfold In at a3)); (first | have a4 := in_u ro_109_20 | (have a4 := ro_109_20; unfold In at a4)); (first | have a5 := in_u j90_6 | (have a5 := j90_6; unfold In at a5)); (first | have a6 := in_u j90_4 | (have a6 := j90_4; unfold In at a6)))); omega)
                    have m72 : 40 - (y90_4).toInt < ((k72 : Nat) : Int) := by (first | have a0 := oa7 j90_5 i119 j61_2 j61_1 ro_109_20 j90_6 j90_4 | ((first | have a0 := in_u j90_5 | (have a0 := j90_5; unfold In at a0)); (first | have a1 := in_u i119 | (have a1 := i119; unfold In at a1)); (first | have a2 := in_u j61_2 | (have a2 := j61_2; unfold In at a2)); (first | have a3 := in_u j61_1 | (have a3 := j61_1; unfold In at a3)); (first | have a4 := in_u ro_109_20 | (have a4 := ro_109_20; unfold In at a4)); (first | have a5 := in_u j90_6 | (have a5 := j90_6; unfold In at a5)); (first | have a6 := in_u j90_4 | (have a6 := j90_4; unfold In at a6)))); omega
                    exact gg_w (by first | exact Nat.le_add_right _ _ | exact gw2 | exact gw3 | exact gwe rfl | exact gwf rfl | exact gwg rfl | exact gwh rfl | omega) (gg_f (gf_cons rfl (gf_cons rfl (gf_cons rfl (gf_cons rfl (gf_cons rfl (gf_cons rfl gf_nil)))))) (ih72  sc90 y90_4 y72_5 hIc90 hFc90 (in_w 0 31 i119 rfl) (in_w (-1) 31 j90_4 rfl) (in_w 0 1 j90_5 rfl) n72 n72a n72b n72c n72d n72e m72))
                  · skip
                    exact zn_eq c129 (in_c 1 rfl) rfl
              · skip
                have i96 := r_lt1 0 31 c96 j90_6 ro_109_20 rfl
                have i96a := r_lt2 1 32 c96 j90_6 ro_109_20 rfl
                refine g_aload_n 100 (gd rfl) rfl rfl ?_
                refine g_getA (q2 := 142) 103 (gd rfl) rfl rfl rfl rfl ?_
                refine g_iload 105 (gd rfl) rfl rfl ?_
                refine g_aload_n 106 (gd rfl) rfl rfl ?_
                refine g_getA (q2 := 141) 109 (gd rfl) rfl rfl rfl rfl ?_
                refine g_iload 111 (gd rfl) rfl rfl ?_
                refine g_iaload 112 (gd rfl) rfl (n := 32) rfl (in_ix i96 rfl) (fun z111 e111 => ?_)
                have i111 := inv_I hIc90 (n := 32) (t := 0) (-2147483648) 31 rfl (in_ix i96 rfl) rfl e111
                refine g_iastore 113 (gd rfl) rfl (n := 32) rfl (in_ix i96 rfl) ?_
                have hI112 := inv_sI (q := 142) (j := y90_6.toNatClampNeg) hIc90 rfl (in_w (-2147483648) 31 i111 rfl)
                refine g_iinc 116 (gd rfl) rfl rfl (Nat.le_of_ble_eq_true rfl) (fun z113 e113 => ?_)
                have i113 := in_add 1 32 e113 i96 (in_c 1 rfl) rfl rfl
                refine g_goto 90 (gd rfl) rfl ?_
                have n90 : (x1).toInt < (u_109_20).toInt := by first | exact n61_0 | ((first | have a0 := oa8 j90_5 j72_3 j61_2 j61_1 i96a i96 j90_4 i113 | ((first | have a0 := in_u j90_5 | (have a0 := j90_5; unfold In at a0)); (first | have a1 := in_u j72_3 | (have a1 := j72_3; unfold In at a1)); (first | have a2 := in_u j61_2 | (have a2 := j61_2; unfold In at a2)); (first | have a3 := in_u j61_1 | (have a3 := j61_1; unfold In at a3)); (first | have a4 := in_u i96a | (have a4 := i96a; unfold In at a4)); (first | have a5 := in_u i96 | (have a5 := i96; unfold In at a5)); (first | have a6 := in_u j90_4 | (have a6 := j90_4; unfold In at a6)); (first | have a7 := in_u i113 | (have a7 := i113; unfold In at a7)))); have a8 := t_add e113 i96 (in_c 1 rfl) rfl; (first | have a9 := in_u ((in_c 1 rfl)) | (have a9 := (in_c 1 rfl); unfold In at a9)); omega)
                have n90a : 0 ≤ (x1).toInt := by first | exact n61_1 | ((first | have a0 := oa8 j90_5 j72_3 j61_2 j61_1 i96a i96 j90_4 i113 | ((first | have a0 := in_u j90_5 | (have a0 := j90_5; unfold In at a0)); (first | have a1 := in_u j72_3 | (have a1 := j72_3; unfold In at a1)); (first | have a2 := in_u j61_2 | (have a2 := j61_2; unfold In at a2)); (first | have a3 := in_u j61_1 | (have a3 := j61_1; unfold In at a3)); (first | have a4 := in_u i96a | (have a4 := i96a; unfold In at a4)); (first | have a5 := in_u i96 | (have a5 := i96; unfold In at a5)); (first | have a6 := in_u j90_4 | (have a6 := j90_4; unfold In at a6)); (first | have a7 := in_u i113 | (have a7 := i113; unfold In at a7)))); have a8 := t_add e113 i96 (in_c 1 rfl) rfl; (first | have a9 := in_u ((in_c 1 rfl)) | (have a9 := (in_c 1 rfl); unfold In at a9)); omega)
                have n90b : (y61_3).toInt ≤ (x1).toInt := by first | exact n72_2 | ((first | have a0 := oa8 j90_5 j72_3 j61_2 j61_1 i96a i96 j90_4 i113 | ((first | have a0 := in_u j90_5 | (have a0 := j90_5; unfold In at a0)); (first | have a1 := in_u j72_3 | (have a1 := j72_3; unfold In at a1)); (first | have a2 := in_u j61_2 | (have a2 := j61_2; unfold In at a2)); (first | have a3 := in_u j61_1 | (have a3 := j61_1; unfold In at a3)); (first | have a4 := in_u i96a | (have a4 := i96a; unfold In at a4)); (first | have a5 := in_u i96 | (have a5 := i96; unfold In at a5)); (first | have a6 := in_u j90_4 | (have a6 := j90_4; unfold In at a6)); (first | have a7 := in_u i113 | (have a7 := i113; unfold In at a7)))); have a8 := t_add e113 i96 (in_c 1 rfl) rfl; (first | have a9 := in_u ((in_c 1 rfl)) | (have a9 := (in_c 1 rfl); unfold In at a9)); omega)
                have n90c : (y72_5).toInt = 0 := by first | exact n90_3 | ((first | have a0 := oa8 j90_5 j72_3 j61_2 j61_1 i96a i96 j90_4 i113 | ((first | have a0 := in_u j90_5 | (have a0 := j90_5; unfold In at a0)); (first | have a1 := in_u j72_3 | (have a1 := j72_3; unfold In at a1)); (first | have a2 := in_u j61_2 | (have a2 := j61_2; unfold In at a2)); (first | have a3 := in_u j61_1 | (have a3 := j61_1; unfold In at a3)); (first | have a4 := in_u i96a | (have a4 := i96a; unfold In at a4)); (first | have a5 := in_u i96 | (have a5 := i96; unfold In at a5)); (first | have a6 := in_u j90_4 | (have a6 := j90_4; unfold In at a6)); (first | have a7 := in_u i113 | (have a7 := i113; unfold In at a7)))); have a8 := t_add e113 i96 (in_c 1 rfl) rfl; (first | have a9 := in_u ((in_c 1 rfl)) | (have a9 := (in_c 1 rfl); unfold In at a9)); omega)
                have n90d : (y90_4).toInt = y72_4.toInt + 1 := by first | exact n90_4 | ((first | have a0 := oa8 j90_5 j72_3 j61_2 j61_1 i96a i96 j90_4 i113 | ((first | have a0 := in_u j90_5 | (have a0 := j90_5; unfold In at a0)); (first | have a1 := in_u j72_3 | (have a1 := j72_3; unfold In at a1)); (first | have a2 := in_u j61_2 | (have a2 := j61_2; unfold In at a2)); (first | have a3 := in_u j61_1 | (have a3 := j61_1; unfold In at a3)); (first | have a4 := in_u i96a | (have a4 := i96a; unfold In at a4)); (first | have a5 := in_u i96 | (have a5 := i96; unfold In at a5)); (first | have a6 := in_u j90_4 | (have a6 := j90_4; unfold In at a6)); (first | have a7 := in_u i113 | (have a7 := i113; unfold In at a7)))); have a8 := t_add e113 i96 (in_c 1 rfl) rfl; (first | have a9 := in_u ((in_c 1 rfl)) | (have a9 := (in_c 1 rfl); unfold In at a9)); omega)
                have n90e : (z113).toInt ≤ (u_109_20).toInt := by (first | have a0 := oa8 j90_5 j72_3 j61_2 j61_1 i96a i96 j90_4 i113 | ((first | have a0 := in_u j90_5 | (have a0 := j90_5; unfold In at a0)); (first | have a1 := in_u j72_3 | (have a1 := j72_3; unfold In at a1)); (first | have a2 := in_u j61_2 | (have a2 := j61_2; unfold In at a2)); (first | have a3 := in_u j61_1 | (have a3 := j61_1; unfold In at a3)); (first | have a4 := in_u i96a | (have a4 := i96a; unfold In at a4)); (first | have a5 := in_u i96 | (have a5 := i96; unfold In at a5)); (first | have a6 := in_u j90_4 | (have a6 := j90_4; unfold In at a6)); (first | have a7 := in_u i113 | (have a7 := i113; unfold In at a7)))); have a8 := t_add e113 i96 (in_c 1 rfl) rfl; (first | have a9 := in_u ((in_c 1 rfl)) | (have a9 := (in_c 1 rfl); unfold In at a9)); omega
                have n90f : BSD (sI sc90 142 y90_6.toNatClampNeg z111) := by exact bsd_I rfl g90_0
                have n90g : S3 sc61 (sI sc90 142 y90_6.toNatClampNeg z111) := by exact s3_I g90_1
                have n90h : CEm (sI sc90 142 y90_6.toNatClampNeg z111) (z113).toInt := by exact cem_s g90_2 e111 (by (first | have a0 := oa8 j90_5 j72_3 j61_2 j61_1 i96a i96 j90_4 i113 | ((first | have a0 := in_u j90_5 | (have a0 := j90_5; unfold In at a0)); (first | have a1 := in_u j72_3 | (have a1 := j72_3; unfold In at a1)); (first | have a2 := in_u j61_2 | (have a2 := j61_2; unfold In at a2)); (first | have a3 := in_u j61_1 | (have a3 := j61_1; unfold In at a3)); (first | have a4 := in_u i96a | (have a4 := i96a; unfold In at a4)); (first | have a5 := in_u i96 | (have a5 := i96; unfold In at a5)); (first | have a6 := in_u j90_4 | (have a6 := j90_4; unfold In at a6)); (first | have a7 := in_u i113 | (have a7 := i113; unfold In at a7)))); have a8 := t_add e113 i96 (in_c 1 rfl) rfl; (first | have a9 := in_u ((in_c 1 rfl)) | (have a9 := (in_c 1 rfl); unfold In at a9)); omega) (by (first | have a0 := oa8 j90_5 j72_3 j61_2 j61_1 i96a i96 j90_4 i113 | ((first | have a0 := in_u j90_5 | (have a0 := j90_5; unfold In at a0)); (first | have a1 := in_u j72_3 | (have a1 := j72_3; unfold In at a1)); (first | have a2 := in_u j61_2 | (have a2 := j61_2; unfold In at a2)); (first | have a3 := in_u j61_1 | (have a3 := j61_1; unfold In at a3)); (first | have a4 := in_u i96a | (have a4 := i96a; unfold In at a4)); (first | have a5 := in_u i96 | (have a5 := i96; unfold In at a5)); (first | have a6 := in_u j90_4 | (have a6 := j90_4; unfold In at a6)); (first | have a7 := in_u i113 | (have a7 := i113; unfold In at a7)))); have a8 := t_add e113 i96 (in_c 1 rfl) rfl; (first | have a9 := in_u ((in_c 1 rfl)) | (have a9 := (in_c 1 rfl); unfold In at a9)); omega)
                have n90i : G90 sc61 (y61_2).toInt (y61_3).toNatClampNeg (y90_4).toInt := by exact g90_3
                exact gg_w (by first | exact Nat.le_add_right _ _ | exact gw2 | exact gw3 | exact gwe rfl | exact gwf rfl | exact gwg rfl | exact gwh rfl | omega) (gg_f (gf_cons rfl (gf_cons rfl (gf_cons rfl (gf_cons rfl (gf_cons rfl (gf_cons rfl (gf_cons rfl gf_nil))))))) (ih90 (sI sc90 142 y90_6.toNatClampNeg z111) y90_4 z113 hI112 (fr_sI rfl hFc90) (in_w 0 31 j90_4 rfl) (in_w 0 0 j90_5 rfl) (in_w 0 32 i113 rfl) n90 n90a n90b n90c n90d n90e n90f n90g n90h n90i (m_up mm90 (t_add e113 i96 (in_c 1 rfl) rfl) (in_w 1 1 (in_c 1 rfl) rfl))))
          refine g_iload 74 (gd rfl) rfl rfl ?_
          refine g_if_ne 77 150 (gd rfl) rfl rfl (fun c74 => ?_) (fun c74 => ?_)
          · skip
            have i74 := z_ne 1 1 c74 j72_5 rfl
            refine g_iinc 153 (gd rfl) rfl rfl (Nat.le_of_ble_eq_true rfl) (fun z150 e150 => ?_)
            have i150 := in_add 1 32 e150 j72_3 (in_c 1 rfl) rfl rfl
            refine g_goto 61 (gd rfl) rfl ?_
            have n61 : (x1).toInt < (u_109_20).toInt := by first | exact n61_0 | ((first | have a0 := oa7 j72_3 j61_2 j61_1 ro_109_20 i74 j72_4 i150 | ((first | have a0 := in_u j72_3 | (have a0 := j72_3; unfold In at a0)); (first | have a1 := in_u j61_2 | (have a1 := j61_2; unfold In at a1)); (first | have a2 := in_u j61_1 | (have a2 := j61_1; unfold In at a2)); (first | have a3 := in_u ro_109_20 | (have a3 := ro_109_20; unfold In at a3)); (first | have a4 := in_u i74 | (have a4 := i74; unfold In at a4)); (first | have a5 := in_u j72_4 | (have a5 := j72_4; unfold In at a5)); (first | have a6 := in_u i150 | (have a6 := i150; unfold In at a6)))); have a7 := t_add e150 j72_3 (in_c 1 rfl) rfl; (first | have a8 := in_u ((in_c 1 rfl)) | (have a8 := (in_c 1 rfl); unfold In at a8)); omega)
            have n61a : 0 ≤ (x1).toInt := by first | exact n61_1 | ((first | have a0 := oa7 j72_3 j61_2 j61_1 ro_109_20 i74 j72_4 i150 | ((first | have a0 := in_u j72_3 | (have a0 := j72_3; unfold In at a0)); (first | have a1 := in_u j61_2 | (have a1 := j61_2; unfold In at a1)); (first | have a2 := in_u j61_1 | (have a2 := j61_1; unfold In at a2)); (first | have a3 := in_u ro_109_20 | (have a3 := ro_109_20; unfold In at a3)); (first | have a4 := in_u i74 | (have a4 := i74; unfold In at a4)); (first | have a5 := in_u j72_4 | (have a5 := j72_4; unfold In at a5)); (first | have a6 := in_u i150 | (have a6 := i150; unfold In at a6)))); have a7 := t_add e150 j72_3 (in_c 1 rfl) rfl; (first | have a8 := in_u ((in_c 1 rfl)) | (have a8 := (in_c 1 rfl); unfold In at a8)); omega)
            have n61b : (z150).toInt ≤ (x1).toInt + 1 := by (first | have a0 := oa7 j72_3 j61_2 j61_1 ro_109_20 i74 j72_4 i150 | ((first | have a0 := in_u j72_3 | (have a0 := j72_3; unfold In at a0)); (first | have a1 := in_u j61_2 | (have a1 := j61_2; unfold In at a1)); (first | have a2 := in_u j61_1 | (have a2 := j61_1; unfold In at a2)); (first | have a3 := in_u ro_109_20 | (have a3 := ro_109_20; unfold In at a3)); (first | have a4 := in_u i74 | (have a4 := i74; unfold In at a4)); (first | have a5 := in_u j72_4 | (have a5 := j72_4; unfold In at a5)); (first | have a6 := in_u i150 | (have a6 := i150; unfold In at a6)))); have a7 := t_add e150 j72_3 (in_c 1 rfl) rfl; (first | have a8 := in_u ((in_c 1 rfl)) | (have a8 := (in_c 1 rfl); unfold In at a8)); omega
            have n61c : BSD sc72 := by exact g72_0
            have n61d : NS sc72 (z150).toInt := by exact ns_61 g72_1 g61_1 (by (first | have a0 := oa7 j72_3 j61_2 j61_1 ro_109_20 i74 j72_4 i150 | ((first | have a0 := in_u j72_3 | (have a0 := j72_3; unfold In at a0)); (first | have a1 := in_u j61_2 | (have a1 := j61_2; unfold In at a1)); (first | have a2 := in_u j61_1 | (have a2 := j61_1; unfold In at a2)); (first | have a3 := in_u ro_109_20 | (have a3 := ro_109_20; unfold In at a3)); (first | have a4 := in_u i74 | (have a4 := i74; unfold In at a4)); (first | have a5 := in_u j72_4 | (have a5 := j72_4; unfold In at a5)); (first | have a6 := in_u i150 | (have a6 := i150; unfold In at a6)))); have a7 := t_add e150 j72_3 (in_c 1 rfl) rfl; (first | have a8 := in_u ((in_c 1 rfl)) | (have a8 := (in_c 1 rfl); unfold In at a8)); omega) (by (first | have a0 := oa7 j72_3 j61_2 j61_1 ro_109_20 i74 j72_4 i150 | ((first | have a0 := in_u j72_3 | (have a0 := j72_3; unfold In at a0)); (first | have a1 := in_u j61_2 | (have a1 := j61_2; unfold In at a1)); (first | have a2 := in_u j61_1 | (have a2 := j61_1; unfold In at a2)); (first | have a3 := in_u ro_109_20 | (have a3 := ro_109_20; unfold In at a3)); (first | have a4 := in_u i74 | (have a4 := i74; unfold In at a4)); (first | have a5 := in_u j72_4 | (have a5 := j72_4; unfold In at a5)); (first | have a6 := in_u i150 | (have a6 := i150; unfold In at a6)))); have a7 := t_add e150 j72_3 (in_c 1 rfl) rfl; (first | have a8 := in_u ((in_c 1 rfl)) | (have a8 := (in_c 1 rfl); unfold In at a8)); omega)
            have n61e : EXT sc72 (y61_2).toInt (UU sc72) := by exact g72_2.2 c74
            have m61 : 40 - (z150).toInt < ((k61 : Nat) : Int) := by (first | have a0 := oa7 j72_3 j61_2 j61_1 ro_109_20 i74 j72_4 i150 | ((first | have a0 := in_u j72_3 | (have a0 := j72_3; unfold In at a0)); (first | have a1 := in_u j61_2 | (have a1 := j61_2; unfold In at a1)); (first | have a2 := in_u j61_1 | (have a2 := j61_1; unfold In at a2)); (first | have a3 := in_u ro_109_20 | (have a3 := ro_109_20; unfold In at a3)); (first | have a4 := in_u i74 | (have a4 := i74; unfold In at a4)); (first | have a5 := in_u j72_4 | (have a5 := j72_4; unfold In at a5)); (first | have a6 := in_u i150 | (have a6 := i150; unfold In at a6)))); have a7 := t_add e150 j72_3 (in_c 1 rfl) rfl; (first | have a8 := in_u ((in_c 1 rfl)) | (have a8 := (in_c 1 rfl); unfold In at a8)); omega
            exact gg_w (by first | exact Nat.le_add_right _ _ | exact gw2 | exact gw3 | exact gwe rfl | exact gwf rfl | exact gwg rfl | exact gwh rfl | omega) (gg_f (gf_cons rfl (gf_cons rfl (gf_cons rfl (gf_cons rfl gf_nil)))) (ih61  sc72 y61_2 z150 hIc72 hFc72 (in_w 0 31 j61_1 rfl) (in_w 0 32 j61_2 rfl) (in_w 0 32 i150 rfl) n61 n61a n61b n61c n61d n61e m61))
          · skip
            have i74 := z_eq 0 0 c74 j72_5 rfl
            refine g_iinc 80 (gd rfl) rfl rfl (Nat.le_of_ble_eq_true rfl) (fun z77 e77 => ?_)
            have i77 := in_add 0 32 e77 j72_4 (in_c 1 rfl) rfl rfl
            have hG : G90 sc61 (y61_2).toInt (y61_3).toNatClampNeg (z77).toInt := (by have h := g72_2.1 c74; rw [show (y72_4).toInt + 1 = (z77).toInt from (by (first | have a0 := oa7 j72_3 j61_2 j61_1 ro_109_20 i74 j72_4 i77 | ((first | have a0 := in_u j72_3 | (have a0 := j72_3; unfold In at a0)); (first | have a1 := in_u j61_2 | (have a1 := j61_2; unfold In at a1)); (first | have a2 := in_u j61_1 | (have a2 := j61_1; unfold In at a2)); (first | have a3 := in_u ro_109_20 | (have a3 := ro_109_20; unfold In at a3)); (first | have a4 := in_u i74 | (have a4 := i74; unfold In at a4)); (first | have a5 := in_u j72_4 | (have a5 := j72_4; unfold In at a5)); (first | have a6 := in_u i77 | (have a6 := i77; unfold In at a6)))); have a7 := t_add e77 j72_4 (in_c 1 rfl) rfl; (first | have a8 := in_u ((in_c 1 rfl)) | (have a8 := (in_c 1 rfl); unfold In at a8)); omega)] at h; exact h)
            have hGk := g90_k g61_1 (by (first | have a0 := oa7 j72_3 j61_2 j61_1 ro_109_20 i74 j72_4 i77 | ((first | have a0 := in_u j72_3 | (have a0 := j72_3; unfold In at a0)); (first | have a1 := in_u j61_2 | (have a1 := j61_2; unfold In at a1)); (first | have a2 := in_u j61_1 | (have a2 := j61_1; unfold In at a2)); (first | have a3 := in_u ro_109_20 | (have a3 := ro_109_20; unfold In at a3)); (first | have a4 := in_u i74 | (have a4 := i74; unfold In at a4)); (first | have a5 := in_u j72_4 | (have a5 := j72_4; unfold In at a5)); (first | have a6 := in_u i77 | (have a6 := i77; unfold In at a6)))); have a7 := t_add e77 j72_4 (in_c 1 rfl) rfl; (first | have a8 := in_u ((in_c 1 rfl)) | (have a8 := (in_c 1 rfl); unfold In at a8)); omega) (by rw [hFc61.2.2.1 109 20 rfl, ← e_109_20]; (first | have a0 := oa7 j72_3 j61_2 j61_1 ro_109_20 i74 j72_4 i77 | ((first | have a0 := in_u j72_3 | (have a0 := j72_3; unfold In at a0)); (first | have a1 := in_u j61_2 | (have a1 := j61_2; unfold In at a1)); (first | have a2 := in_u j61_1 | (have a2 := j61_1; unfold In at a2)); (first | have a3 := in_u ro_109_20 | (have a3 := ro_109_20; unfold In at a3)); (first | have a4 := in_u i74 | (have a4 := i74; unfold In at a4)); (first | have a5 := in_u j72_4 | (have a5 := j72_4; unfold In at a5)); (first | have a6 := in_u i77 | (have a6 := i77; unfold In at a6)))); have a7 := t_add e77 j72_4 (in_c 1 rfl) rfl; (first | have a8 := in_u ((in_c 1 rfl)) | (have a8 := (in_c 1 rfl); unfold In at a8)); omega) hG
            have i80 : In z77 0 31 := by exact ⟨by (first | have a0 := oa7 j72_3 j61_2 j61_1 ro_109_20 i74 j72_4 i77 | ((first | have a0 := in_u j72_3 | (have a0 := j72_3; unfold In at a0)); (first | have a1 := in_u j61_2 | (have a1 := j61_2; unfold In at a1)); (first | have a2 := in_u j61_1 | (have a2 := j61_1; unfold In at a2)); (first | have a3 := in_u ro_109_20 | (have a3 := ro_109_20; unfold In at a3)); (first | have a4 := in_u i74 | (have a4 := i74; unfold In at a4)); (first | have a5 := in_u j72_4 | (have a5 := j72_4; unfold In at a5)); (first | have a6 := in_u i77 | (have a6 := i77; unfold In at a6)))); have a7 := t_add e77 j72_4 (in_c 1 rfl) rfl; (first | have a8 := in_u ((in_c 1 rfl)) | (have a8 := (in_c 1 rfl); unfold In at a8)); omega, by (first | have a0 := oa7 j72_3 j61_2 j61_1 ro_109_20 i74 j72_4 i77 | ((first | have a0 := in_u j72_3 | (have a0 := j72_3; unfold In at a0)); (first | have a1 := in_u j61_2 | (have a1 := j61_2; unfold In at a1)); (first | have a2 := in_u j61_1 | (have a2 := j61_1; unfold In at a2)); (first | have a3 := in_u ro_109_20 | (have a3 := ro_109_20; unfold In at a3)); (first | have a4 := in_u i74 | (have a4 := i74; unfold In at a4)); (first | have a5 := in_u j72_4 | (have a5 := j72_4; unfold In at a5)); (first | have a6 := in_u i77 | (have a6 := i77; unfold In at a6)))); have a7 := t_add e77 j72_4 (in_c 1 rfl) rfl; (first | have a8 := in_u ((in_c 1 rfl)) | (have a8 := (in_c 1 rfl); unfold In at a8)); omega⟩
            have i80a : In y61_3 0 31 := by exact ⟨by (first | have a0 := oa7 j72_3 j61_2 j61_1 ro_109_20 i74 j72_4 i80 | ((first | have a0 := in_u j72_3 | (have a0 := j72_3; unfold In at a0)); (first | have a1 := in_u j61_2 | (have a1 := j61_2; unfold In at a1)); (first | have a2 := in_u j61_1 | (have a2 := j61_1; unfold In at a2)); (first | have a3 := in_u ro_109_20 | (have a3 := ro_109_20; unfold In at a3)); (first | have a4 := in_u i74 | (have a4 := i74; unfold In at a4)); (first | have a5 := in_u j72_4 | (have a5 := j72_4; unfold In at a5)); (first | have a6 := in_u i80 | (have a6 := i80; unfold In at a6)))); have a7 := t_add e77 j72_4 (in_c 1 rfl) rfl; (first | have a8 := in_u ((in_c 1 rfl)) | (have a8 := (in_c 1 rfl); unfold In at a8)); omega, by (first | have a0 := oa7 j72_3 j61_2 j61_1 ro_109_20 i74 j72_4 i80 | ((first | have a0 := in_u j72_3 | (have a0 := j72_3; unfold In at a0)); (first | have a1 := in_u j61_2 | (have a1 := j61_2; unfold In at a1)); (first | have a2 := in_u j61_1 | (have a2 := j61_1; unfold In at a2)); (first | have a3 := in_u ro_109_20 | (have a3 := ro_109_20; unfold In at a3)); (first | have a4 := in_u i74 | (have a4 := i74; unfold In at a4)); (first | have a5 := in_u j72_4 | (have a5 := j72_4; unfold In at a5)); (first | have a6 := in_u i80 | (have a6 := i80; unfold In at a6)))); have a7 := t_add e77 j72_4 (in_c 1 rfl) rfl; (first | have a8 := in_u ((in_c 1 rfl)) | (have a8 := (in_c 1 rfl); unfold In at a8)); omega⟩
            refine g_aload_n 81 (gd rfl) rfl rfl ?_
            refine g_getA (q2 := 141) 84 (gd rfl) rfl rfl rfl rfl ?_
            refine g_iload_n 85 (gd rfl) rfl rfl ?_
            refine g_iconst (-1) 86 (gd rfl) rfl rfl ?_
            refine g_iastore 87 (gd rfl) rfl (n := 32) rfl (in_ix i80a rfl) ?_
            have hI86 := inv_sI (q := 141) (j := y61_3.toNatClampNeg) hIc72 rfl (in_w (-2147483648) 31 (in_c (-1) rfl) rfl)
            refine g_iconst 0 88 (gd rfl) rfl rfl ?_
            refine g_istore 90 (gd rfl) rfl (Nat.le_of_ble_eq_true rfl) ?_
            have n90 : (x1).toInt < (u_109_20).toInt := by first | exact n61_0 | ((first | have a0 := oa8 i80a j61_2 j61_1 ro_109_20 i74 j72_4 ((in_c 0 rfl)) i80 | ((first | have a0 := in_u i80a | (have a0 := i80a; unfold In at a0)); (first | have a1 := in_u j61_2 | (have a1 := j61_2; unfold In at a1)); (first | have a2 := in_u j61_1 | (have a2 := j61_1; unfold In at a2)); (first | have a3 := in_u ro_109_20 | (have a3 := ro_109_20; unfold In at a3)); (first | have a4 := in_u i74 | (have a4 := i74; unfold In at a4)); (first | have a5 := in_u j72_4 | (have a5 := j72_4; unfold In at a5)); (first | have a6 := in_u ((in_c 0 rfl)) | (have a6 := (in_c 0 rfl); unfold In at a6)); (first | have a7 := in_u i80 | (have a7 := i80; unfold In at a7)))); have a8 := t_add e77 j72_4 (in_c 1 rfl) rfl; (first | have a9 := in_u ((in_c 1 rfl)) | (have a9 := (in_c 1 rfl); unfold In at a9)); omega)
            have n90a : 0 ≤ (x1).toInt := by first | exact n61_1 | ((first | have a0 := oa8 i80a j61_2 j61_1 ro_109_20 i74 j72_4 ((in_c 0 rfl)) i80 | ((first | have a0 := in_u i80a | (have a0 := i80a; unfold In at a0)); (first | have a1 := in_u j61_2 | (have a1 := j61_2; unfold In at a1)); (first | have a2 := in_u j61_1 | (have a2 := j61_1; unfold In at a2)); (first | have a3 := in_u ro_109_20 | (have a3 := ro_109_20; unfold In at a3)); (first | have a4 := in_u i74 | (have a4 := i74; unfold In at a4)); (first | have a5 := in_u j72_4 | (have a5 := j72_4; unfold In at a5)); (first | have a6 := in_u ((in_c 0 rfl)) | (have a6 := (in_c 0 rfl); unfold In at a6)); (first | have a7 := in_u i80 | (have a7 := i80; unfold In at a7)))); have a8 := t_add e77 j72_4 (in_c 1 rfl) rfl; (first | have a9 := in_u ((in_c 1 rfl)) | (have a9 := (in_c 1 rfl); unfold In at a9)); omega)
            have n90b : (y61_3).toInt ≤ (x1).toInt := by first | exact n72_2 | ((first | have a0 := oa8 i80a j61_2 j61_1 ro_109_20 i74 j72_4 ((in_c 0 rfl)) i80 | ((first | have a0 := in_u i80a | (have a0 := i80a; unfold In at a0)); (first | have a1 := in_u j61_2 | (have a1 := j61_2; unfold In at a1)); (first | have a2 := in_u j61_1 | (have a2 := j61_1; unfold In at a2)); (first | have a3 := in_u ro_109_20 | (have a3 := ro_109_20; unfold In at a3)); (first | have a4 := in_u i74 | (have a4 := i74; unfold In at a4)); (first | have a5 := in_u j72_4 | (have a5 := j72_4; unfold In at a5)); (first | have a6 := in_u ((in_c 0 rfl)) | (have a6 := (in_c 0 rfl); unfold In at a6)); (first | have a7 := in_u i80 | (have a7 := i80; unfold In at a7)))); have a8 := t_add e77 j72_4 (in_c 1 rfl) rfl; (first | have a9 := in_u ((in_c 1 rfl)) | (have a9 := (in_c 1 rfl); unfold In at a9)); omega)
            have n90c : (y72_5).toInt = 0 := by (first | have a0 := oa8 i80a j61_2 j61_1 ro_109_20 i74 j72_4 ((in_c 0 rfl)) i80 | ((first | have a0 := in_u i80a | (have a0 := i80a; unfold In at a0)); (first | have a1 := in_u j61_2 | (have a1 := j61_2; unfold In at a1)); (first | have a2 := in_u j61_1 | (have a2 := j61_1; unfold In at a2)); (first | have a3 := in_u ro_109_20 | (have a3 := ro_109_20; unfold In at a3)); (first | have a4 := in_u i74 | (have a4 := i74; unfold In at a4)); (first | have a5 := in_u j72_4 | (have a5 := j72_4; unfold In at a5)); (first | have a6 := in_u ((in_c 0 rfl)) | (have a6 := (in_c 0 rfl); unfold In at a6)); (first | have a7 := in_u i80 | (have a7 := i80; unfold In at a7)))); have a8 := t_add e77 j72_4 (in_c 1 rfl) rfl; (first | have a9 := in_u ((in_c 1 rfl)) | (have a9 := (in_c 1 rfl); unfold In at a9)); omega
            have n90d : (z77).toInt = y72_4.toInt + 1 := by (first | have a0 := oa8 i80a j61_2 j61_1 ro_109_20 i74 j72_4 ((in_c 0 rfl)) i80 | ((first | have a0 := in_u i80a | (have a0 := i80a; unfold In at a0)); (first | have a1 := in_u j61_2 | (have a1 := j61_2; unfold In at a1)); (first | have a2 := in_u j61_1 | (have a2 := j61_1; unfold In at a2)); (first | have a3 := in_u ro_109_20 | (have a3 := ro_109_20; unfold In at a3)); (first | have a4 := in_u i74 | (have a4 := i74; unfold In at a4)); (first | have a5 := in_u j72_4 | (have a5 := j72_4; unfold In at a5)); (first | have a6 := in_u ((in_c 0 rfl)) | (have a6 := (in_c 0 rfl); unfold In at a6)); (first | have a7 := in_u i80 | (have a7 := i80; unfold In at a7)))); have a8 := t_add e77 j72_4 (in_c 1 rfl) rfl; (first | have a9 := in_u ((in_c 1 rfl)) | (have a9 := (in_c 1 rfl); unfold In at a9)); omega
            have n90e : ((Int32.ofInt 0)).toInt ≤ (u_109_20).toInt := by (first | have a0 := oa8 i80a j61_2 j61_1 ro_109_20 i74 j72_4 ((in_c 0 rfl)) i80 | ((first | have a0 := in_u i80a | (have a0 := i80a; unfold In at a0)); (first | have a1 := in_u j61_2 | (have a1 := j61_2; unfold In at a1)); (first | have a2 := in_u j61_1 | (have a2 := j61_1; unfold In at a2)); (first | have a3 := in_u ro_109_20 | (have a3 := ro_109_20; unfold In at a3)); (first | have a4 := in_u i74 | (have a4 := i74; unfold In at a4)); (first | have a5 := in_u j72_4 | (have a5 := j72_4; unfold In at a5)); (first | have a6 := in_u ((in_c 0 rfl)) | (have a6 := (in_c 0 rfl); unfold In at a6)); (first | have a7 := in_u i80 | (have a7 := i80; unfold In at a7)))); have a8 := t_add e77 j72_4 (in_c 1 rfl) rfl; (first | have a9 := in_u ((in_c 1 rfl)) | (have a9 := (in_c 1 rfl); unfold In at a9)); omega
            have n90f : BSD (sI sc72 141 y61_3.toNatClampNeg (Int32.ofInt (-1))) := by exact bsd_I rfl g72_0
            have n90g : S3 sc61 (sI sc72 141 y61_3.toNatClampNeg (Int32.ofInt (-1))) := by exact e61_b g72_1 (ns_u g61_1 (by (first | have a0 := oa8 i80a j61_2 j61_1 ro_109_20 i74 j72_4 ((in_c 0 rfl)) i80 | ((first | have a0 := in_u i80a | (have a0 := i80a; unfold In at a0)); (first | have a1 := in_u j61_2 | (have a1 := j61_2; unfold In at a1)); (first | have a2 := in_u j61_1 | (have a2 := j61_1; unfold In at a2)); (first | have a3 := in_u ro_109_20 | (have a3 := ro_109_20; unfold In at a3)); (first | have a4 := in_u i74 | (have a4 := i74; unfold In at a4)); (first | have a5 := in_u j72_4 | (have a5 := j72_4; unfold In at a5)); (first | have a6 := in_u ((in_c 0 rfl)) | (have a6 := (in_c 0 rfl); unfold In at a6)); (first | have a7 := in_u i80 | (have a7 := i80; unfold In at a7)))); have a8 := t_add e77 j72_4 (in_c 1 rfl) rfl; (first | have a9 := in_u ((in_c 1 rfl)) | (have a9 := (in_c 1 rfl); unfold In at a9)); omega) (by rw [hFc61.2.2.1 109 20 rfl, ← e_109_20]; (first | have a0 := oa8 i80a j61_2 j61_1 ro_109_20 i74 j72_4 ((in_c 0 rfl)) i80 | ((first | have a0 := in_u i80a | (have a0 := i80a; unfold In at a0)); (first | have a1 := in_u j61_2 | (have a1 := j61_2; unfold In at a1)); (first | have a2 := in_u j61_1 | (have a2 := j61_1; unfold In at a2)); (first | have a3 := in_u ro_109_20 | (have a3 := ro_109_20; unfold In at a3)); (first | have a4 := in_u i74 | (have a4 := i74; unfold In at a4)); (first | have a5 := in_u j72_4 | (have a5 := j72_4; unfold In at a5)); (first | have a6 := in_u ((in_c 0 rfl)) | (have a6 := (in_c 0 rfl); unfold In at a6)); (first | have a7 := in_u i80 | (have a7 := i80; unfold In at a7)))); have a8 := t_add e77 j72_4 (in_c 1 rfl) rfl; (first | have a9 := in_u ((in_c 1 rfl)) | (have a9 := (in_c 1 rfl); unfold In at a9)); omega))
            have n90h : CEm (sI sc72 141 y61_3.toNatClampNeg (Int32.ofInt (-1))) ((Int32.ofInt 0)).toInt := by exact cem_0
            have n90i : G90 sc61 (y61_2).toInt (y61_3).toNatClampNeg (z77).toInt := by exact hG
            exact gg_w (by first | exact Nat.le_add_right _ _ | exact gw2 | exact gw3 | exact gwe rfl | exact gwf rfl | exact gwg rfl | exact gwh rfl | omega) (gg_f (gf_cons rfl (gf_cons rfl (gf_cons rfl (gf_cons rfl (gf_cons rfl (gf_cons rfl (gf_cons rfl gf_nil))))))) (ct90 33 (sI sc72 141 y61_3.toNatClampNeg (Int32.ofInt (-1))) z77 (Int32.ofInt 0) hI86 (fr_sI rfl hFc72) (in_w 0 31 i80 rfl) (in_w 0 0 i74 rfl) (in_w 0 32 (in_c 0 rfl) rfl) n90 n90a n90b n90c n90d n90e n90f n90g n90h n90i (m_in 33 (in_w 0 32 (in_c 0 rfl) rfl) rfl)))
      refine g_iload_n 62 (gd rfl) rfl rfl ?_
      refine g_iload_n 63 (gd rfl) rfl rfl ?_
      refine g_cmp_gt 66 156 (gd rfl) rfl rfl (fun c63 => ?_) (fun c63 => ?_)
      · skip
        have i63 := r_lt2 1 32 c63 j61_1 j61_3 rfl
        have i156 : In x1 0 31 := by exact ⟨by (first | have a0 := oa4 j61_1 ro_109_20 i63 j61_2 | ((first | have a0 := in_u j61_1 | (have a0 := j61_1; unfold In at a0)); (first | have a1 := in_u ro_109_20 | (have a1 := ro_109_20; unfold In at a1)); (first | have a2 := in_u i63 | (have a2 := i63; unfold In at a2)); (first | have a3 := in_u j61_2 | (have a3 := j61_2; unfold In at a3)))); omega, by (first | have a0 := oa4 j61_1 ro_109_20 i63 j61_2 | ((first | have a0 := in_u j61_1 | (have a0 := j61_1; unfold In at a0)); (first | have a1 := in_u ro_109_20 | (have a1 := ro_109_20; unfold In at a1)); (first | have a2 := in_u i63 | (have a2 := i63; unfold In at a2)); (first | have a3 := in_u j61_2 | (have a3 := j61_2; unfold In at a3)))); omega⟩
        refine g_aload_n 157 (gd rfl) rfl rfl ?_
        refine g_getA (q2 := 141) 160 (gd rfl) rfl rfl rfl rfl ?_
        refine g_iload_n 161 (gd rfl) rfl rfl ?_
        refine g_iaload 162 (gd rfl) rfl (n := 32) rfl (in_ix i156 rfl) (fun z161 e161 => ?_)
        have i161 := inv_I hIc61 (n := 32) (t := 0) (-2147483648) 31 rfl (in_ix i156 rfl) rfl e161
        exact g_ireturn (gd rfl) rfl rfl (hP _ _ ⟨sc61, hIc61, hFc61, z161, rfl, rfl, in_w (-2147483648) 31 i161 rfl⟩)
      · skip
        have i63 := r_le1 0 31 c63 j61_3 j61_1 rfl
        refine g_iconst (-1) 67 (gd rfl) rfl rfl ?_
        refine g_istore 69 (gd rfl) rfl (Nat.le_of_ble_eq_true rfl) ?_
        refine g_iconst 0 70 (gd rfl) rfl rfl ?_
        refine g_istore 72 (gd rfl) rfl (Nat.le_of_ble_eq_true rfl) ?_
        have n72 : (x1).toInt < (u_109_20).toInt := by first | exact n61_0 | ((first | have a0 := oa6 j61_1 ro_109_20 i63 j61_2 ((in_c 0 rfl)) ((in_c (-1) rfl)) | ((first | have a0 := in_u j61_1 | (have a0 := j61_1; unfold In at a0)); (first | have a1 := in_u ro_109_20 | (have a1 := ro_109_20; unfold In at a1)); (first | have a2 := in_u i63 | (have a2 := i63; unfold In at a2)); (first | have a3 := in_u j61_2 | (have a3 := j61_2; unfold In at a3)); (first | have a4 := in_u ((in_c 0 rfl)) | (have a4 := (in_c 0 rfl); unfold In at a4)); (first | have a5 := in_u ((in_c (-1) rfl)) | (have a5 := (in_c (-1) rfl); unfold In at a5)))); omega)
        have n72a : 0 ≤ (x1).toInt := by first | exact n61_1 | ((first | have a0 := oa6 j61_1 ro_109_20 i63 j61_2 ((in_c 0 rfl)) ((in_c (-1) rfl)) | ((first | have a0 := in_u j61_1 | (have a0 := j61_1; unfold In at a0)); (first | have a1 := in_u ro_109_20 | (have a1 := ro_109_20; unfold In at a1)); (first | have a2 := in_u i63 | (have a2 := i63; unfold In at a2)); (first | have a3 := in_u j61_2 | (have a3 := j61_2; unfold In at a3)); (first | have a4 := in_u ((in_c 0 rfl)) | (have a4 := (in_c 0 rfl); unfold In at a4)); (first | have a5 := in_u ((in_c (-1) rfl)) | (have a5 := (in_c (-1) rfl); unfold In at a5)))); omega)
        have n72b : (y61_3).toInt ≤ (x1).toInt := by (first | have a0 := oa6 j61_1 ro_109_20 i63 j61_2 ((in_c 0 rfl)) ((in_c (-1) rfl)) | ((first | have a0 := in_u j61_1 | (have a0 := j61_1; unfold In at a0)); (first | have a1 := in_u ro_109_20 | (have a1 := ro_109_20; unfold In at a1)); (first | have a2 := in_u i63 | (have a2 := i63; unfold In at a2)); (first | have a3 := in_u j61_2 | (have a3 := j61_2; unfold In at a3)); (first | have a4 := in_u ((in_c 0 rfl)) | (have a4 := (in_c 0 rfl); unfold In at a4)); (first | have a5 := in_u ((in_c (-1) rfl)) | (have a5 := (in_c (-1) rfl); unfold In at a5)))); omega
        have n72c : BSD sc61 := by exact g61_0
        have n72d : E61 sc61 sc61 (y61_3).toNatClampNeg := by exact e61_3 s3_rf
        have n72e : F72 sc61 sc61 (y61_2).toInt (y61_3).toNatClampNeg ((Int32.ofInt (-1))).toInt ((Int32.ofInt 0)).toInt := by exact f72_0 g61_1 (by (first | have a0 := oa6 j61_1 ro_109_20 i63 j61_2 ((in_c 0 rfl)) ((in_c (-1) rfl)) | ((first | have a0 := in_u j61_1 | (have a0 := j61_1; unfold In at a0)); (first | have a1 := in_u ro_109_20 | (have a1 := ro_109_20; unfold In at a1)); (first | have a2 := in_u i63 | (have a2 := i63; unfold In at a2)); (first | have a3 := in_u j61_2 | (have a3 := j61_2; unfold In at a3)); (first | have a4 := in_u ((in_c 0 rfl)) | (have a4 := (in_c 0 rfl); unfold In at a4)); (first | have a5 := in_u ((in_c (-1) rfl)) | (have a5 := (in_c (-1) rfl); unfold In at a5)))); omega) (by rw [hFc61.2.2.1 109 20 rfl, ← e_109_20]; (first | have a0 := oa6 j61_1 ro_109_20 i63 j61_2 ((in_c 0 rfl)) ((in_c (-1) rfl)) | ((first | have a0 := in_u j61_1 | (have a0 := j61_1; unfold In at a0)); (first | have a1 := in_u ro_109_20 | (have a1 := ro_109_20; unfold In at a1)); (first | have a2 := in_u i63 | (have a2 := i63; unfold In at a2)); (first | have a3 := in_u j61_2 | (have a3 := j61_2; unfold In at a3)); (first | have a4 := in_u ((in_c 0 rfl)) | (have a4 := (in_c 0 rfl); unfold In at a4)); (first | have a5 := in_u ((in_c (-1) rfl)) | (have a5 := (in_c (-1) rfl); unfold In at a5)))); omega) g61_2
        have m72 : 40 - ((Int32.ofInt (-1))).toInt < ((42 : Nat) : Int) := by (first | have a0 := oa6 j61_1 ro_109_20 i63 j61_2 ((in_c 0 rfl)) ((in_c (-1) rfl)) | ((first | have a0 := in_u j61_1 | (have a0 := j61_1; unfold In at a0)); (first | have a1 := in_u ro_109_20 | (have a1 := ro_109_20; unfold In at a1)); (first | have a2 := in_u i63 | (have a2 := i63; unfold In at a2)); (first | have a3 := in_u j61_2 | (have a3 := j61_2; unfold In at a3)); (first | have a4 := in_u ((in_c 0 rfl)) | (have a4 := (in_c 0 rfl); unfold In at a4)); (first | have a5 := in_u ((in_c (-1) rfl)) | (have a5 := (in_c (-1) rfl); unfold In at a5)))); omega
        exact gg_w (by first | exact Nat.le_add_right _ _ | exact gw2 | exact gw3 | exact gwe rfl | exact gwf rfl | exact gwg rfl | exact gwh rfl | omega) (gg_f (gf_cons rfl (gf_cons rfl (gf_cons rfl (gf_cons rfl (gf_cons rfl (gf_cons rfl gf_nil)))))) (ct72 42 sc61 (Int32.ofInt (-1)) (Int32.ofInt 0) hIc61 hFc61 (in_w 0 31 i63 rfl) (in_w (-1) 31 (in_c (-1) rfl) rfl) (in_w 0 1 (in_c 0 rfl) rfl) n72 n72a n72b n72c n72d n72e m72))
  have ct45 : ∀ (k45 : Nat) (sc45 : GS) (y45_2 : Int32) (y45_3 : Int32), Inv sc45 → Fr fm_347 s sc45 → (In x1 0 31) → (In y45_2 0 32) → (In y45_3 0 32) → ((x1).toInt < (u_109_20).toInt) → (0 ≤ (x1).toInt) → (BSD sc45) → (NS sc45 0) → 32 - (y45_2).toInt < (k45 : Int) → GG Z (d - 1) 347 post (gx xp) (57196806 + k45 * 900) 45 (fun j => xlook j [(0, .ref (A 109)), (1, .int x1), (2, .int y45_2), (3, .int y45_3)]) [] (WW Z A sc45 ++ ex) 0 0 := by
    intro k45
    induction k45 with
    | zero => intro sc45 y45_2 y45_3 hIc45 hFc45 j45_1 j45_2 j45_3 n45_0 n45_1 g45_0 g45_1 mm45; exfalso; have a0 := j45_1; unfold In at a0; (first | have a1 := in_u ro_109_20 | (have a1 := ro_109_20; unfold In at a1)); have a2 := j45_3; unfold In at a2; have a3 := j45_2; unfold In at a3; omega
    | succ k45 ih45 =>
      intro sc45 y45_2 y45_3 hIc45 hFc45 j45_1 j45_2 j45_3 n45_0 n45_1 g45_0 g45_1 mm45
      refine gg_w (M := 57196806 + k45 * 900 + 900) gws ?_
      refine g_aload_n 46 (gd rfl) rfl rfl ?_
      refine g_iload_n 47 (gd rfl) rfl rfl ?_
      have p47 : BSD sc45 := by exact g45_0
      refine g_callv (X := _) (As := [.int y45_2]) (r := []) (b := A 109) (q := 109) 50 (gd rfl) rfl rfl rfl rfl rfl (ww_o rfl) (Nat.le_of_ble_eq_true rfl) (Nat.zero_le _) (Nat.zero_le _) (k_343 (by first | exact dq1 hd rfl | exact dq0 hd rfl | exact dq2 hd rfl | exact dq3 hd rfl | omega) hIc45 (in_w 0 32 j45_2 rfl) p47) (fun e u h => h) (fun v u h => ?_)
      obtain ⟨s47, hI47, hF47, z47, rfl, rfl, i47, p47a⟩ := h
      show GG _ _ _ _ _ _ _ _ [.int z47] _ _ _
      have hS47 : S3 sc45 s47 := ⟨hF47.1 138 rfl, hF47.1 141 rfl, hF47.2.2.1 109 20 rfl⟩
      refine g_if_ne 53 59 (gd rfl) rfl rfl (fun c50 => ?_) (fun c50 => ?_)
      · skip
        have i50 := z_ne 1 1 c50 i47 rfl
        refine g_iconst 0 60 (gd rfl) rfl rfl ?_
        refine g_istore_n 61 (gd rfl) rfl (Nat.le_of_ble_eq_true rfl) ?_
        have n61 : (x1).toInt < (u_109_20).toInt := by first | exact n45_0 | ((first | have a0 := oa5 j45_1 ro_109_20 j45_3 j45_2 ((in_c 0 rfl)) | ((first | have a0 := in_u j45_1 | (have a0 := j45_1; unfold In at a0)); (first | have a1 := in_u ro_109_20 | (have a1 := ro_109_20; unfold In at a1)); (first | have a2 := in_u j45_3 | (have a2 := j45_3; unfold In at a2)); (first | have a3 := in_u j45_2 | (have a3 := j45_2; unfold In at a3)); (first | have a4 := in_u ((in_c 0 rfl)) | (have a4 := (in_c 0 rfl); unfold In at a4)))); omega)
        have n61a : 0 ≤ (x1).toInt := by first | exact n45_1 | ((first | have a0 := oa5 j45_1 ro_109_20 j45_3 j45_2 ((in_c 0 rfl)) | ((first | have a0 := in_u j45_1 | (have a0 := j45_1; unfold In at a0)); (first | have a1 := in_u ro_109_20 | (have a1 := ro_109_20; unfold In at a1)); (first | have a2 := in_u j45_3 | (have a2 := j45_3; unfold In at a2)); (first | have a3 := in_u j45_2 | (have a3 := j45_2; unfold In at a3)); (first | have a4 := in_u ((in_c 0 rfl)) | (have a4 := (in_c 0 rfl); unfold In at a4)))); omega)
        have n61b : ((Int32.ofInt 0)).toInt ≤ (x1).toInt + 1 := by (first | have a0 := oa5 j45_1 ro_109_20 j45_3 j45_2 ((in_c 0 rfl)) | ((first | have a0 := in_u j45_1 | (have a0 := j45_1; unfold In at a0)); (first | have a1 := in_u ro_109_20 | (have a1 := ro_109_20; unfold In at a1)); (first | have a2 := in_u j45_3 | (have a2 := j45_3; unfold In at a2)); (first | have a3 := in_u j45_2 | (have a3 := j45_2; unfold In at a3)); (first | have a4 := in_u ((in_c 0 rfl)) | (have a4 := (in_c 0 rfl); unfold In at a4)))); omega
        have n61c : BSD s47 := by exact bsd3 hS47 g45_0
        have n61d : NS s47 ((Int32.ofInt 0)).toInt := by rw [show (Int32.ofInt 0).toInt = 0 from (by decide)]; exact ns3 hS47 g45_1
        have n61e : EXT s47 (y45_2).toInt (UU s47) := by exact ext3 hS47 (p47a.2 c50)
        have m61 : 40 - ((Int32.ofInt 0)).toInt < ((41 : Nat) : Int) := by (first | have a0 := oa5 j45_1 ro_109_20 j45_3 j45_2 ((in_c 0 rfl)) | ((first | have a0 := in_u j45_1 | (have a0 := j45_1; unfold In at a0)); (first | have a1 := in_u ro_109_20 | (have a1 := ro_109_20; unfold In at a1)); (first | have a2 := in_u j45_3 | (have a2 := j45_3; unfold In at a2)); (first | have a3 := in_u j45_2 | (have a3 := j45_2; unfold In at a3)); (first | have a4 := in_u ((in_c 0 rfl)) | (have a4 := (in_c 0 rfl); unfold In at a4)))); omega
        exact gg_w (by first | exact Nat.le_add_right _ _ | exact gw2 | exact gw3 | exact gwe rfl | exact gwf rfl | exact gwg rfl | exact gwh rfl | omega) (gg_f (gf_cons rfl (gf_cons rfl (gf_cons rfl (gf_cons rfl gf_nil)))) (ct61 41 s47 y45_2 (Int32.ofInt 0) hI47 (fr_tr rfl hFc45 hF47) (in_w 0 31 j45_1 rfl) (in_w 0 32 j45_2 rfl) (in_w 0 32 (in_c 0 rfl) rfl) n61 n61a n61b n61c n61d n61e m61))
      · skip
        have i50 := z_eq 0 0 c50 i47 rfl
        have hkn := clr_n g45_0 g45_1 p47a c50
        rw [hFc45.2.2.1 109 20 rfl, ← e_109_20] at hkn
        have hro := ro_109_20
        unfold In at hro
        refine g_iinc 56 (gd rfl) rfl rfl (Nat.le_of_ble_eq_true rfl) (fun z53 e53 => ?_)
        have i53 := in_add 1 33 e53 j45_2 (in_c 1 rfl) rfl rfl
        refine g_goto 45 (gd rfl) rfl ?_
        have i45 : In z53 0 32 := by exact ⟨by (first | have a0 := oa5 j45_1 ro_109_20 j45_3 j45_2 i53 | ((first | have a0 := in_u j45_1 | (have a0 := j45_1; unfold In at a0)); (first | have a1 := in_u ro_109_20 | (have a1 := ro_109_20; unfold In at a1)); (first | have a2 := in_u j45_3 | (have a2 := j45_3; unfold In at a2)); (first | have a3 := in_u j45_2 | (have a3 := j45_2; unfold In at a3)); (first | have a4 := in_u i53 | (have a4 := i53; unfold In at a4)))); have a5 := t_add e53 j45_2 (in_c 1 rfl) rfl; (first | have a6 := in_u ((in_c 1 rfl)) | (have a6 := (in_c 1 rfl); unfold In at a6)); omega, by (first | have a0 := oa5 j45_1 ro_109_20 j45_3 j45_2 i53 | ((first | have a0 := in_u j45_1 | (have a0 := j45_1; unfold In at a0)); (first | have a1 := in_u ro_109_20 | (have a1 := ro_109_20; unfold In at a1)); (first | have a2 := in_u j45_3 | (have a2 := j45_3; unfold In at a2)); (first | have a3 := in_u j45_2 | (have a3 := j45_2; unfold In at a3)); (first | have a4 := in_u i53 | (have a4 := i53; unfold In at a4)))); have a5 := t_add e53 j45_2 (in_c 1 rfl) rfl; (first | have a6 := in_u ((in_c 1 rfl)) | (have a6 := (in_c 1 rfl); unfold In at a6)); omega⟩
        have n45 : (x1).toInt < (u_109_20).toInt := by first | exact n45_0 | ((first | have a0 := oa5 j45_1 ro_109_20 j45_3 j45_2 i45 | ((first | have a0 := in_u j45_1 | (have a0 := j45_1; unfold In at a0)); (first | have a1 := in_u ro_109_20 | (have a1 := ro_109_20; unfold In at a1)); (first | have a2 := in_u j45_3 | (have a2 := j45_3; unfold In at a2)); (first | have a3 := in_u j45_2 | (have a3 := j45_2; unfold In at a3)); (first | have a4 := in_u i45 | (have a4 := i45; unfold In at a4)))); have a5 := t_add e53 j45_2 (in_c 1 rfl) rfl; (first | have a6 := in_u ((in_c 1 rfl)) | (have a6 := (in_c 1 rfl); unfold In at a6)); omega)
        have n45a : 0 ≤ (x1).toInt := by first | exact n45_1 | ((first | have a0 := oa5 j45_1 ro_109_20 j45_3 j45_2 i45 | ((first | have a0 := in_u j45_1 | (have a0 := j45_1; unfold In at a0)); (first | have a1 := in_u ro_109_20 | (have a1 := ro_109_20; unfold In at a1)); (first | have a2 := in_u j45_3 | (have a2 := j45_3; unfold In at a2)); (first | have a3 := in_u j45_2 | (have a3 := j45_2; unfold In at a3)); (first | have a4 := in_u i45 | (have a4 := i45; unfold In at a4)))); have a5 := t_add e53 j45_2 (in_c 1 rfl) rfl; (first | have a6 := in_u ((in_c 1 rfl)) | (have a6 := (in_c 1 rfl); unfold In at a6)); omega)
        have n45b : BSD s47 := by exact bsd3 hS47 g45_0
        have n45c : NS s47 0 := by exact ns3 hS47 g45_1
        have m45 : 32 - (z53).toInt < ((k45 : Nat) : Int) := by (first | have a0 := oa5 j45_1 ro_109_20 j45_3 j45_2 i45 | ((first | have a0 := in_u j45_1 | (have a0 := j45_1; unfold In at a0)); (first | have a1 := in_u ro_109_20 | (have a1 := ro_109_20; unfold In at a1)); (first | have a2 := in_u j45_3 | (have a2 := j45_3; unfold In at a2)); (first | have a3 := in_u j45_2 | (have a3 := j45_2; unfold In at a3)); (first | have a4 := in_u i45 | (have a4 := i45; unfold In at a4)))); have a5 := t_add e53 j45_2 (in_c 1 rfl) rfl; (first | have a6 := in_u ((in_c 1 rfl)) | (have a6 := (in_c 1 rfl); unfold In at a6)); omega
        exact gg_w (by first | exact Nat.le_add_right _ _ | exact gw2 | exact gw3 | exact gwe rfl | exact gwf rfl | exact gwg rfl | exact gwh rfl | omega) (gg_f (gf_cons rfl (gf_cons rfl (gf_cons rfl (gf_cons rfl gf_nil)))) (ih45  s47 z53 y45_3 hI47 (fr_tr rfl hFc45 hF47) (in_w 0 31 j45_1 rfl) i45 (in_w 0 32 j45_3 rfl) n45 n45a n45b n45c m45))
  have ct24 : ∀ (k24 : Nat) (sc24 : GS) (y24_2 : Int32) (y24_3 : Int32), Inv sc24 → Fr fm_347 s sc24 → (In x1 0 31) → (In y24_2 0 32) → (In y24_3 0 32) → ((x1).toInt < (u_109_20).toInt) → (0 ≤ (x1).toInt) → ((y24_3).toInt ≤ (u_109_20).toInt) → (BSD sc24) → (∀ u : Nat, (u : Int) < (y24_3).toInt → sc24.1 141 u = Int32.ofInt (-1)) → 32 - (y24_3).toInt < (k24 : Int) → GG Z (d - 1) 347 post (gx xp) (57227407 + k24 * 900) 24 (fun j => xlook j [(0, .ref (A 109)), (1, .int x1), (2, .int y24_2), (3, .int y24_3)]) [] (WW Z A sc24 ++ ex) 0 0 := by
    intro k24
    induction k24 with
    | zero => intro sc24 y24_2 y24_3 hIc24 hFc24 j24_1 j24_2 j24_3 n24_0 n24_1 n24_2 g24_0 g24_1 mm24; exact m_no mm24 j24_3 rfl
    | succ k24 ih24 =>
      intro sc24 y24_2 y24_3 hIc24 hFc24 j24_1 j24_2 j24_3 n24_0 n24_1 n24_2 g24_0 g24_1 mm24
      refine gg_w (M := 57227407 + k24 * 900 + 900) gws ?_
      refine g_iload_n 25 (gd rfl) rfl rfl ?_
      refine g_aload_n 26 (gd rfl) rfl rfl ?_
      refine g_getI 29 (gd rfl) rfl rfl rfl (fun z26 e26 => ?_)
      have q26 : u_109_20 = z26 := (fr_F e_109_20 hFc24 rfl).trans e26.symm
      subst q26
      refine g_cmp_ge 32 45 (gd rfl) rfl rfl (fun c29 => ?_) (fun c29 => ?_)
      · skip
        have n45 : (x1).toInt < (u_109_20).toInt := by first | exact n24_0 | ((first | have a0 := oa4 j24_1 ro_109_20 j24_3 j24_2 | ((first | have a0 := in_u j24_1 | (have a0 := j24_1; unfold In at a0)); (first | have a1 := in_u ro_109_20 | (have a1 := ro_109_20; unfold In at a1)); (first | have a2 := in_u j24_3 | (have a2 := j24_3; unfold In at a2)); (first | have a3 := in_u j24_2 | (have a3 := j24_2; unfold In at a3)))); omega)
        have n45a : 0 ≤ (x1).toInt := by first | exact n24_1 | ((first | have a0 := oa4 j24_1 ro_109_20 j24_3 j24_2 | ((first | have a0 := in_u j24_1 | (have a0 := j24_1; unfold In at a0)); (first | have a1 := in_u ro_109_20 | (have a1 := ro_109_20; unfold In at a1)); (first | have a2 := in_u j24_3 | (have a2 := j24_3; unfold In at a2)); (first | have a3 := in_u j24_2 | (have a3 := j24_2; unfold In at a3)))); omega)
        have n45b : BSD sc24 := by exact g24_0
        have n45c : NS sc24 0 := by exact ns_0 (by have h := g24_1; rw [show y24_3.toInt = (sc24.2.2.1 109 20).toInt from (by rw [hFc24.2.2.1 109 20 rfl, ← e_109_20]; (first | have a0 := oa4 j24_1 ro_109_20 j24_3 j24_2 | ((first | have a0 := in_u j24_1 | (have a0 := j24_1; unfold In at a0)); (first | have a1 := in_u ro_109_20 | (have a1 := ro_109_20; unfold In at a1)); (first | have a2 := in_u j24_3 | (have a2 := j24_3; unfold In at a2)); (first | have a3 := in_u j24_2 | (have a3 := j24_2; unfold In at a3)))); omega)] at h; exact h)
        have m45 : 32 - (y24_2).toInt < ((34 : Nat) : Int) := by (first | have a0 := oa4 j24_1 ro_109_20 j24_3 j24_2 | ((first | have a0 := in_u j24_1 | (have a0 := j24_1; unfold In at a0)); (first | have a1 := in_u ro_109_20 | (have a1 := ro_109_20; unfold In at a1)); (first | have a2 := in_u j24_3 | (have a2 := j24_3; unfold In at a2)); (first | have a3 := in_u j24_2 | (have a3 := j24_2; unfold In at a3)))); omega
        exact gg_w (by first | exact Nat.le_add_right _ _ | exact gw2 | exact gw3 | exact gwe rfl | exact gwf rfl | exact gwg rfl | exact gwh rfl | omega) (gg_f (gf_cons rfl (gf_cons rfl (gf_cons rfl (gf_cons rfl gf_nil)))) (ct45 34 sc24 y24_2 y24_3 hIc24 hFc24 (in_w 0 31 j24_1 rfl) (in_w 0 32 j24_2 rfl) (in_w 0 32 j24_3 rfl) n45 n45a n45b n45c m45))
      · skip
        have i29 := r_lt1 0 31 c29 j24_3 ro_109_20 rfl
        have i29a := r_lt2 1 32 c29 j24_3 ro_109_20 rfl
        refine g_aload_n 33 (gd rfl) rfl rfl ?_
        refine g_getA (q2 := 141) 36 (gd rfl) rfl rfl rfl rfl ?_
        refine g_iload_n 37 (gd rfl) rfl rfl ?_
        refine g_iconst (-1) 38 (gd rfl) rfl rfl ?_
        refine g_iastore 39 (gd rfl) rfl (n := 32) rfl (in_ix i29 rfl) ?_
        have hI38 := inv_sI (q := 141) (j := y24_3.toNatClampNeg) hIc24 rfl (in_w (-2147483648) 31 (in_c (-1) rfl) rfl)
        refine g_iinc 42 (gd rfl) rfl rfl (Nat.le_of_ble_eq_true rfl) (fun z39 e39 => ?_)
        have i39 := in_add 1 32 e39 i29 (in_c 1 rfl) rfl rfl
        refine g_goto 24 (gd rfl) rfl ?_
        have n24 : (x1).toInt < (u_109_20).toInt := by first | exact n24_0 | ((first | have a0 := oa5 j24_1 i29a i29 j24_2 i39 | ((first | have a0 := in_u j24_1 | (have a0 := j24_1; unfold In at a0)); (first | have a1 := in_u i29a | (have a1 := i29a; unfold In at a1)); (first | have a2 := in_u i29 | (have a2 := i29; unfold In at a2)); (first | have a3 := in_u j24_2 | (have a3 := j24_2; unfold In at a3)); (first | have a4 := in_u i39 | (have a4 := i39; unfold In at a4)))); have a5 := t_add e39 i29 (in_c 1 rfl) rfl; (first | have a6 := in_u ((in_c 1 rfl)) | (have a6 := (in_c 1 rfl); unfold In at a6)); omega)
        have n24a : 0 ≤ (x1).toInt := by first | exact n24_1 | ((first | have a0 := oa5 j24_1 i29a i29 j24_2 i39 | ((first | have a0 := in_u j24_1 | (have a0 := j24_1; unfold In at a0)); (first | have a1 := in_u i29a | (have a1 := i29a; unfold In at a1)); (first | have a2 := in_u i29 | (have a2 := i29; unfold In at a2)); (first | have a3 := in_u j24_2 | (have a3 := j24_2; unfold In at a3)); (first | have a4 := in_u i39 | (have a4 := i39; unfold In at a4)))); have a5 := t_add e39 i29 (in_c 1 rfl) rfl; (first | have a6 := in_u ((in_c 1 rfl)) | (have a6 := (in_c 1 rfl); unfold In at a6)); omega)
        have n24b : (z39).toInt ≤ (u_109_20).toInt := by (first | have a0 := oa5 j24_1 i29a i29 j24_2 i39 | ((first | have a0 := in_u j24_1 | (have a0 := j24_1; unfold In at a0)); (first | have a1 := in_u i29a | (have a1 := i29a; unfold In at a1)); (first | have a2 := in_u i29 | (have a2 := i29; unfold In at a2)); (first | have a3 := in_u j24_2 | (have a3 := j24_2; unfold In at a3)); (first | have a4 := in_u i39 | (have a4 := i39; unfold In at a4)))); have a5 := t_add e39 i29 (in_c 1 rfl) rfl; (first | have a6 := in_u ((in_c 1 rfl)) | (have a6 := (in_c 1 rfl); unfold In at a6)); omega
        have n24c : BSD (sI sc24 141 y24_3.toNatClampNeg (Int32.ofInt (-1))) := by exact bsd_I rfl g24_0
        have n24d : ∀ u : Nat, (u : Int) < (z39).toInt → (sI sc24 141 y24_3.toNatClampNeg (Int32.ofInt (-1))).1 141 u = Int32.ofInt (-1) := by exact st_s g24_1 (by (first | have a0 := oa5 j24_1 i29a i29 j24_2 i39 | ((first | have a0 := in_u j24_1 | (have a0 := j24_1; unfold In at a0)); (first | have a1 := in_u i29a | (have a1 := i29a; unfold In at a1)); (first | have a2 := in_u i29 | (have a2 := i29; unfold In at a2)); (first | have a3 := in_u j24_2 | (have a3 := j24_2; unfold In at a3)); (first | have a4 := in_u i39 | (have a4 := i39; unfold In at a4)))); have a5 := t_add e39 i29 (in_c 1 rfl) rfl; (first | have a6 := in_u ((in_c 1 rfl)) | (have a6 := (in_c 1 rfl); unfold In at a6)); omega) (by (first | have a0 := oa5 j24_1 i29a i29 j24_2 i39 | ((first | have a0 := in_u j24_1 | (have a0 := j24_1; unfold In at a0)); (first | have a1 := in_u i29a | (have a1 := i29a; unfold In at a1)); (first | have a2 := in_u i29 | (have a2 := i29; unfold In at a2)); (first | have a3 := in_u j24_2 | (have a3 := j24_2; unfold In at a3)); (first | have a4 := in_u i39 | (have a4 := i39; unfold In at a4)))); have a5 := t_add e39 i29 (in_c 1 rfl) rfl; (first | have a6 := in_u ((in_c 1 rfl)) | (have a6 := (in_c 1 rfl); unfold In at a6)); omega)
        exact gg_w (by first | exact Nat.le_add_right _ _ | exact gw2 | exact gw3 | exact gwe rfl | exact gwf rfl | exact gwg rfl | exact gwh rfl | omega) (gg_f (gf_cons rfl (gf_cons rfl (gf_cons rfl (gf_cons rfl gf_nil)))) (ih24 (sI sc24 141 y24_3.toNatClampNeg (Int32.ofInt (-1))) y24_2 z39 hI38 (fr_sI rfl hFc24) (in_w 0 31 j24_1 rfl) (in_w 0 32 j24_2 rfl) (in_w 0 32 i39 rfl) n24 n24a n24b n24c n24d (m_up mm24 (t_add e39 i29 (in_c 1 rfl) rfl) (in_w 1 1 (in_c 1 rfl) rfl))))
  refine g_enter2 (k := 347) (N := 57258007) (by first | exact dq1 hd rfl | exact dq0 hd rfl | exact dq2 hd rfl | exact dq3 hd rfl | omega) rfl (Nat.le_of_ble_eq_true rfl) ?_
  refine g_aload_n 1 (gd rfl) rfl rfl ?_
  refine g_aload_n 2 (gd rfl) rfl rfl ?_
  refine g_iload_n 3 (gd rfl) rfl rfl ?_
  refine g_callv (X := _) (As := [.int x1]) (r := [.ref (A 109)]) (b := A 109) (q := 109) 6 (gd rfl) rfl rfl rfl rfl rfl (ww_o rfl) (Nat.le_of_ble_eq_true rfl) (mc := 0) (ms := 0) (Nat.zero_le _) (Nat.zero_le _) (P := fun v u => _) ?_ (fun e u h => h) (fun v u h => h)
  intro po3 xx3 hp3 hx3
  refine g_enter2 (k := 272) (N := 300) (by first | exact dq1 hd rfl | exact dq0 hd rfl | exact dq2 hd rfl | exact dq3 hd rfl | omega) rfl (Nat.le_of_ble_eq_true rfl) ?_
  refine g_iload_n 1 (gd rfl) rfl rfl ?_
  refine g_if_lt 4 16 (gd rfl) rfl rfl (fun c3x1 => ?_) (fun c3x1 => ?_)
  · skip
    have i3x1 := z_lt (-2147483648) (-1) c3x1 (i_rng x1) rfl
    refine g_iconst 0 17 (gd rfl) rfl rfl ?_
    refine g_ireturn (gd rfl) rfl (nb01 (in_w 0 1 (in_c 0 rfl) rfl)) (hp3 _ _ ?_)
    show GG _ _ _ _ _ _ _ _ [.int (Int32.ofInt 0), .ref (A 109)] _ _ _
    refine g_callv (X := _) (As := [.int (Int32.ofInt 0)]) (r := []) (b := A 109) (q := 109) 9 (gd rfl) rfl rfl rfl rfl rfl (ww_o rfl) (Nat.le_of_ble_eq_true rfl) (mc := 0) (ms := 0) (Nat.zero_le _) (Nat.zero_le _) (P := fun v u => _) ?_ (fun e u h => h) (fun v u h => h)
    intro po6 xx6 hp6 hx6
    refine g_enter2 (k := 271) (N := 300) (by first | exact dq1 hd rfl | exact dq0 hd rfl | exact dq2 hd rfl | exact dq3 hd rfl | omega) rfl (Nat.le_of_ble_eq_true rfl) ?_
    refine g_aload_n 1 (gd rfl) rfl rfl ?_
    refine g_iload_n 2 (gd rfl) rfl rfl ?_
    refine g_iconst 1 3 (gd rfl) rfl rfl ?_
    refine g_callv (X := _) (As := [.int (Int32.ofInt 0), .int (Int32.ofInt 1)]) (r := []) (b := A 109) (q := 109) 6 (gd rfl) rfl rfl rfl rfl rfl (ww_o rfl) (Nat.le_of_ble_eq_true rfl) (mc := 0) (ms := 0) (Nat.zero_le _) (Nat.zero_le _) (P := fun v u => _) ?_ (fun e u h => h) (fun v u h => h)
    intro po6x3 xx6x3 hp6x3 hx6x3
    refine g_enter2 (k := 270) (N := 300) (by first | exact dq1 hd rfl | exact dq0 hd rfl | exact dq2 hd rfl | exact dq3 hd rfl | omega) rfl (Nat.le_of_ble_eq_true rfl) ?_
    refine g_aload_n 1 (gd rfl) rfl rfl ?_
    refine g_iload_n 2 (gd rfl) rfl rfl ?_
    refine g_if_ne 5 9 (gd rfl) rfl rfl (fun c6x3x2 => ?_) (fun c6x3x2 => ?_)
    · skip
      exact zn_ne c6x3x2 (in_c 0 rfl) rfl
    · skip
      refine g_iconst 1 6 (gd rfl) rfl rfl ?_
      refine g_goto 18 (gd rfl) rfl ?_
      refine g_putI 21 (gd rfl) rfl rfl rfl rfl ?_
      have hI6x3x18 := inv_sF (q := 109) (j := 0) hI rfl (in_w 0 2 (in_c 1 rfl) rfl)
      refine g_aload_n 22 (gd rfl) rfl rfl ?_
      refine g_getI 25 (gd rfl) rfl rfl rfl (fun z6x3x22 e6x3x22 => ?_)
      have q6x3x22 : (Int32.ofInt 1) = z6x3x22 := (sF_get).trans e6x3x22.symm
      subst q6x3x22
      refine g_if_le 28 32 (gd rfl) rfl rfl (fun c6x3x25 => ?_) (fun c6x3x25 => ?_)
      · skip
        exact zn_le c6x3x25 (in_c 1 rfl) rfl
      · skip
        refine g_iconst 1 29 (gd rfl) rfl rfl ?_
        refine g_goto 33 (gd rfl) rfl ?_
        refine g_ireturn (gd rfl) rfl (nb01 (in_w 0 1 (in_c 1 rfl) rfl)) (hp6x3 _ _ ?_)
        show GG _ _ _ _ _ _ _ _ [.int (Int32.ofInt 1)] _ _ _
        refine g_ireturn (gd rfl) rfl (nb01 (in_w 0 1 (in_c 1 rfl) rfl)) (hp6 _ _ ?_)
        show GG _ _ _ _ _ _ _ _ [.int (Int32.ofInt 1)] _ _ _
        refine g_if_eq 12 14 (gd rfl) rfl rfl (fun c9 => ?_) (fun c9 => ?_)
        · skip
          exact zn_eq c9 (in_c 1 rfl) rfl
        · skip
          refine g_iconst 0 13 (gd rfl) rfl rfl ?_
          exact g_ireturn (gd rfl) rfl rfl (hP _ _ ⟨(sF s 109 0 (Int32.ofInt 1)), hI6x3x18, (fr_sF rfl fr_rf), (Int32.ofInt 0), rfl, rfl, in_w (-2147483648) 31 (in_c 0 rfl) rfl⟩)
  · skip
    have i3x1 := z_ge 0 2147483647 c3x1 (i_rng x1) rfl
    refine g_iload_n 5 (gd rfl) rfl rfl ?_
    refine g_aload_n 6 (gd rfl) rfl rfl ?_
    refine g_getI 9 (gd rfl) rfl rfl rfl (fun z3x6 e3x6 => ?_)
    have q3x6 : u_109_20 = z3x6 := (e_109_20).trans e3x6.symm
    subst q3x6
    refine g_cmp_ge 12 16 (gd rfl) rfl rfl (fun c3x9 => ?_) (fun c3x9 => ?_)
    · skip
      refine g_iconst 0 17 (gd rfl) rfl rfl ?_
      refine g_ireturn (gd rfl) rfl (nb01 (in_w 0 1 (in_c 0 rfl) rfl)) (hp3 _ _ ?_)
      show GG _ _ _ _ _ _ _ _ [.int (Int32.ofInt 0), .ref (A 109)] _ _ _
      refine g_callv (X := _) (As := [.int (Int32.ofInt 0)]) (r := []) (b := A 109) (q := 109) 9 (gd rfl) rfl rfl rfl rfl rfl (ww_o rfl) (Nat.le_of_ble_eq_true rfl) (mc := 0) (ms := 0) (Nat.zero_le _) (Nat.zero_le _) (P := fun v u => _) ?_ (fun e u h => h) (fun v u h => h)
      intro po6 xx6 hp6 hx6
      refine g_enter2 (k := 271) (N := 300) (by first | exact dq1 hd rfl | exact dq0 hd rfl | exact dq2 hd rfl | exact dq3 hd rfl | omega) rfl (Nat.le_of_ble_eq_true rfl) ?_
      refine g_aload_n 1 (gd rfl) rfl rfl ?_
      refine g_iload_n 2 (gd rfl) rfl rfl ?_
      refine g_iconst 1 3 (gd rfl) rfl rfl ?_
      refine g_callv (X := _) (As := [.int (Int32.ofInt 0), .int (Int32.ofInt 1)]) (r := []) (b := A 109) (q := 109) 6 (gd rfl) rfl rfl rfl rfl rfl (ww_o rfl) (Nat.le_of_ble_eq_true rfl) (mc := 0) (ms := 0) (Nat.zero_le _) (Nat.zero_le _) (P := fun v u => _) ?_ (fun e u h => h) (fun v u h => h)
      intro po6x3 xx6x3 hp6x3 hx6x3
      refine g_enter2 (k := 270) (N := 300) (by first | exact dq1 hd rfl | exact dq0 hd rfl | exact dq2 hd rfl | exact dq3 hd rfl | omega) rfl (Nat.le_of_ble_eq_true rfl) ?_
      refine g_aload_n 1 (gd rfl) rfl rfl ?_
      refine g_iload_n 2 (gd rfl) rfl rfl ?_
      refine g_if_ne 5 9 (gd rfl) rfl rfl (fun c6x3x2 => ?_) (fun c6x3x2 => ?_)
      · skip
        exact zn_ne c6x3x2 (in_c 0 rfl) rfl
      · skip
        refine g_iconst 1 6 (gd rfl) rfl rfl ?_
        refine g_goto 18 (gd rfl) rfl ?_
        refine g_putI 21 (gd rfl) rfl rfl rfl rfl ?_
        have hI6x3x18 := inv_sF (q := 109) (j := 0) hI rfl (in_w 0 2 (in_c 1 rfl) rfl)
        refine g_aload_n 22 (gd rfl) rfl rfl ?_
        refine g_getI 25 (gd rfl) rfl rfl rfl (fun z6x3x22 e6x3x22 => ?_)
        have q6x3x22 : (Int32.ofInt 1) = z6x3x22 := (sF_get).trans e6x3x22.symm
        subst q6x3x22
        refine g_if_le 28 32 (gd rfl) rfl rfl (fun c6x3x25 => ?_) (fun c6x3x25 => ?_)
        · skip
          exact zn_le c6x3x25 (in_c 1 rfl) rfl
        · skip
          refine g_iconst 1 29 (gd rfl) rfl rfl ?_
          refine g_goto 33 (gd rfl) rfl ?_
          refine g_ireturn (gd rfl) rfl (nb01 (in_w 0 1 (in_c 1 rfl) rfl)) (hp6x3 _ _ ?_)
          show GG _ _ _ _ _ _ _ _ [.int (Int32.ofInt 1)] _ _ _
          refine g_ireturn (gd rfl) rfl (nb01 (in_w 0 1 (in_c 1 rfl) rfl)) (hp6 _ _ ?_)
          show GG _ _ _ _ _ _ _ _ [.int (Int32.ofInt 1)] _ _ _
          refine g_if_eq 12 14 (gd rfl) rfl rfl (fun c9 => ?_) (fun c9 => ?_)
          · skip
            exact zn_eq c9 (in_c 1 rfl) rfl
          · skip
            refine g_iconst 0 13 (gd rfl) rfl rfl ?_
            exact g_ireturn (gd rfl) rfl rfl (hP _ _ ⟨(sF s 109 0 (Int32.ofInt 1)), hI6x3x18, (fr_sF rfl fr_rf), (Int32.ofInt 0), rfl, rfl, in_w (-2147483648) 31 (in_c 0 rfl) rfl⟩)
    · skip
      have i3x9 := r_lt1 0 31 c3x9 i3x1 ro_109_20 rfl
      have i3x9a := r_lt2 1 32 c3x9 i3x1 ro_109_20 rfl
      refine g_iconst 1 13 (gd rfl) rfl rfl ?_
      refine g_goto 17 (gd rfl) rfl ?_
      refine g_ireturn (gd rfl) rfl (nb01 (in_w 0 1 (in_c 1 rfl) rfl)) (hp3 _ _ ?_)
      show GG _ _ _ _ _ _ _ _ [.int (Int32.ofInt 1), .ref (A 109)] _ _ _
      refine g_callv (X := _) (As := [.int (Int32.ofInt 1)]) (r := []) (b := A 109) (q := 109) 9 (gd rfl) rfl rfl rfl rfl rfl (ww_o rfl) (Nat.le_of_ble_eq_true rfl) (mc := 0) (ms := 0) (Nat.zero_le _) (Nat.zero_le _) (P := fun v u => _) ?_ (fun e u h => h) (fun v u h => h)
      intro po6 xx6 hp6 hx6
      refine g_enter2 (k := 271) (N := 300) (by first | exact dq1 hd rfl | exact dq0 hd rfl | exact dq2 hd rfl | exact dq3 hd rfl | omega) rfl (Nat.le_of_ble_eq_true rfl) ?_
      refine g_aload_n 1 (gd rfl) rfl rfl ?_
      refine g_iload_n 2 (gd rfl) rfl rfl ?_
      refine g_iconst 1 3 (gd rfl) rfl rfl ?_
      refine g_callv (X := _) (As := [.int (Int32.ofInt 1), .int (Int32.ofInt 1)]) (r := []) (b := A 109) (q := 109) 6 (gd rfl) rfl rfl rfl rfl rfl (ww_o rfl) (Nat.le_of_ble_eq_true rfl) (mc := 0) (ms := 0) (Nat.zero_le _) (Nat.zero_le _) (P := fun v u => _) ?_ (fun e u h => h) (fun v u h => h)
      intro po6x3 xx6x3 hp6x3 hx6x3
      refine g_enter2 (k := 270) (N := 300) (by first | exact dq1 hd rfl | exact dq0 hd rfl | exact dq2 hd rfl | exact dq3 hd rfl | omega) rfl (Nat.le_of_ble_eq_true rfl) ?_
      refine g_aload_n 1 (gd rfl) rfl rfl ?_
      refine g_iload_n 2 (gd rfl) rfl rfl ?_
      refine g_if_ne 5 9 (gd rfl) rfl rfl (fun c6x3x2 => ?_) (fun c6x3x2 => ?_)
      · skip
        refine g_iload_n 10 (gd rfl) rfl rfl ?_
        refine g_if_ne 13 17 (gd rfl) rfl rfl (fun c6x3x10 => ?_) (fun c6x3x10 => ?_)
        · skip
          refine g_iconst 0 18 (gd rfl) rfl rfl ?_
          refine g_putI 21 (gd rfl) rfl rfl rfl rfl ?_
          have hI6x3x18 := inv_sF (q := 109) (j := 0) hI rfl (in_w 0 2 (in_c 0 rfl) rfl)
          refine g_aload_n 22 (gd rfl) rfl rfl ?_
          refine g_getI 25 (gd rfl) rfl rfl rfl (fun z6x3x22 e6x3x22 => ?_)
          have q6x3x22 : (Int32.ofInt 0) = z6x3x22 := (sF_get).trans e6x3x22.symm
          subst q6x3x22
          refine g_if_le 28 32 (gd rfl) rfl rfl (fun c6x3x25 => ?_) (fun c6x3x25 => ?_)
          · skip
            refine g_iconst 0 33 (gd rfl) rfl rfl ?_
            refine g_ireturn (gd rfl) rfl (nb01 (in_w 0 1 (in_c 0 rfl) rfl)) (hp6x3 _ _ ?_)
            show GG _ _ _ _ _ _ _ _ [.int (Int32.ofInt 0)] _ _ _
            refine g_ireturn (gd rfl) rfl (nb01 (in_w 0 1 (in_c 0 rfl) rfl)) (hp6 _ _ ?_)
            show GG _ _ _ _ _ _ _ _ [.int (Int32.ofInt 0)] _ _ _
            refine g_if_eq 12 14 (gd rfl) rfl rfl (fun c9 => ?_) (fun c9 => ?_)
            · skip
              refine g_aload_n 15 (gd rfl) rfl rfl ?_
              refine g_callv (X := _) (As := []) (r := []) (b := A 109) (q := 109) 18 (gd rfl) rfl rfl rfl rfl rfl (ww_o rfl) (Nat.le_of_ble_eq_true rfl) (Nat.zero_le _) (Nat.zero_le _) (k_337 (by first | exact dq1 hd rfl | exact dq0 hd rfl | exact dq2 hd rfl | exact dq3 hd rfl | omega) hI6x3x18 ) (fun e u h => h) (fun v u h => ?_)
              obtain ⟨s15, hI15, hF15, z15, rfl, rfl, i15, p15⟩ := h
              show GG _ _ _ _ _ _ _ _ [.int z15] _ _ _
              refine g_calls (As := [.int z15]) (r := []) 21 (gd rfl) rfl rfl rfl rfl rfl (Nat.le_of_ble_eq_true rfl) (Nat.zero_le _) (Nat.zero_le _) (k_336 (by first | exact dq1 hd rfl | exact dq0 hd rfl | exact dq2 hd rfl | exact dq3 hd rfl | omega) hI15 ) (fun v u h => ?_)
              obtain ⟨z18, rfl, rfl, i18, p18⟩ := h
              show GG _ _ _ _ _ _ _ _ [.int z18] _ _ _
              refine g_istore_n 22 (gd rfl) rfl (Nat.le_of_ble_eq_true rfl) ?_
              refine g_iconst 0 23 (gd rfl) rfl rfl ?_
              refine g_istore_n 24 (gd rfl) rfl (Nat.le_of_ble_eq_true rfl) ?_
              have n24 : (x1).toInt < (u_109_20).toInt := by (first | have a0 := oa4 i3x9 i3x9a ((in_c 0 rfl)) i18 | ((first | have a0 := in_u i3x9 | (have a0 := i3x9; unfold In at a0)); (first | have a1 := in_u i3x9a | (have a1 := i3x9a; unfold In at a1)); (first | have a2 := in_u ((in_c 0 rfl)) | (have a2 := (in_c 0 rfl); unfold In at a2)); (first | have a3 := in_u i18 | (have a3 := i18; unfold In at a3)))); omega
              have n24a : 0 ≤ (x1).toInt := by (first | have a0 := oa4 i3x9 i3x9a ((in_c 0 rfl)) i18 | ((first | have a0 := in_u i3x9 | (have a0 := i3x9; unfold In at a0)); (first | have a1 := in_u i3x9a | (have a1 := i3x9a; unfold In at a1)); (first | have a2 := in_u ((in_c 0 rfl)) | (have a2 := (in_c 0 rfl); unfold In at a2)); (first | have a3 := in_u i18 | (have a3 := i18; unfold In at a3)))); omega
              have n24b : ((Int32.ofInt 0)).toInt ≤ (u_109_20).toInt := by (first | have a0 := oa4 i3x9 i3x9a ((in_c 0 rfl)) i18 | ((first | have a0 := in_u i3x9 | (have a0 := i3x9; unfold In at a0)); (first | have a1 := in_u i3x9a | (have a1 := i3x9a; unfold In at a1)); (first | have a2 := in_u ((in_c 0 rfl)) | (have a2 := (in_c 0 rfl); unfold In at a2)); (first | have a3 := in_u i18 | (have a3 := i18; unfold In at a3)))); omega
              have n24c : BSD s15 := by exact p15
              have n24d : ∀ u : Nat, (u : Int) < ((Int32.ofInt 0)).toInt → s15.1 141 u = Int32.ofInt (-1) := by exact st_0
              exact gg_w (by first | exact Nat.le_of_ble_eq_true rfl | omega) (gg_f (gf_cons rfl (gf_cons rfl (gf_cons rfl (gf_cons rfl gf_nil)))) (ct24 33 s15 z18 (Int32.ofInt 0) hI15 (fr_tr rfl (fr_sF rfl fr_rf) hF15) (in_w 0 31 i3x9 rfl) (in_w 0 32 i18 rfl) (in_w 0 32 (in_c 0 rfl) rfl) n24 n24a n24b n24c n24d (m_in 33 (in_w 0 32 (in_c 0 rfl) rfl) rfl)))
            · skip
              exact zn_ne c9 (in_c 0 rfl) rfl
          · skip
            exact zn_gt c6x3x25 (in_c 0 rfl) rfl
        · skip
          exact zn_eq c6x3x10 (in_c 1 rfl) rfl
      · skip
        exact zn_eq c6x3x2 (in_c 1 rfl) rfl
end
section
/-! methods, by vc.py -/
def fm_42_60_9 : FM := ([], [], [(60, 1)], [])
/-- GraphHouse$Colours.growClique -/
theorem k_42_60_9_r {Z : AmZ} {A : Nat → Nat} {ex : va_W} (kk : Nat) : ∀ {s : GS} {d : Nat} {X : AmX} {x2 : Int32} {x3 : Int32} {x4 : Int32}, 5 + kk * 3 ≤ d → Inv s → In x4 0 32 → 32 - (x4).toInt < (kk : Int) → GC Z d 42 [.ref (A 60), .ref (A 9), .int x2, .int x3, .int x4] (WW Z A s ++ ex) 0 0 (fun v u => ∃ t : GS, Inv t ∧ Fr fm_42_60_9 s t ∧ v = none ∧ u = WW Z A t ++ ex) X := by
  induction kk with
  | zero => intro s d X x2 x3 x4 hd hI h4 hm; exact m_no hm h4 rfl
  | succ kk ih =>
    intro s d X x2 x3 x4 hd hI h4 hm
    intro post xp hP hX
    have ct34 : ∀ (k34 : Nat) (sc34 : GS) (y34_5 : Int32) (y34_6 : Int32), Inv sc34 → Fr fm_42_60_9 s sc34 → (In x4 0 31) → (In y34_5 0 32) → ((y34_6.toBitVec.toNat : Nat) : Int) < (k34 : Int) → GG Z (d - 1) 42 post (gx xp) (1 + k34 * 900) 34 (fun j => xlook j [(0, .ref (A 60)), (1, .ref (A 9)), (2, .int x2), (3, .int x3), (4, .int x4), (5, .int y34_5), (6, .int y34_6)]) [] (WW Z A sc34 ++ ex) 0 0 := by
      intro k34
      induction k34 with
      | zero => intro sc34 y34_5 y34_6 hIc34 hFc34 j34_4 j34_5 mm34; exact absurd mm34 (Int.not_lt.mpr (Int.natCast_nonneg _))
      | succ k34 ih34 =>
        intro sc34 y34_5 y34_6 hIc34 hFc34 j34_4 j34_5 mm34
        refine gg_w (M := 1 + k34 * 900 + 900) gws ?_
        refine g_iload 36 (gd rfl) rfl rfl ?_
        refine g_if_eq 39 99 (gd rfl) rfl rfl (fun c36 => ?_) (fun c36 => ?_)
        · skip
          have i36 := z_eq 0 0 c36 (i_rng y34_6) rfl
          exact g_return (gd rfl) rfl (hP _ _ ⟨sc34, hIc34, hFc34, rfl, rfl⟩)
        · skip
          refine g_iload 41 (gd rfl) rfl rfl ?_
          refine g_iload 43 (gd rfl) rfl rfl ?_
          refine g_calls (As := [.int y34_6]) (r := [.int y34_5]) 46 (gd rfl) rfl rfl rfl rfl rfl (Nat.le_of_ble_eq_true rfl) (Nat.zero_le _) (Nat.zero_le _) (k_414b (by first | exact dq1 hd rfl | exact dq0 hd rfl | exact dq2 hd rfl | exact dq3 hd rfl | omega) hIc34 ) (fun v u h => ?_)
          obtain ⟨z43, rfl, rfl, i43⟩ := h
          show GG _ _ _ _ _ _ _ _ [.int z43, .int y34_5] _ _ _
          refine g_iadd 47 (gd rfl) rfl (fun z46 e46 => ?_)
          have i46 := in_add 0 64 e46 j34_5 i43 rfl rfl
          refine g_aload_n 48 (gd rfl) rfl rfl ?_
          refine g_getI 51 (gd rfl) rfl rfl rfl (fun z48 e48 => ?_)
          refine g_calls (As := [.int z48]) (r := [.int z46]) 54 (gd rfl) rfl rfl rfl rfl rfl (Nat.le_of_ble_eq_true rfl) (Nat.zero_le _) (Nat.zero_le _) (k_414b (by first | exact dq1 hd rfl | exact dq0 hd rfl | exact dq2 hd rfl | exact dq3 hd rfl | omega) hIc34 ) (fun v u h => ?_)
          obtain ⟨z51, rfl, rfl, i51⟩ := h
          show GG _ _ _ _ _ _ _ _ [.int z51, .int z46] _ _ _
          refine g_cmp_gt 57 58 (gd rfl) rfl rfl (fun c54 => ?_) (fun c54 => ?_)
          · skip
            have i54 := r_lt2 1 64 c54 i51 i46 rfl
            refine g_iload 60 (gd rfl) rfl rfl ?_
            refine g_calls (As := [.int y34_6]) (r := []) 63 (gd rfl) rfl rfl rfl rfl rfl (Nat.le_of_ble_eq_true rfl) (Nat.zero_le _) (Nat.zero_le _) (k_264n (by first | exact dq1 hd rfl | exact dq0 hd rfl | exact dq2 hd rfl | exact dq3 hd rfl | omega) c36) (fun v u h => ?_)
            obtain ⟨z60, rfl, rfl, i60, hb60, hl60⟩ := h
            show GG _ _ _ _ _ _ _ _ [.int z60] _ _ _
            refine g_istore 65 (gd rfl) rfl (Nat.le_of_ble_eq_true rfl) ?_
            refine g_aload_n 66 (gd rfl) rfl rfl ?_
            refine g_aload_n 67 (gd rfl) rfl rfl ?_
            refine g_iload_n 68 (gd rfl) rfl rfl ?_
            refine g_iconst 1 69 (gd rfl) rfl rfl ?_
            refine g_iload 71 (gd rfl) rfl rfl ?_
            refine g_ishl 72 (gd rfl) rfl (fun z71 e71 => ?_)
            refine g_ior 73 (gd rfl) rfl (fun z72 e72 => ?_)
            refine g_iload 75 (gd rfl) rfl rfl ?_
            refine g_aload_n 76 (gd rfl) rfl rfl ?_
            refine g_iload 78 (gd rfl) rfl rfl ?_
            refine g_iaload 79 (gd rfl) rfl (n := 32) rfl (in_ix i60 rfl) (fun z78 e78 => ?_)
            refine g_iand 80 (gd rfl) rfl (fun z79 e79 => ?_)
            refine g_iload 82 (gd rfl) rfl rfl ?_
            refine g_iconst 1 83 (gd rfl) rfl rfl ?_
            refine g_iadd 84 (gd rfl) rfl (fun z83 e83 => ?_)
            have i83 := in_add 1 32 e83 j34_4 (in_c 1 rfl) rfl rfl
            have n84 : 32 - (z83).toInt < ((kk : Nat) : Int) := by (first | have a0 := oa4 j34_4 j34_5 i60 i83 | ((first | have a0 := in_u j34_4 | (have a0 := j34_4; unfold In at a0)); (first | have a1 := in_u j34_5 | (have a1 := j34_5; unfold In at a1)); (first | have a2 := in_u i60 | (have a2 := i60; unfold In at a2)); (first | have a3 := in_u i83 | (have a3 := i83; unfold In at a3)))); have a4 := t_add e83 j34_4 (in_c 1 rfl) rfl; (first | have a5 := oa2 ((in_c 1 rfl)) i54 | ((first | have a5 := in_u ((in_c 1 rfl)) | (have a5 := (in_c 1 rfl); unfold In at a5)); (first | have a6 := in_u i54 | (have a6 := i54; unfold In at a6)))); have a7 := t_add e46 j34_5 i43 rfl; (first | have a8 := in_u i43 | (have a8 := i43; unfold In at a8)); omega
            refine g_callv (X := _) (As := [.ref (A 9), .int z72, .int z79, .int z83]) (r := []) (b := A 60) (q := 60) 87 (gd rfl) rfl rfl rfl rfl rfl (ww_o rfl) (Nat.le_of_ble_eq_true rfl) (Nat.zero_le _) (Nat.zero_le _) (ih (by omega) hIc34 (in_w 0 32 i83 rfl) n84) (fun e u h => h) (fun v u h => ?_)
            obtain ⟨s84, hI84, hF84, rfl, rfl⟩ := h
            show GG _ _ _ _ _ _ _ _ [] _ _ _
            refine g_iload 89 (gd rfl) rfl rfl ?_
            refine g_iload 91 (gd rfl) rfl rfl ?_
            refine g_iconst 1 92 (gd rfl) rfl rfl ?_
            refine g_isub 93 (gd rfl) rfl (fun z92 e92 => ?_)
            refine g_iand 94 (gd rfl) rfl (fun z93 e93 => ?_)
            refine g_istore 96 (gd rfl) rfl (Nat.le_of_ble_eq_true rfl) ?_
            refine g_goto 34 (gd rfl) rfl ?_
            exact gg_w (by first | exact Nat.le_add_right _ _ | exact gw2 | exact gw3 | exact gwe rfl | exact gwf rfl | exact gwg rfl | exact gwh rfl | omega) (gg_f (gf_cons rfl (gf_cons rfl (gf_cons rfl (gf_cons rfl (gf_cons rfl (gf_cons rfl (gf_cons rfl gf_nil))))))) (ih34 s84 y34_5 z93 hI84 (fr_tr rfl hFc34 hF84) (in_w 0 31 j34_4 rfl) (in_w 0 32 j34_5 rfl) (mb e93 e92 c36 mm34)))
          · skip
            have i54 := r_le1 0 32 c54 i46 i51 rfl
            exact g_return (gd rfl) rfl (hP _ _ ⟨sc34, hIc34, hFc34, rfl, rfl⟩)
    refine g_enter2 (k := 42) (N := 3865470567301) (by first | exact dq1 hd rfl | exact dq0 hd rfl | exact dq2 hd rfl | exact dq3 hd rfl | omega) rfl (Nat.le_of_ble_eq_true rfl) ?_
    refine g_iload_n 1 (gd rfl) rfl rfl ?_
    refine g_calls (As := [.int x2]) (r := []) 4 (gd rfl) rfl rfl rfl rfl rfl (Nat.le_of_ble_eq_true rfl) (Nat.zero_le _) (Nat.zero_le _) (k_414b (by first | exact dq1 hd rfl | exact dq0 hd rfl | exact dq2 hd rfl | exact dq3 hd rfl | omega) hI ) (fun v u h => ?_)
    obtain ⟨z1, rfl, rfl, i1⟩ := h
    show GG _ _ _ _ _ _ _ _ [.int z1] _ _ _
    refine g_istore 6 (gd rfl) rfl (Nat.le_of_ble_eq_true rfl) ?_
    refine g_iload 8 (gd rfl) rfl rfl ?_
    refine g_aload_n 9 (gd rfl) rfl rfl ?_
    refine g_getI 12 (gd rfl) rfl rfl rfl (fun z9 e9 => ?_)
    refine g_calls (As := [.int z9]) (r := [.int z1]) 15 (gd rfl) rfl rfl rfl rfl rfl (Nat.le_of_ble_eq_true rfl) (Nat.zero_le _) (Nat.zero_le _) (k_414b (by first | exact dq1 hd rfl | exact dq0 hd rfl | exact dq2 hd rfl | exact dq3 hd rfl | omega) hI ) (fun v u h => ?_)
    obtain ⟨z12, rfl, rfl, i12⟩ := h
    show GG _ _ _ _ _ _ _ _ [.int z12, .int z1] _ _ _
    refine g_cmp_le 18 23 (gd rfl) rfl rfl (fun c15 => ?_) (fun c15 => ?_)
    · skip
      refine g_iload 25 (gd rfl) rfl rfl ?_
      refine g_bipush 32 27 (gd rfl) rfl rfl ?_
      refine g_cmp_lt 30 31 (gd rfl) rfl rfl (fun c27 => ?_) (fun c27 => ?_)
      · skip
        have i27 := r_lt1 0 31 c27 h4 (in_c 32 rfl) rfl
        refine g_iload_n 32 (gd rfl) rfl rfl ?_
        refine g_istore 34 (gd rfl) rfl (Nat.le_of_ble_eq_true rfl) ?_
        exact gg_w (by first | exact Nat.le_of_ble_eq_true rfl | omega) (gg_f (gf_cons rfl (gf_cons rfl (gf_cons rfl (gf_cons rfl (gf_cons rfl (gf_cons rfl (gf_cons rfl gf_nil))))))) (ct34 4294967296 s z1 x3 hI fr_rf (in_w 0 31 i27 rfl) (in_w 0 32 i1 rfl) (mb_in _)))
      · skip
        have i27 := r_le2 32 32 c27 (in_c 32 rfl) h4 rfl
        exact g_return (gd rfl) rfl (hP _ _ ⟨s, hI, fr_rf, rfl, rfl⟩)
    · skip
      have i15 := r_lt1 0 31 c15 i12 i1 rfl
      have i15a := r_lt2 1 32 c15 i12 i1 rfl
      refine g_aload_n 19 (gd rfl) rfl rfl ?_
      refine g_iload_n 20 (gd rfl) rfl rfl ?_
      refine g_putI 23 (gd rfl) rfl rfl rfl rfl ?_
      have hI20 := inv_sF (q := 60) (j := 1) hI rfl (in_w (-2147483648) 2147483647 (i_rng x2) rfl)
      refine g_iload 25 (gd rfl) rfl rfl ?_
      refine g_bipush 32 27 (gd rfl) rfl rfl ?_
      refine g_cmp_lt 30 31 (gd rfl) rfl rfl (fun c27 => ?_) (fun c27 => ?_)
      · skip
        have i27 := r_lt1 0 31 c27 h4 (in_c 32 rfl) rfl
        refine g_iload_n 32 (gd rfl) rfl rfl ?_
        refine g_istore 34 (gd rfl) rfl (Nat.le_of_ble_eq_true rfl) ?_
        exact gg_w (by first | exact Nat.le_of_ble_eq_true rfl | omega) (gg_f (gf_cons rfl (gf_cons rfl (gf_cons rfl (gf_cons rfl (gf_cons rfl (gf_cons rfl (gf_cons rfl gf_nil))))))) (ct34 4294967296 (sF s 60 1 x2) z1 x3 hI20 (fr_sF rfl fr_rf) (in_w 0 31 i27 rfl) (in_w 0 32 i15a rfl) (mb_in _)))
      · skip
        have i27 := r_le2 32 32 c27 (in_c 32 rfl) h4 rfl
        exact g_return (gd rfl) rfl (hP _ _ ⟨(sF s 60 1 x2), hI20, (fr_sF rfl fr_rf), rfl, rfl⟩)
theorem k_42_60_9 {Z : AmZ} {A : Nat → Nat} {s : GS} {ex : va_W} {d : Nat} {X : AmX} {x2 : Int32} {x3 : Int32} {x4 : Int32} (hd : 104 ≤ d) (hI : Inv s) (h4 : In x4 0 32) : GC Z d 42 [.ref (A 60), .ref (A 9), .int x2, .int x3, .int x4] (WW Z A s ++ ex) 0 0 (fun v u => ∃ t : GS, Inv t ∧ Fr fm_42_60_9 s t ∧ v = none ∧ u = WW Z A t ++ ex) X := k_42_60_9_r 33 (by omega) hI h4 (m_in 33 h4 rfl)

def fm_42_60_39 : FM := ([], [], [(60, 1)], [])
/-- GraphHouse$Colours.growClique -/
theorem k_42_60_39_r {Z : AmZ} {A : Nat → Nat} {ex : va_W} (kk : Nat) : ∀ {s : GS} {d : Nat} {X : AmX} {x2 : Int32} {x3 : Int32} {x4 : Int32}, 5 + kk * 3 ≤ d → Inv s → In x4 0 32 → 32 - (x4).toInt < (kk : Int) → GC Z d 42 [.ref (A 60), .ref (A 39), .int x2, .int x3, .int x4] (WW Z A s ++ ex) 0 0 (fun v u => ∃ t : GS, Inv t ∧ Fr fm_42_60_39 s t ∧ v = none ∧ u = WW Z A t ++ ex) X := by
  induction kk with
  | zero => intro s d X x2 x3 x4 hd hI h4 hm; exact m_no hm h4 rfl
  | succ kk ih =>
    intro s d X x2 x3 x4 hd hI h4 hm
    intro post xp hP hX
    have ct34 : ∀ (k34 : Nat) (sc34 : GS) (y34_5 : Int32) (y34_6 : Int32), Inv sc34 → Fr fm_42_60_39 s sc34 → (In x4 0 31) → (In y34_5 0 32) → ((y34_6.toBitVec.toNat : Nat) : Int) < (k34 : Int) → GG Z (d - 1) 42 post (gx xp) (1 + k34 * 900) 34 (fun j => xlook j [(0, .ref (A 60)), (1, .ref (A 39)), (2, .int x2), (3, .int x3), (4, .int x4), (5, .int y34_5), (6, .int y34_6)]) [] (WW Z A sc34 ++ ex) 0 0 := by
      intro k34
      induction k34 with
      | zero => intro sc34 y34_5 y34_6 hIc34 hFc34 j34_4 j34_5 mm34; exact absurd mm34 (Int.not_lt.mpr (Int.natCast_nonneg _))
      | succ k34 ih34 =>
        intro sc34 y34_5 y34_6 hIc34 hFc34 j34_4 j34_5 mm34
        refine gg_w (M := 1 + k34 * 900 + 900) gws ?_
        refine g_iload 36 (gd rfl) rfl rfl ?_
        refine g_if_eq 39 99 (gd rfl) rfl rfl (fun c36 => ?_) (fun c36 => ?_)
        · skip
          have i36 := z_eq 0 0 c36 (i_rng y34_6) rfl
          exact g_return (gd rfl) rfl (hP _ _ ⟨sc34, hIc34, hFc34, rfl, rfl⟩)
        · skip
          refine g_iload 41 (gd rfl) rfl rfl ?_
          refine g_iload 43 (gd rfl) rfl rfl ?_
          refine g_calls (As := [.int y34_6]) (r := [.int y34_5]) 46 (gd rfl) rfl rfl rfl rfl rfl (Nat.le_of_ble_eq_true rfl) (Nat.zero_le _) (Nat.zero_le _) (k_414b (by first | exact dq1 hd rfl | exact dq0 hd rfl | exact dq2 hd rfl | exact dq3 hd rfl | omega) hIc34 ) (fun v u h => ?_)
          obtain ⟨z43, rfl, rfl, i43⟩ := h
          show GG _ _ _ _ _ _ _ _ [.int z43, .int y34_5] _ _ _
          refine g_iadd 47 (gd rfl) rfl (fun z46 e46 => ?_)
          have i46 := in_add 0 64 e46 j34_5 i43 rfl rfl
          refine g_aload_n 48 (gd rfl) rfl rfl ?_
          refine g_getI 51 (gd rfl) rfl rfl rfl (fun z48 e48 => ?_)
          refine g_calls (As := [.int z48]) (r := [.int z46]) 54 (gd rfl) rfl rfl rfl rfl rfl (Nat.le_of_ble_eq_true rfl) (Nat.zero_le _) (Nat.zero_le _) (k_414b (by first | exact dq1 hd rfl | exact dq0 hd rfl | exact dq2 hd rfl | exact dq3 hd rfl | omega) hIc34 ) (fun v u h => ?_)
          obtain ⟨z51, rfl, rfl, i51⟩ := h
          show GG _ _ _ _ _ _ _ _ [.int z51, .int z46] _ _ _
          refine g_cmp_gt 57 58 (gd rfl) rfl rfl (fun c54 => ?_) (fun c54 => ?_)
          · skip
            have i54 := r_lt2 1 64 c54 i51 i46 rfl
            refine g_iload 60 (gd rfl) rfl rfl ?_
            refine g_calls (As := [.int y34_6]) (r := []) 63 (gd rfl) rfl rfl rfl rfl rfl (Nat.le_of_ble_eq_true rfl) (Nat.zero_le _) (Nat.zero_le _) (k_264n (by first | exact dq1 hd rfl | exact dq0 hd rfl | exact dq2 hd rfl | exact dq3 hd rfl | omega) c36) (fun v u h => ?_)
            obtain ⟨z60, rfl, rfl, i60, hb60, hl60⟩ := h
            show GG _ _ _ _ _ _ _ _ [.int z60] _ _ _
            refine g_istore 65 (gd rfl) rfl (Nat.le_of_ble_eq_true rfl) ?_
            refine g_aload_n 66 (gd rfl) rfl rfl ?_
            refine g_aload_n 67 (gd rfl) rfl rfl ?_
            refine g_iload_n 68 (gd rfl) rfl rfl ?_
            refine g_iconst 1 69 (gd rfl) rfl rfl ?_
            refine g_iload 71 (gd rfl) rfl rfl ?_
            refine g_ishl 72 (gd rfl) rfl (fun z71 e71 => ?_)
            refine g_ior 73 (gd rfl) rfl (fun z72 e72 => ?_)
            refine g_iload 75 (gd rfl) rfl rfl ?_
            refine g_aload_n 76 (gd rfl) rfl rfl ?_
            refine g_iload 78 (gd rfl) rfl rfl ?_
            refine g_iaload 79 (gd rfl) rfl (n := 32) rfl (in_ix i60 rfl) (fun z78 e78 => ?_)
            refine g_iand 80 (gd rfl) rfl (fun z79 e79 => ?_)
            refine g_iload 82 (gd rfl) rfl rfl ?_
            refine g_iconst 1 83 (gd rfl) rfl rfl ?_
            refine g_iadd 84 (gd rfl) rfl (fun z83 e83 => ?_)
            have i83 := in_add 1 32 e83 j34_4 (in_c 1 rfl) rfl rfl
            have n84 : 32 - (z83).toInt < ((kk : Nat) : Int) := by (first | have a0 := oa4 j34_4 j34_5 i60 i83 | ((first | have a0 := in_u j34_4 | (have a0 := j34_4; unfold In at a0)); (first | have a1 := in_u j34_5 | (have a1 := j34_5; unfold In at a1)); (first | have a2 := in_u i60 | (have a2 := i60; unfold In at a2)); (first | have a3 := in_u i83 | (have a3 := i83; unfold In at a3)))); have a4 := t_add e83 j34_4 (in_c 1 rfl) rfl; (first | have a5 := oa2 ((in_c 1 rfl)) i54 | ((first | have a5 := in_u ((in_c 1 rfl)) | (have a5 := (in_c 1 rfl); unfold In at a5)); (first | have a6 := in_u i54 | (have a6 := i54; unfold In at a6)))); have a7 := t_add e46 j34_5 i43 rfl; (first | have a8 := in_u i43 | (have a8 := i43; unfold In at a8)); omega
            refine g_callv (X := _) (As := [.ref (A 39), .int z72, .int z79, .int z83]) (r := []) (b := A 60) (q := 60) 87 (gd rfl) rfl rfl rfl rfl rfl (ww_o rfl) (Nat.le_of_ble_eq_true rfl) (Nat.zero_le _) (Nat.zero_le _) (ih (by omega) hIc34 (in_w 0 32 i83 rfl) n84) (fun e u h => h) (fun v u h => ?_)
            obtain ⟨s84, hI84, hF84, rfl, rfl⟩ := h
            show GG _ _ _ _ _ _ _ _ [] _ _ _
            refine g_iload 89 (gd rfl) rfl rfl ?_
            refine g_iload 91 (gd rfl) rfl rfl ?_
            refine g_iconst 1 92 (gd rfl) rfl rfl ?_
            refine g_isub 93 (gd rfl) rfl (fun z92 e92 => ?_)
            refine g_iand 94 (gd rfl) rfl (fun z93 e93 => ?_)
            refine g_istore 96 (gd rfl) rfl (Nat.le_of_ble_eq_true rfl) ?_
            refine g_goto 34 (gd rfl) rfl ?_
            exact gg_w (by first | exact Nat.le_add_right _ _ | exact gw2 | exact gw3 | exact gwe rfl | exact gwf rfl | exact gwg rfl | exact gwh rfl | omega) (gg_f (gf_cons rfl (gf_cons rfl (gf_cons rfl (gf_cons rfl (gf_cons rfl (gf_cons rfl (gf_cons rfl gf_nil))))))) (ih34 s84 y34_5 z93 hI84 (fr_tr rfl hFc34 hF84) (in_w 0 31 j34_4 rfl) (in_w 0 32 j34_5 rfl) (mb e93 e92 c36 mm34)))
          · skip
            have i54 := r_le1 0 32 c54 i46 i51 rfl
            exact g_return (gd rfl) rfl (hP _ _ ⟨sc34, hIc34, hFc34, rfl, rfl⟩)
    refine g_enter2 (k := 42) (N := 3865470567301) (by first | exact dq1 hd rfl | exact dq0 hd rfl | exact dq2 hd rfl | exact dq3 hd rfl | omega) rfl (Nat.le_of_ble_eq_true rfl) ?_
    refine g_iload_n 1 (gd rfl) rfl rfl ?_
    refine g_calls (As := [.int x2]) (r := []) 4 (gd rfl) rfl rfl rfl rfl rfl (Nat.le_of_ble_eq_true rfl) (Nat.zero_le _) (Nat.zero_le _) (k_414b (by first | exact dq1 hd rfl | exact dq0 hd rfl | exact dq2 hd rfl | exact dq3 hd rfl | omega) hI ) (fun v u h => ?_)
    obtain ⟨z1, rfl, rfl, i1⟩ := h
    show GG _ _ _ _ _ _ _ _ [.int z1] _ _ _
    refine g_istore 6 (gd rfl) rfl (Nat.le_of_ble_eq_true rfl) ?_
    refine g_iload 8 (gd rfl) rfl rfl ?_
    refine g_aload_n 9 (gd rfl) rfl rfl ?_
    refine g_getI 12 (gd rfl) rfl rfl rfl (fun z9 e9 => ?_)
    refine g_calls (As := [.int z9]) (r := [.int z1]) 15 (gd rfl) rfl rfl rfl rfl rfl (Nat.le_of_ble_eq_true rfl) (Nat.zero_le _) (Nat.zero_le _) (k_414b (by first | exact dq1 hd rfl | exact dq0 hd rfl | exact dq2 hd rfl | exact dq3 hd rfl | omega) hI ) (fun v u h => ?_)
    obtain ⟨z12, rfl, rfl, i12⟩ := h
    show GG _ _ _ _ _ _ _ _ [.int z12, .int z1] _ _ _
    refine g_cmp_le 18 23 (gd rfl) rfl rfl (fun c15 => ?_) (fun c15 => ?_)
    · skip
      refine g_iload 25 (gd rfl) rfl rfl ?_
      refine g_bipush 32 27 (gd rfl) rfl rfl ?_
      refine g_cmp_lt 30 31 (gd rfl) rfl rfl (fun c27 => ?_) (fun c27 => ?_)
      · skip
        have i27 := r_lt1 0 31 c27 h4 (in_c 32 rfl) rfl
        refine g_iload_n 32 (gd rfl) rfl rfl ?_
        refine g_istore 34 (gd rfl) rfl (Nat.le_of_ble_eq_true rfl) ?_
        exact gg_w (by first | exact Nat.le_of_ble_eq_true rfl | omega) (gg_f (gf_cons rfl (gf_cons rfl (gf_cons rfl (gf_cons rfl (gf_cons rfl (gf_cons rfl (gf_cons rfl gf_nil))))))) (ct34 4294967296 s z1 x3 hI fr_rf (in_w 0 31 i27 rfl) (in_w 0 32 i1 rfl) (mb_in _)))
      · skip
        have i27 := r_le2 32 32 c27 (in_c 32 rfl) h4 rfl
        exact g_return (gd rfl) rfl (hP _ _ ⟨s, hI, fr_rf, rfl, rfl⟩)
    · skip
      have i15 := r_lt1 0 31 c15 i12 i1 rfl
      have i15a := r_lt2 1 32 c15 i12 i1 rfl
      refine g_aload_n 19 (gd rfl) rfl rfl ?_
      refine g_iload_n 20 (gd rfl) rfl rfl ?_
      refine g_putI 23 (gd rfl) rfl rfl rfl rfl ?_
      have hI20 := inv_sF (q := 60) (j := 1) hI rfl (in_w (-2147483648) 2147483647 (i_rng x2) rfl)
      refine g_iload 25 (gd rfl) rfl rfl ?_
      refine g_bipush 32 27 (gd rfl) rfl rfl ?_
      refine g_cmp_lt 30 31 (gd rfl) rfl rfl (fun c27 => ?_) (fun c27 => ?_)
      · skip
        have i27 := r_lt1 0 31 c27 h4 (in_c 32 rfl) rfl
        refine g_iload_n 32 (gd rfl) rfl rfl ?_
        refine g_istore 34 (gd rfl) rfl (Nat.le_of_ble_eq_true rfl) ?_
        exact gg_w (by first | exact Nat.le_of_ble_eq_true rfl | omega) (gg_f (gf_cons rfl (gf_cons rfl (gf_cons rfl (gf_cons rfl (gf_cons rfl (gf_cons rfl (gf_cons rfl gf_nil))))))) (ct34 4294967296 (sF s 60 1 x2) z1 x3 hI20 (fr_sF rfl fr_rf) (in_w 0 31 i27 rfl) (in_w 0 32 i15a rfl) (mb_in _)))
      · skip
        have i27 := r_le2 32 32 c27 (in_c 32 rfl) h4 rfl
        exact g_return (gd rfl) rfl (hP _ _ ⟨(sF s 60 1 x2), hI20, (fr_sF rfl fr_rf), rfl, rfl⟩)
theorem k_42_60_39 {Z : AmZ} {A : Nat → Nat} {s : GS} {ex : va_W} {d : Nat} {X : AmX} {x2 : Int32} {x3 : Int32} {x4 : Int32} (hd : 104 ≤ d) (hI : Inv s) (h4 : In x4 0 32) : GC Z d 42 [.ref (A 60), .ref (A 39), .int x2, .int x3, .int x4] (WW Z A s ++ ex) 0 0 (fun v u => ∃ t : GS, Inv t ∧ Fr fm_42_60_39 s t ∧ v = none ∧ u = WW Z A t ++ ex) X := k_42_60_39_r 33 (by omega) hI h4 (m_in 33 h4 rfl)

/-- GraphHouse$Colours.classOf -/
theorem k_45_60 {Z : AmZ} {A : Nat → Nat} {s : GS} {ex : va_W} {d : Nat} {X : AmX} {x1 : Int32} (hd : 1 ≤ d) (hI : Inv s) (h1 : In x1 0 31) : GC Z d 45 [.ref (A 60), .int x1] (WW Z A s ++ ex) 0 0 (fun v u => ∃ z : Int32, v = some (.int z) ∧ u = WW Z A s ++ ex ∧ In z 0 31) X := by
  intro post xp hP hX
  have ct2 : ∀ (k2 : Nat) (y2_2 : Int32), (In y2_2 0 32) → 32 - (y2_2).toInt < (k2 : Int) → GG Z (d - 1) 45 post (gx xp) (1 + k2 * 900) 2 (fun j => xlook j [(0, .ref (A 60)), (1, .int x1), (2, .int y2_2)]) [] (WW Z A s ++ ex) 0 0 := by
    intro k2
    induction k2 with
    | zero => intro y2_2 j2_2 mm2; exact m_no mm2 j2_2 rfl
    | succ k2 ih2 =>
      intro y2_2 j2_2 mm2
      refine gg_w (M := 1 + k2 * 900 + 900) gws ?_
      refine g_iload_n 3 (gd rfl) rfl rfl ?_
      refine g_bipush 32 5 (gd rfl) rfl rfl ?_
      refine g_cmp_ge 8 29 (gd rfl) rfl rfl (fun c5 => ?_) (fun c5 => ?_)
      · skip
        have i5 := r_le2 32 32 c5 (in_c 32 rfl) j2_2 rfl
        refine g_iconst 0 30 (gd rfl) rfl rfl ?_
        exact g_ireturn (gd rfl) rfl rfl (hP _ _ ⟨(Int32.ofInt 0), rfl, rfl, in_w 0 31 (in_c 0 rfl) rfl⟩)
      · skip
        have i5 := r_lt1 0 31 c5 j2_2 (in_c 32 rfl) rfl
        refine g_aload_n 9 (gd rfl) rfl rfl ?_
        refine g_getA (q2 := 61) 12 (gd rfl) rfl rfl rfl rfl ?_
        refine g_iload_n 13 (gd rfl) rfl rfl ?_
        refine g_iaload 14 (gd rfl) rfl (n := 32) rfl (in_ix i5 rfl) (fun z13 e13 => ?_)
        refine g_iload_n 15 (gd rfl) rfl rfl ?_
        refine g_ishr 16 (gd rfl) rfl (fun z15 e15 => ?_)
        refine g_iconst 1 17 (gd rfl) rfl rfl ?_
        refine g_iand 18 (gd rfl) rfl (fun z17 e17 => ?_)
        have i17 := in_and2 e17 (in_c 1 rfl) rfl
        refine g_if_eq 21 23 (gd rfl) rfl rfl (fun c18 => ?_) (fun c18 => ?_)
        · skip
          have i18 := z_eq 0 0 c18 i17 rfl
          refine g_iinc 26 (gd rfl) rfl rfl (Nat.le_of_ble_eq_true rfl) (fun z23 e23 => ?_)
          have i23 := in_add 1 32 e23 i5 (in_c 1 rfl) rfl rfl
          refine g_goto 2 (gd rfl) rfl ?_
          exact gg_w (by first | exact Nat.le_add_right _ _ | exact gw2 | exact gw3 | exact gwe rfl | exact gwf rfl | exact gwg rfl | exact gwh rfl | omega) (gg_f (gf_cons rfl (gf_cons rfl (gf_cons rfl gf_nil))) (ih2  z23  (in_w 0 32 i23 rfl) (m_up mm2 (t_add e23 i5 (in_c 1 rfl) rfl) (in_w 1 1 (in_c 1 rfl) rfl))))
        · skip
          have i18 := z_ne 1 1 c18 i17 rfl
          refine g_iload_n 22 (gd rfl) rfl rfl ?_
          exact g_ireturn (gd rfl) rfl rfl (hP _ _ ⟨y2_2, rfl, rfl, in_w 0 31 i5 rfl⟩)
  refine g_enter2 (k := 45) (N := 30601) (by first | exact dq1 hd rfl | exact dq0 hd rfl | exact dq2 hd rfl | exact dq3 hd rfl | omega) rfl (Nat.le_of_ble_eq_true rfl) ?_
  refine g_iconst 0 1 (gd rfl) rfl rfl ?_
  refine g_istore_n 2 (gd rfl) rfl (Nat.le_of_ble_eq_true rfl) ?_
  exact gg_w (by first | exact Nat.le_of_ble_eq_true rfl | omega) (gg_f (gf_cons rfl (gf_cons rfl (gf_cons rfl gf_nil))) (ct2 33  (Int32.ofInt 0)  (in_w 0 32 (in_c 0 rfl) rfl) (m_in 33 (in_w 0 32 (in_c 0 rfl) rfl) rfl)))

/-- GraphHouse$Colours.besides -/
theorem k_48_9 {Z : AmZ} {A : Nat → Nat} {s : GS} {ex : va_W} {d : Nat} {X : AmX} {x1 : Int32} (hd : 4 ≤ d) (hI : Inv s)  : GC Z d 48 [.ref (A 9), .int x1] (WW Z A s ++ ex) 0 0 (fun v u => ∃ z : Int32, v = some (.int z) ∧ u = WW Z A s ++ ex ∧ In z (-2147483648) 2147483647) X := by
  intro post xp hP hX
  have ct4 : ∀ (k4 : Nat) (y4_2 : Int32) (y4_3 : Int32), ((y4_3.toBitVec.toNat : Nat) : Int) < (k4 : Int) → GG Z (d - 1) 48 post (gx xp) (1 + k4 * 900) 4 (fun j => xlook j [(0, .ref (A 9)), (1, .int x1), (2, .int y4_2), (3, .int y4_3)]) [] (WW Z A s ++ ex) 0 0 := by
    intro k4
    induction k4 with
    | zero => intro y4_2 y4_3  mm4; exact absurd mm4 (Int.not_lt.mpr (Int.natCast_nonneg _))
    | succ k4 ih4 =>
      intro y4_2 y4_3  mm4
      refine gg_w (M := 1 + k4 * 900 + 900) gws ?_
      refine g_iload_n 5 (gd rfl) rfl rfl ?_
      refine g_if_eq 8 26 (gd rfl) rfl rfl (fun c5 => ?_) (fun c5 => ?_)
      · skip
        have i5 := z_eq 0 0 c5 (i_rng y4_3) rfl
        refine g_iload_n 27 (gd rfl) rfl rfl ?_
        exact g_ireturn (gd rfl) rfl rfl (hP _ _ ⟨y4_2, rfl, rfl, in_w (-2147483648) 2147483647 (i_rng y4_2) rfl⟩)
      · skip
        refine g_iload_n 9 (gd rfl) rfl rfl ?_
        refine g_aload_n 10 (gd rfl) rfl rfl ?_
        refine g_iload_n 11 (gd rfl) rfl rfl ?_
        refine g_calls (As := [.int y4_3]) (r := [.ref (A 9), .int y4_2]) 14 (gd rfl) rfl rfl rfl rfl rfl (Nat.le_of_ble_eq_true rfl) (Nat.zero_le _) (Nat.zero_le _) (k_264n (by first | exact dq1 hd rfl | exact dq0 hd rfl | exact dq2 hd rfl | exact dq3 hd rfl | omega) c5) (fun v u h => ?_)
        obtain ⟨z11, rfl, rfl, i11, hb11, hl11⟩ := h
        show GG _ _ _ _ _ _ _ _ [.int z11, .ref (A 9), .int y4_2] _ _ _
        refine g_iaload 15 (gd rfl) rfl (n := 32) rfl (in_ix i11 rfl) (fun z14 e14 => ?_)
        refine g_ior 16 (gd rfl) rfl (fun z15 e15 => ?_)
        refine g_istore_n 17 (gd rfl) rfl (Nat.le_of_ble_eq_true rfl) ?_
        refine g_iload_n 18 (gd rfl) rfl rfl ?_
        refine g_iload_n 19 (gd rfl) rfl rfl ?_
        refine g_iconst 1 20 (gd rfl) rfl rfl ?_
        refine g_isub 21 (gd rfl) rfl (fun z20 e20 => ?_)
        refine g_iand 22 (gd rfl) rfl (fun z21 e21 => ?_)
        refine g_istore_n 23 (gd rfl) rfl (Nat.le_of_ble_eq_true rfl) ?_
        refine g_goto 4 (gd rfl) rfl ?_
        exact gg_w (by first | exact Nat.le_add_right _ _ | exact gw2 | exact gw3 | exact gwe rfl | exact gwf rfl | exact gwg rfl | exact gwh rfl | omega) (gg_f (gf_cons rfl (gf_cons rfl (gf_cons rfl (gf_cons rfl gf_nil)))) (ih4  z15 z21   (mb e21 e20 c5 mm4)))
  refine g_enter2 (k := 48) (N := 3865470567301) (by first | exact dq1 hd rfl | exact dq0 hd rfl | exact dq2 hd rfl | exact dq3 hd rfl | omega) rfl (Nat.le_of_ble_eq_true rfl) ?_
  refine g_iconst 0 1 (gd rfl) rfl rfl ?_
  refine g_istore_n 2 (gd rfl) rfl (Nat.le_of_ble_eq_true rfl) ?_
  refine g_iload_n 3 (gd rfl) rfl rfl ?_
  refine g_istore_n 4 (gd rfl) rfl (Nat.le_of_ble_eq_true rfl) ?_
  exact gg_w (by first | exact Nat.le_of_ble_eq_true rfl | omega) (gg_f (gf_cons rfl (gf_cons rfl (gf_cons rfl (gf_cons rfl gf_nil)))) (ct4 4294967296  (Int32.ofInt 0) x1   (mb_in _)))

/-- GraphHouse$Colours.besides -/
theorem k_48_39 {Z : AmZ} {A : Nat → Nat} {s : GS} {ex : va_W} {d : Nat} {X : AmX} {x1 : Int32} (hd : 4 ≤ d) (hI : Inv s)  : GC Z d 48 [.ref (A 39), .int x1] (WW Z A s ++ ex) 0 0 (fun v u => ∃ z : Int32, v = some (.int z) ∧ u = WW Z A s ++ ex ∧ In z (-2147483648) 2147483647) X := by
  intro post xp hP hX
  have ct4 : ∀ (k4 : Nat) (y4_2 : Int32) (y4_3 : Int32), ((y4_3.toBitVec.toNat : Nat) : Int) < (k4 : Int) → GG Z (d - 1) 48 post (gx xp) (1 + k4 * 900) 4 (fun j => xlook j [(0, .ref (A 39)), (1, .int x1), (2, .int y4_2), (3, .int y4_3)]) [] (WW Z A s ++ ex) 0 0 := by
    intro k4
    induction k4 with
    | zero => intro y4_2 y4_3  mm4; exact absurd mm4 (Int.not_lt.mpr (Int.natCast_nonneg _))
    | succ k4 ih4 =>
      intro y4_2 y4_3  mm4
      refine gg_w (M := 1 + k4 * 900 + 900) gws ?_
      refine g_iload_n 5 (gd rfl) rfl rfl ?_
      refine g_if_eq 8 26 (gd rfl) rfl rfl (fun c5 => ?_) (fun c5 => ?_)
      · skip
        have i5 := z_eq 0 0 c5 (i_rng y4_3) rfl
        refine g_iload_n 27 (gd rfl) rfl rfl ?_
        exact g_ireturn (gd rfl) rfl rfl (hP _ _ ⟨y4_2, rfl, rfl, in_w (-2147483648) 2147483647 (i_rng y4_2) rfl⟩)
      · skip
        refine g_iload_n 9 (gd rfl) rfl rfl ?_
        refine g_aload_n 10 (gd rfl) rfl rfl ?_
        refine g_iload_n 11 (gd rfl) rfl rfl ?_
        refine g_calls (As := [.int y4_3]) (r := [.ref (A 39), .int y4_2]) 14 (gd rfl) rfl rfl rfl rfl rfl (Nat.le_of_ble_eq_true rfl) (Nat.zero_le _) (Nat.zero_le _) (k_264n (by first | exact dq1 hd rfl | exact dq0 hd rfl | exact dq2 hd rfl | exact dq3 hd rfl | omega) c5) (fun v u h => ?_)
        obtain ⟨z11, rfl, rfl, i11, hb11, hl11⟩ := h
        show GG _ _ _ _ _ _ _ _ [.int z11, .ref (A 39), .int y4_2] _ _ _
        refine g_iaload 15 (gd rfl) rfl (n := 32) rfl (in_ix i11 rfl) (fun z14 e14 => ?_)
        refine g_ior 16 (gd rfl) rfl (fun z15 e15 => ?_)
        refine g_istore_n 17 (gd rfl) rfl (Nat.le_of_ble_eq_true rfl) ?_
        refine g_iload_n 18 (gd rfl) rfl rfl ?_
        refine g_iload_n 19 (gd rfl) rfl rfl ?_
        refine g_iconst 1 20 (gd rfl) rfl rfl ?_
        refine g_isub 21 (gd rfl) rfl (fun z20 e20 => ?_)
        refine g_iand 22 (gd rfl) rfl (fun z21 e21 => ?_)
        refine g_istore_n 23 (gd rfl) rfl (Nat.le_of_ble_eq_true rfl) ?_
        refine g_goto 4 (gd rfl) rfl ?_
        exact gg_w (by first | exact Nat.le_add_right _ _ | exact gw2 | exact gw3 | exact gwe rfl | exact gwf rfl | exact gwg rfl | exact gwh rfl | omega) (gg_f (gf_cons rfl (gf_cons rfl (gf_cons rfl (gf_cons rfl gf_nil)))) (ih4  z15 z21   (mb e21 e20 c5 mm4)))
  refine g_enter2 (k := 48) (N := 3865470567301) (by first | exact dq1 hd rfl | exact dq0 hd rfl | exact dq2 hd rfl | exact dq3 hd rfl | omega) rfl (Nat.le_of_ble_eq_true rfl) ?_
  refine g_iconst 0 1 (gd rfl) rfl rfl ?_
  refine g_istore_n 2 (gd rfl) rfl (Nat.le_of_ble_eq_true rfl) ?_
  refine g_iload_n 3 (gd rfl) rfl rfl ?_
  refine g_istore_n 4 (gd rfl) rfl (Nat.le_of_ble_eq_true rfl) ?_
  exact gg_w (by first | exact Nat.le_of_ble_eq_true rfl | omega) (gg_f (gf_cons rfl (gf_cons rfl (gf_cons rfl (gf_cons rfl gf_nil)))) (ct4 4294967296  (Int32.ofInt 0) x1   (mb_in _)))

def fm_50_60_9 : FM := ([61], [], [(60, 7)], [])
/-- GraphHouse$Colours.takeBack -/
theorem k_50_60_9 {Z : AmZ} {A : Nat → Nat} {s : GS} {ex : va_W} {d : Nat} {X : AmX} {x2 : Int32} (hd : 1 ≤ d) (hI : Inv s) (h2 : In x2 0 32) : GC Z d 50 [.ref (A 60), .ref (A 9), .int x2] (WW Z A s ++ ex) 0 0 (fun v u => ∃ t : GS, Inv t ∧ Fr fm_50_60_9 s t ∧ v = none ∧ u = WW Z A t ++ ex) X := by
  intro post xp hP hX
  obtain ⟨u_60_3, e_60_3⟩ : ∃ w, w = s.2.2.1 60 3 := ⟨_, rfl⟩
  have ro_60_3 := inv_F hI 0 32 rfl e_60_3
  have ct0 : ∀ (k0 : Nat) (sc0 : GS) (w0_60_7 : Int32), Inv sc0 → Fr fm_50_60_9 s sc0 → (w0_60_7 = sc0.2.2.1 60 7) → (w0_60_7).toInt < (k0 : Int) → GG Z (d - 1) 50 post (gx xp) (1 + k0 * 31501) 0 (fun j => xlook j [(0, .ref (A 60)), (1, .ref (A 9)), (2, .int x2)]) [] (WW Z A sc0 ++ ex) 0 0 := by
    intro k0
    induction k0 with
    | zero => intro sc0 w0_60_7 hIc0 hFc0 v0_60_7 mm0; exfalso; (first | have a0 := oa3 h2 ro_60_3 ((inv_F hIc0 0 32 rfl v0_60_7)) | ((first | have a0 := in_u h2 | (have a0 := h2; unfold In at a0)); (first | have a1 := in_u ro_60_3 | (have a1 := ro_60_3; unfold In at a1)); (first | have a2 := in_u ((inv_F hIc0 0 32 rfl v0_60_7)) | (have a2 := (inv_F hIc0 0 32 rfl v0_60_7); unfold In at a2)))); omega
    | succ k0 ih0 =>
      intro sc0 w0_60_7 hIc0 hFc0 v0_60_7 mm0
      refine gg_w (M := 1 + k0 * 31501 + 31501) gws ?_
      have ct23 : ∀ (k23 : Nat) (sc23 : GS) (y23_3 : Int32) (y23_4 : Int32) (w23_60_7 : Int32), Inv sc23 → Fr fm_50_60_9 s sc23 → (In x2 0 31) → (In y23_3 0 31) → (In y23_4 0 31) → (w23_60_7 = sc23.2.2.1 60 7) → (1 ≤ (w23_60_7).toInt) → ((w23_60_7).toInt = w0_60_7.toInt) → 31 - (y23_4).toInt < (k23 : Int) → GG Z (d - 1) 50 post (gx xp) (1 + k0 * 31501 + 1 + k23 * 900) 23 (fun j => xlook j [(0, .ref (A 60)), (1, .ref (A 9)), (2, .int x2), (3, .int y23_3), (4, .int y23_4)]) [] (WW Z A sc23 ++ ex) 0 0 := by
        intro k23
        induction k23 with
        | zero => intro sc23 y23_3 y23_4 w23_60_7 hIc23 hFc23 j23_2 j23_3 j23_4 v23_60_7 n23_0 n23_1 mm23; exact m_no mm23 j23_4 rfl
        | succ k23 ih23 =>
          intro sc23 y23_3 y23_4 w23_60_7 hIc23 hFc23 j23_2 j23_3 j23_4 v23_60_7 n23_0 n23_1 mm23
          refine gg_w (M := 1 + k0 * 31501 + 1 + k23 * 900 + 900) gws ?_
          refine g_iload 25 (gd rfl) rfl rfl ?_
          refine g_aload_n 26 (gd rfl) rfl rfl ?_
          refine g_getI 29 (gd rfl) rfl rfl rfl (fun z26 e26 => ?_)
          have q26 : u_60_3 = z26 := (fr_F e_60_3 hFc23 rfl).trans e26.symm
          subst q26
          refine g_iconst 1 30 (gd rfl) rfl rfl ?_
          refine g_isub 31 (gd rfl) rfl (fun z30 e30 => ?_)
          have i30 := in_sub (-1) 31 e30 ro_60_3 (in_c 1 rfl) rfl rfl
          refine g_cmp_ge 34 54 (gd rfl) rfl rfl (fun c31 => ?_) (fun c31 => ?_)
          · skip
            refine g_aload_n 55 (gd rfl) rfl rfl ?_
            refine g_getA (q2 := 61) 58 (gd rfl) rfl rfl rfl rfl ?_
            refine g_iload 60 (gd rfl) rfl rfl ?_
            refine g_dup2 61 (gd rfl) rfl rfl rfl ?_
            refine g_iaload 62 (gd rfl) rfl (n := 32) rfl (in_ix j23_4 rfl) (fun z61 e61 => ?_)
            refine g_iconst 1 63 (gd rfl) rfl rfl ?_
            refine g_iload_n 64 (gd rfl) rfl rfl ?_
            refine g_ishl 65 (gd rfl) rfl (fun z64 e64 => ?_)
            refine g_ior 66 (gd rfl) rfl (fun z65 e65 => ?_)
            refine g_iastore 67 (gd rfl) rfl (n := 32) rfl (in_ix j23_4 rfl) ?_
            have hI66 := inv_sI (q := 61) (j := y23_4.toNatClampNeg) hIc23 rfl (in_w (-2147483648) 2147483647 (i_rng z65) rfl)
            refine g_aload_n 68 (gd rfl) rfl rfl ?_
            refine g_dup 69 (gd rfl) rfl rfl ?_
            refine g_getI 72 (gd rfl) rfl rfl rfl (fun z69 e69 => ?_)
            have q69 : w23_60_7 = z69 := (sI_F (v23_60_7)).trans e69.symm
            subst q69
            refine g_iconst 1 73 (gd rfl) rfl rfl ?_
            refine g_isub 74 (gd rfl) rfl (fun z73 e73 => ?_)
            have i73 := in_sub (-1) 31 e73 (inv_F hIc23 0 32 rfl v23_60_7) (in_c 1 rfl) rfl rfl
            have i74 : In z73 0 32 := by (first | have a0 := oa6 j23_2 ro_60_3 ((inv_F hIc23 0 32 rfl v23_60_7)) j23_4 j23_3 i73 | ((first | have a0 := in_u j23_2 | (have a0 := j23_2; unfold In at a0)); (first | have a1 := in_u ro_60_3 | (have a1 := ro_60_3; unfold In at a1)); (first | have a2 := in_u ((inv_F hIc23 0 32 rfl v23_60_7)) | (have a2 := (inv_F hIc23 0 32 rfl v23_60_7); unfold In at a2)); (first | have a3 := in_u j23_4 | (have a3 := j23_4; unfold In at a3)); (first | have a4 := in_u j23_3 | (have a4 := j23_3; unfold In at a4)); (first | have a5 := in_u i73 | (have a5 := i73; unfold In at a5)))); have a6 := t_sub e73 (inv_F hIc23 0 32 rfl v23_60_7) (in_c 1 rfl) rfl; (first | have a7 := oa2 ((in_c 1 rfl)) i30 | ((first | have a7 := in_u ((in_c 1 rfl)) | (have a7 := (in_c 1 rfl); unfold In at a7)); (first | have a8 := in_u i30 | (have a8 := i30; unfold In at a8)))); have a9 := t_sub e30 ro_60_3 (in_c 1 rfl) rfl; exact ⟨by omega, by omega⟩
            refine g_putI 77 (gd rfl) rfl rfl rfl rfl ?_
            have hI74 := inv_sF (q := 60) (j := 7) hI66 rfl (in_w 0 32 i74 rfl)
            refine g_goto 0 (gd rfl) rfl ?_
            have v0 : z73 = (sF (sI sc23 61 y23_4.toNatClampNeg z65) 60 7 z73).2.2.1 60 7 := sF_get
            have m0 : (z73).toInt < ((k0 : Nat) : Int) := by (first | have a0 := oa6 j23_2 ro_60_3 ((inv_F hIc23 0 32 rfl v23_60_7)) j23_4 j23_3 i74 | ((first | have a0 := in_u j23_2 | (have a0 := j23_2; unfold In at a0)); (first | have a1 := in_u ro_60_3 | (have a1 := ro_60_3; unfold In at a1)); (first | have a2 := in_u ((inv_F hIc23 0 32 rfl v23_60_7)) | (have a2 := (inv_F hIc23 0 32 rfl v23_60_7); unfold In at a2)); (first | have a3 := in_u j23_4 | (have a3 := j23_4; unfold In at a3)); (first | have a4 := in_u j23_3 | (have a4 := j23_3; unfold In at a4)); (first | have a5 := in_u i74 | (have a5 := i74; unfold In at a5)))); have a6 := t_sub e73 (inv_F hIc23 0 32 rfl v23_60_7) (in_c 1 rfl) rfl; (first | have a7 := oa2 ((in_c 1 rfl)) i30 | ((first | have a7 := in_u ((in_c 1 rfl)) | (have a7 := (in_c 1 rfl); unfold In at a7)); (first | have a8 := in_u i30 | (have a8 := i30; unfold In at a8)))); have a9 := t_sub e30 ro_60_3 (in_c 1 rfl) rfl; omega
            exact gg_w (by first | exact Nat.le_add_right _ _ | exact gw2 | exact gw3 | exact gwe rfl | exact gwf rfl | exact gwg rfl | exact gwh rfl | omega) (gg_f (gf_cons rfl (gf_cons rfl (gf_cons rfl gf_nil))) (ih0  (sF (sI sc23 61 y23_4.toNatClampNeg z65) 60 7 z73) z73 hI74 (fr_sF rfl (fr_sI rfl hFc23)) v0 m0))
          · skip
            have i31 := r_lt1 0 30 c31 j23_4 i30 rfl
            have i31a := r_lt2 1 31 c31 j23_4 i30 rfl
            refine g_aload_n 35 (gd rfl) rfl rfl ?_
            refine g_getA (q2 := 61) 38 (gd rfl) rfl rfl rfl rfl ?_
            refine g_iload 40 (gd rfl) rfl rfl ?_
            refine g_iaload 41 (gd rfl) rfl (n := 32) rfl (in_ix i31 rfl) (fun z40 e40 => ?_)
            refine g_aload_n 42 (gd rfl) rfl rfl ?_
            refine g_iload_n 43 (gd rfl) rfl rfl ?_
            refine g_iaload 44 (gd rfl) rfl (n := 32) rfl (in_ix j23_3 rfl) (fun z43 e43 => ?_)
            refine g_iand 45 (gd rfl) rfl (fun z44 e44 => ?_)
            refine g_if_eq 48 54 (gd rfl) rfl rfl (fun c45 => ?_) (fun c45 => ?_)
            · skip
              have i45 := z_eq 0 0 c45 (i_rng z44) rfl
              refine g_aload_n 55 (gd rfl) rfl rfl ?_
              refine g_getA (q2 := 61) 58 (gd rfl) rfl rfl rfl rfl ?_
              refine g_iload 60 (gd rfl) rfl rfl ?_
              refine g_dup2 61 (gd rfl) rfl rfl rfl ?_
              refine g_iaload 62 (gd rfl) rfl (n := 32) rfl (in_ix i31 rfl) (fun z61 e61 => ?_)
              have q61 : z40 = z61 := (e40).trans e61.symm
              subst q61
              refine g_iconst 1 63 (gd rfl) rfl rfl ?_
              refine g_iload_n 64 (gd rfl) rfl rfl ?_
              refine g_ishl 65 (gd rfl) rfl (fun z64 e64 => ?_)
              refine g_ior 66 (gd rfl) rfl (fun z65 e65 => ?_)
              refine g_iastore 67 (gd rfl) rfl (n := 32) rfl (in_ix i31 rfl) ?_
              have hI66 := inv_sI (q := 61) (j := y23_4.toNatClampNeg) hIc23 rfl (in_w (-2147483648) 2147483647 (i_rng z65) rfl)
              refine g_aload_n 68 (gd rfl) rfl rfl ?_
              refine g_dup 69 (gd rfl) rfl rfl ?_
              refine g_getI 72 (gd rfl) rfl rfl rfl (fun z69 e69 => ?_)
              have q69 : w23_60_7 = z69 := (sI_F (v23_60_7)).trans e69.symm
              subst q69
              refine g_iconst 1 73 (gd rfl) rfl rfl ?_
              refine g_isub 74 (gd rfl) rfl (fun z73 e73 => ?_)
              have i73 := in_sub (-1) 31 e73 (inv_F hIc23 0 32 rfl v23_60_7) (in_c 1 rfl) rfl rfl
              have i74 : In z73 0 32 := by (first | have a0 := oa6 j23_2 ro_60_3 ((inv_F hIc23 0 32 rfl v23_60_7)) i31 j23_3 i73 | ((first | have a0 := in_u j23_2 | (have a0 := j23_2; unfold In at a0)); (first | have a1 := in_u ro_60_3 | (have a1 := ro_60_3; unfold In at a1)); (first | have a2 := in_u ((inv_F hIc23 0 32 rfl v23_60_7)) | (have a2 := (inv_F hIc23 0 32 rfl v23_60_7); unfold In at a2)); (first | have a3 := in_u i31 | (have a3 := i31; unfold In at a3)); (first | have a4 := in_u j23_3 | (have a4 := j23_3; unfold In at a4)); (first | have a5 := in_u i73 | (have a5 := i73; unfold In at a5)))); have a6 := t_sub e73 (inv_F hIc23 0 32 rfl v23_60_7) (in_c 1 rfl) rfl; (first | have a7 := oa2 ((in_c 1 rfl)) i31a | ((first | have a7 := in_u ((in_c 1 rfl)) | (have a7 := (in_c 1 rfl); unfold In at a7)); (first | have a8 := in_u i31a | (have a8 := i31a; unfold In at a8)))); have a9 := t_sub e30 ro_60_3 (in_c 1 rfl) rfl; exact ⟨by omega, by omega⟩
              refine g_putI 77 (gd rfl) rfl rfl rfl rfl ?_
              have hI74 := inv_sF (q := 60) (j := 7) hI66 rfl (in_w 0 32 i74 rfl)
              refine g_goto 0 (gd rfl) rfl ?_
              have v0 : z73 = (sF (sI sc23 61 y23_4.toNatClampNeg z65) 60 7 z73).2.2.1 60 7 := sF_get
              have m0 : (z73).toInt < ((k0 : Nat) : Int) := by (first | have a0 := oa6 j23_2 ro_60_3 ((inv_F hIc23 0 32 rfl v23_60_7)) i31 j23_3 i74 | ((first | have a0 := in_u j23_2 | (have a0 := j23_2; unfold In at a0)); (first | have a1 := in_u ro_60_3 | (have a1 := ro_60_3; unfold In at a1)); (first | have a2 := in_u ((inv_F hIc23 0 32 rfl v23_60_7)) | (have a2 := (inv_F hIc23 0 32 rfl v23_60_7); unfold In at a2)); (first | have a3 := in_u i31 | (have a3 := i31; unfold In at a3)); (first | have a4 := in_u j23_3 | (have a4 := j23_3; unfold In at a4)); (first | have a5 := in_u i74 | (have a5 := i74; unfold In at a5)))); have a6 := t_sub e73 (inv_F hIc23 0 32 rfl v23_60_7) (in_c 1 rfl) rfl; (first | have a7 := oa2 ((in_c 1 rfl)) i31a | ((first | have a7 := in_u ((in_c 1 rfl)) | (have a7 := (in_c 1 rfl); unfold In at a7)); (first | have a8 := in_u i31a | (have a8 := i31a; unfold In at a8)))); have a9 := t_sub e30 ro_60_3 (in_c 1 rfl) rfl; omega
              exact gg_w (by first | exact Nat.le_add_right _ _ | exact gw2 | exact gw3 | exact gwe rfl | exact gwf rfl | exact gwg rfl | exact gwh rfl | omega) (gg_f (gf_cons rfl (gf_cons rfl (gf_cons rfl gf_nil))) (ih0  (sF (sI sc23 61 y23_4.toNatClampNeg z65) 60 7 z73) z73 hI74 (fr_sF rfl (fr_sI rfl hFc23)) v0 m0))
            · skip
              refine g_iinc 51 (gd rfl) rfl rfl (Nat.le_of_ble_eq_true rfl) (fun z48 e48 => ?_)
              have i48 := in_add 1 31 e48 i31 (in_c 1 rfl) rfl rfl
              refine g_goto 23 (gd rfl) rfl ?_
              have n23 : 1 ≤ (w23_60_7).toInt := by first | exact n23_0 | ((first | have a0 := oa6 j23_2 ro_60_3 ((inv_F hIc23 0 32 rfl v23_60_7)) i31 j23_3 i48 | ((first | have a0 := in_u j23_2 | (have a0 := j23_2; unfold In at a0)); (first | have a1 := in_u ro_60_3 | (have a1 := ro_60_3; unfold In at a1)); (first | have a2 := in_u ((inv_F hIc23 0 32 rfl v23_60_7)) | (have a2 := (inv_F hIc23 0 32 rfl v23_60_7); unfold In at a2)); (first | have a3 := in_u i31 | (have a3 := i31; unfold In at a3)); (first | have a4 := in_u j23_3 | (have a4 := j23_3; unfold In at a4)); (first | have a5 := in_u i48 | (have a5 := i48; unfold In at a5)))); have a6 := t_add e48 i31 (in_c 1 rfl) rfl; (first | have a7 := oa2 ((in_c 1 rfl)) i31a | ((first | have a7 := in_u ((in_c 1 rfl)) | (have a7 := (in_c 1 rfl); unfold In at a7)); (first | have a8 := in_u i31a | (have a8 := i31a; unfold In at a8)))); have a9 := t_sub e30 ro_60_3 (in_c 1 rfl) rfl; omega)
              have n23a : (w23_60_7).toInt = w0_60_7.toInt := by first | exact n23_1 | ((first | have a0 := oa6 j23_2 ro_60_3 ((inv_F hIc23 0 32 rfl v23_60_7)) i31 j23_3 i48 | ((first | have a0 := in_u j23_2 | (have a0 := j23_2; unfold In at a0)); (first | have a1 := in_u ro_60_3 | (have a1 := ro_60_3; unfold In at a1)); (first | have a2 := in_u ((inv_F hIc23 0 32 rfl v23_60_7)) | (have a2 := (inv_F hIc23 0 32 rfl v23_60_7); unfold In at a2)); (first | have a3 := in_u i31 | (have a3 := i31; unfold In at a3)); (first | have a4 := in_u j23_3 | (have a4 := j23_3; unfold In at a4)); (first | have a5 := in_u i48 | (have a5 := i48; unfold In at a5)))); have a6 := t_add e48 i31 (in_c 1 rfl) rfl; (first | have a7 := oa2 ((in_c 1 rfl)) i31a | ((first | have a7 := in_u ((in_c 1 rfl)) | (have a7 := (in_c 1 rfl); unfold In at a7)); (first | have a8 := in_u i31a | (have a8 := i31a; unfold In at a8)))); have a9 := t_sub e30 ro_60_3 (in_c 1 rfl) rfl; omega)
              exact gg_w (by first | exact Nat.le_add_right _ _ | exact gw2 | exact gw3 | exact gwe rfl | exact gwf rfl | exact gwg rfl | exact gwh rfl | omega) (gg_f (gf_cons rfl (gf_cons rfl (gf_cons rfl (gf_cons rfl (gf_cons rfl gf_nil))))) (ih23 sc23 y23_3 z48 w23_60_7 hIc23 hFc23 (in_w 0 31 j23_2 rfl) (in_w 0 31 j23_3 rfl) (in_w 0 31 i48 rfl) v23_60_7 n23 n23a (m_up mm23 (t_add e48 i31 (in_c 1 rfl) rfl) (in_w 1 1 (in_c 1 rfl) rfl))))
      refine g_aload_n 1 (gd rfl) rfl rfl ?_
      refine g_getI 4 (gd rfl) rfl rfl rfl (fun z1 e1 => ?_)
      have q1 : w0_60_7 = z1 := (v0_60_7).trans e1.symm
      subst q1
      refine g_iload_n 5 (gd rfl) rfl rfl ?_
      refine g_cmp_le 8 80 (gd rfl) rfl rfl (fun c5 => ?_) (fun c5 => ?_)
      · skip
        exact g_return (gd rfl) rfl (hP _ _ ⟨sc0, hIc0, hFc0, rfl, rfl⟩)
      · skip
        have i5 := r_lt1 0 31 c5 h2 (inv_F hIc0 0 32 rfl v0_60_7) rfl
        have i5a := r_lt2 1 32 c5 h2 (inv_F hIc0 0 32 rfl v0_60_7) rfl
        refine g_aload_n 9 (gd rfl) rfl rfl ?_
        refine g_getA (q2 := 63) 12 (gd rfl) rfl rfl rfl rfl ?_
        refine g_aload_n 13 (gd rfl) rfl rfl ?_
        refine g_getI 16 (gd rfl) rfl rfl rfl (fun z13 e13 => ?_)
        have q13 : w0_60_7 = z13 := (v0_60_7).trans e13.symm
        subst q13
        refine g_iconst 1 17 (gd rfl) rfl rfl ?_
        refine g_isub 18 (gd rfl) rfl (fun z17 e17 => ?_)
        have i17 := in_sub 0 31 e17 i5a (in_c 1 rfl) rfl rfl
        refine g_iaload 19 (gd rfl) rfl (n := 32) rfl (in_ix i17 rfl) (fun z18 e18 => ?_)
        have i18 := inv_I hIc0 (n := 32) (t := 0) 0 31 rfl (in_ix i17 rfl) rfl e18
        refine g_istore_n 20 (gd rfl) rfl (Nat.le_of_ble_eq_true rfl) ?_
        refine g_iconst 0 21 (gd rfl) rfl rfl ?_
        refine g_istore 23 (gd rfl) rfl (Nat.le_of_ble_eq_true rfl) ?_
        have n23 : 1 ≤ (w0_60_7).toInt := by (first | have a0 := oa6 i5 ro_60_3 i5a ((in_c 0 rfl)) i18 i17 | ((first | have a0 := in_u i5 | (have a0 := i5; unfold In at a0)); (first | have a1 := in_u ro_60_3 | (have a1 := ro_60_3; unfold In at a1)); (first | have a2 := in_u i5a | (have a2 := i5a; unfold In at a2)); (first | have a3 := in_u ((in_c 0 rfl)) | (have a3 := (in_c 0 rfl); unfold In at a3)); (first | have a4 := in_u i18 | (have a4 := i18; unfold In at a4)); (first | have a5 := in_u i17 | (have a5 := i17; unfold In at a5)))); have a6 := t_sub e17 i5a (in_c 1 rfl) rfl; (first | have a7 := in_u ((in_c 1 rfl)) | (have a7 := (in_c 1 rfl); unfold In at a7)); omega
        have n23a : (w0_60_7).toInt = w0_60_7.toInt := by (first | have a0 := oa6 i5 ro_60_3 i5a ((in_c 0 rfl)) i18 i17 | ((first | have a0 := in_u i5 | (have a0 := i5; unfold In at a0)); (first | have a1 := in_u ro_60_3 | (have a1 := ro_60_3; unfold In at a1)); (first | have a2 := in_u i5a | (have a2 := i5a; unfold In at a2)); (first | have a3 := in_u ((in_c 0 rfl)) | (have a3 := (in_c 0 rfl); unfold In at a3)); (first | have a4 := in_u i18 | (have a4 := i18; unfold In at a4)); (first | have a5 := in_u i17 | (have a5 := i17; unfold In at a5)))); have a6 := t_sub e17 i5a (in_c 1 rfl) rfl; (first | have a7 := in_u ((in_c 1 rfl)) | (have a7 := (in_c 1 rfl); unfold In at a7)); omega
        exact gg_w (by first | exact Nat.le_add_right _ _ | exact gw2 | exact gw3 | exact gwe rfl | exact gwf rfl | exact gwg rfl | exact gwh rfl | omega) (gg_f (gf_cons rfl (gf_cons rfl (gf_cons rfl (gf_cons rfl (gf_cons rfl gf_nil))))) (ct23 32 sc0 z18 (Int32.ofInt 0) w0_60_7 hIc0 hFc0 (in_w 0 31 i5 rfl) (in_w 0 31 i18 rfl) (in_w 0 31 (in_c 0 rfl) rfl) v0_60_7 n23 n23a (m_in 32 (in_w 0 31 (in_c 0 rfl) rfl) rfl)))
  refine g_enter2 (k := 50) (N := 1260941) (by first | exact dq1 hd rfl | exact dq0 hd rfl | exact dq2 hd rfl | exact dq3 hd rfl | omega) rfl (Nat.le_of_ble_eq_true rfl) ?_
  have m0 : ((s.2.2.1 60 7)).toInt < ((40 : Nat) : Int) := by (first | have a0 := oa3 ro_60_3 h2 ((show In (s.2.2.1 60 7) 0 32 from inv_F hI 0 32 rfl rfl)) | ((first | have a0 := in_u ro_60_3 | (have a0 := ro_60_3; unfold In at a0)); (first | have a1 := in_u h2 | (have a1 := h2; unfold In at a1)); (first | have a2 := in_u ((show In (s.2.2.1 60 7) 0 32 from inv_F hI 0 32 rfl rfl)) | (have a2 := (show In (s.2.2.1 60 7) 0 32 from inv_F hI 0 32 rfl rfl); unfold In at a2)))); omega
  exact gg_w (by first | exact Nat.le_of_ble_eq_true rfl | omega) (gg_f (gf_cons rfl (gf_cons rfl (gf_cons rfl gf_nil))) (ct0 40 s _ hI fr_rf rfl m0))

def fm_50_60_39 : FM := ([61], [], [(60, 7)], [])
/-- GraphHouse$Colours.takeBack -/
theorem k_50_60_39 {Z : AmZ} {A : Nat → Nat} {s : GS} {ex : va_W} {d : Nat} {X : AmX} {x2 : Int32} (hd : 1 ≤ d) (hI : Inv s) (h2 : In x2 0 32) : GC Z d 50 [.ref (A 60), .ref (A 39), .int x2] (WW Z A s ++ ex) 0 0 (fun v u => ∃ t : GS, Inv t ∧ Fr fm_50_60_39 s t ∧ v = none ∧ u = WW Z A t ++ ex) X := by
  intro post xp hP hX
  obtain ⟨u_60_3, e_60_3⟩ : ∃ w, w = s.2.2.1 60 3 := ⟨_, rfl⟩
  have ro_60_3 := inv_F hI 0 32 rfl e_60_3
  have ct0 : ∀ (k0 : Nat) (sc0 : GS) (w0_60_7 : Int32), Inv sc0 → Fr fm_50_60_39 s sc0 → (w0_60_7 = sc0.2.2.1 60 7) → (w0_60_7).toInt < (k0 : Int) → GG Z (d - 1) 50 post (gx xp) (1 + k0 * 31501) 0 (fun j => xlook j [(0, .ref (A 60)), (1, .ref (A 39)), (2, .int x2)]) [] (WW Z A sc0 ++ ex) 0 0 := by
    intro k0
    induction k0 with
    | zero => intro sc0 w0_60_7 hIc0 hFc0 v0_60_7 mm0; exfalso; (first | have a0 := oa3 h2 ro_60_3 ((inv_F hIc0 0 32 rfl v0_60_7)) | ((first | have a0 := in_u h2 | (have a0 := h2; unfold In at a0)); (first | have a1 := in_u ro_60_3 | (have a1 := ro_60_3; unfold In at a1)); (first | have a2 := in_u ((inv_F hIc0 0 32 rfl v0_60_7)) | (have a2 := (inv_F hIc0 0 32 rfl v0_60_7); unfold In at a2)))); omega
    | succ k0 ih0 =>
      intro sc0 w0_60_7 hIc0 hFc0 v0_60_7 mm0
      refine gg_w (M := 1 + k0 * 31501 + 31501) gws ?_
      have ct23 : ∀ (k23 : Nat) (sc23 : GS) (y23_3 : Int32) (y23_4 : Int32) (w23_60_7 : Int32), Inv sc23 → Fr fm_50_60_39 s sc23 → (In x2 0 31) → (In y23_3 0 31) → (In y23_4 0 31) → (w23_60_7 = sc23.2.2.1 60 7) → (1 ≤ (w23_60_7).toInt) → ((w23_60_7).toInt = w0_60_7.toInt) → 31 - (y23_4).toInt < (k23 : Int) → GG Z (d - 1) 50 post (gx xp) (1 + k0 * 31501 + 1 + k23 * 900) 23 (fun j => xlook j [(0, .ref (A 60)), (1, .ref (A 39)), (2, .int x2), (3, .int y23_3), (4, .int y23_4)]) [] (WW Z A sc23 ++ ex) 0 0 := by
        intro k23
        induction k23 with
        | zero => intro sc23 y23_3 y23_4 w23_60_7 hIc23 hFc23 j23_2 j23_3 j23_4 v23_60_7 n23_0 n23_1 mm23; exact m_no mm23 j23_4 rfl
        | succ k23 ih23 =>
          intro sc23 y23_3 y23_4 w23_60_7 hIc23 hFc23 j23_2 j23_3 j23_4 v23_60_7 n23_0 n23_1 mm23
          refine gg_w (M := 1 + k0 * 31501 + 1 + k23 * 900 + 900) gws ?_
          refine g_iload 25 (gd rfl) rfl rfl ?_
          refine g_aload_n 26 (gd rfl) rfl rfl ?_
          refine g_getI 29 (gd rfl) rfl rfl rfl (fun z26 e26 => ?_)
          have q26 : u_60_3 = z26 := (fr_F e_60_3 hFc23 rfl).trans e26.symm
          subst q26
          refine g_iconst 1 30 (gd rfl) rfl rfl ?_
          refine g_isub 31 (gd rfl) rfl (fun z30 e30 => ?_)
          have i30 := in_sub (-1) 31 e30 ro_60_3 (in_c 1 rfl) rfl rfl
          refine g_cmp_ge 34 54 (gd rfl) rfl rfl (fun c31 => ?_) (fun c31 => ?_)
          · skip
            refine g_aload_n 55 (gd rfl) rfl rfl ?_
            refine g_getA (q2 := 61) 58 (gd rfl) rfl rfl rfl rfl ?_
            refine g_iload 60 (gd rfl) rfl rfl ?_
            refine g_dup2 61 (gd rfl) rfl rfl rfl ?_
            refine g_iaload 62 (gd rfl) rfl (n := 32) rfl (in_ix j23_4 rfl) (fun z61 e61 => ?_)
            refine g_iconst 1 63 (gd rfl) rfl rfl ?_
            refine g_iload_n 64 (gd rfl) rfl rfl ?_
            refine g_ishl 65 (gd rfl) rfl (fun z64 e64 => ?_)
            refine g_ior 66 (gd rfl) rfl (fun z65 e65 => ?_)
            refine g_iastore 67 (gd rfl) rfl (n := 32) rfl (in_ix j23_4 rfl) ?_
            have hI66 := inv_sI (q := 61) (j := y23_4.toNatClampNeg) hIc23 rfl (in_w (-2147483648) 2147483647 (i_rng z65) rfl)
            refine g_aload_n 68 (gd rfl) rfl rfl ?_
            refine g_dup 69 (gd rfl) rfl rfl ?_
            refine g_getI 72 (gd rfl) rfl rfl rfl (fun z69 e69 => ?_)
            have q69 : w23_60_7 = z69 := (sI_F (v23_60_7)).trans e69.symm
            subst q69
            refine g_iconst 1 73 (gd rfl) rfl rfl ?_
            refine g_isub 74 (gd rfl) rfl (fun z73 e73 => ?_)
            have i73 := in_sub (-1) 31 e73 (inv_F hIc23 0 32 rfl v23_60_7) (in_c 1 rfl) rfl rfl
            have i74 : In z73 0 32 := by (first | have a0 := oa6 j23_2 ro_60_3 ((inv_F hIc23 0 32 rfl v23_60_7)) j23_4 j23_3 i73 | ((first | have a0 := in_u j23_2 | (have a0 := j23_2; unfold In at a0)); (first | have a1 := in_u ro_60_3 | (have a1 := ro_60_3; unfold In at a1)); (first | have a2 := in_u ((inv_F hIc23 0 32 rfl v23_60_7)) | (have a2 := (inv_F hIc23 0 32 rfl v23_60_7); unfold In at a2)); (first | have a3 := in_u j23_4 | (have a3 := j23_4; unfold In at a3)); (first | have a4 := in_u j23_3 | (have a4 := j23_3; unfold In at a4)); (first | have a5 := in_u i73 | (have a5 := i73; unfold In at a5)))); have a6 := t_sub e73 (inv_F hIc23 0 32 rfl v23_60_7) (in_c 1 rfl) rfl; (first | have a7 := oa2 ((in_c 1 rfl)) i30 | ((first | have a7 := in_u ((in_c 1 rfl)) | (have a7 := (in_c 1 rfl); unfold In at a7)); (first | have a8 := in_u i30 | (have a8 := i30; unfold In at a8)))); have a9 := t_sub e30 ro_60_3 (in_c 1 rfl) rfl; exact ⟨by omega, by omega⟩
            refine g_putI 77 (gd rfl) rfl rfl rfl rfl ?_
            have hI74 := inv_sF (q := 60) (j := 7) hI66 rfl (in_w 0 32 i74 rfl)
            refine g_goto 0 (gd rfl) rfl ?_
            have v0 : z73 = (sF (sI sc23 61 y23_4.toNatClampNeg z65) 60 7 z73).2.2.1 60 7 := sF_get
            have m0 : (z73).toInt < ((k0 : Nat) : Int) := by (first | have a0 := oa6 j23_2 ro_60_3 ((inv_F hIc23 0 32 rfl v23_60_7)) j23_4 j23_3 i74 | ((first | have a0 := in_u j23_2 | (have a0 := j23_2; unfold In at a0)); (first | have a1 := in_u ro_60_3 | (have a1 := ro_60_3; unfold In at a1)); (first | have a2 := in_u ((inv_F hIc23 0 32 rfl v23_60_7)) | (have a2 := (inv_F hIc23 0 32 rfl v23_60_7); unfold In at a2)); (first | have a3 := in_u j23_4 | (have a3 := j23_4; unfold In at a3)); (first | have a4 := in_u j23_3 | (have a4 := j23_3; unfold In at a4)); (first | have a5 := in_u i74 | (have a5 := i74; unfold In at a5)))); have a6 := t_sub e73 (inv_F hIc23 0 32 rfl v23_60_7) (in_c 1 rfl) rfl; (first | have a7 := oa2 ((in_c 1 rfl)) i30 | ((first | have a7 := in_u ((in_c 1 rfl)) | (have a7 := (in_c 1 rfl); unfold In at a7)); (first | have a8 := in_u i30 | (have a8 := i30; unfold In at a8)))); have a9 := t_sub e30 ro_60_3 (in_c 1 rfl) rfl; omega
            exact gg_w (by first | exact Nat.le_add_right _ _ | exact gw2 | exact gw3 | exact gwe rfl | exact gwf rfl | exact gwg rfl | exact gwh rfl | omega) (gg_f (gf_cons rfl (gf_cons rfl (gf_cons rfl gf_nil))) (ih0  (sF (sI sc23 61 y23_4.toNatClampNeg z65) 60 7 z73) z73 hI74 (fr_sF rfl (fr_sI rfl hFc23)) v0 m0))
          · skip
            have i31 := r_lt1 0 30 c31 j23_4 i30 rfl
            have i31a := r_lt2 1 31 c31 j23_4 i30 rfl
            refine g_aload_n 35 (gd rfl) rfl rfl ?_
            refine g_getA (q2 := 61) 38 (gd rfl) rfl rfl rfl rfl ?_
            refine g_iload 40 (gd rfl) rfl rfl ?_
            refine g_iaload 41 (gd rfl) rfl (n := 32) rfl (in_ix i31 rfl) (fun z40 e40 => ?_)
            refine g_aload_n 42 (gd rfl) rfl rfl ?_
            refine g_iload_n 43 (gd rfl) rfl rfl ?_
            refine g_iaload 44 (gd rfl) rfl (n := 32) rfl (in_ix j23_3 rfl) (fun z43 e43 => ?_)
            refine g_iand 45 (gd rfl) rfl (fun z44 e44 => ?_)
            refine g_if_eq 48 54 (gd rfl) rfl rfl (fun c45 => ?_) (fun c45 => ?_)
            · skip
              have i45 := z_eq 0 0 c45 (i_rng z44) rfl
              refine g_aload_n 55 (gd rfl) rfl rfl ?_
              refine g_getA (q2 := 61) 58 (gd rfl) rfl rfl rfl rfl ?_
              refine g_iload 60 (gd rfl) rfl rfl ?_
              refine g_dup2 61 (gd rfl) rfl rfl rfl ?_
              refine g_iaload 62 (gd rfl) rfl (n := 32) rfl (in_ix i31 rfl) (fun z61 e61 => ?_)
              have q61 : z40 = z61 := (e40).trans e61.symm
              subst q61
              refine g_iconst 1 63 (gd rfl) rfl rfl ?_
              refine g_iload_n 64 (gd rfl) rfl rfl ?_
              refine g_ishl 65 (gd rfl) rfl (fun z64 e64 => ?_)
              refine g_ior 66 (gd rfl) rfl (fun z65 e65 => ?_)
              refine g_iastore 67 (gd rfl) rfl (n := 32) rfl (in_ix i31 rfl) ?_
              have hI66 := inv_sI (q := 61) (j := y23_4.toNatClampNeg) hIc23 rfl (in_w (-2147483648) 2147483647 (i_rng z65) rfl)
              refine g_aload_n 68 (gd rfl) rfl rfl ?_
              refine g_dup 69 (gd rfl) rfl rfl ?_
              refine g_getI 72 (gd rfl) rfl rfl rfl (fun z69 e69 => ?_)
              have q69 : w23_60_7 = z69 := (sI_F (v23_60_7)).trans e69.symm
              subst q69
              refine g_iconst 1 73 (gd rfl) rfl rfl ?_
              refine g_isub 74 (gd rfl) rfl (fun z73 e73 => ?_)
              have i73 := in_sub (-1) 31 e73 (inv_F hIc23 0 32 rfl v23_60_7) (in_c 1 rfl) rfl rfl
              have i74 : In z73 0 32 := by (first | have a0 := oa6 j23_2 ro_60_3 ((inv_F hIc23 0 32 rfl v23_60_7)) i31 j23_3 i73 | ((first | have a0 := in_u j23_2 | (have a0 := j23_2; unfold In at a0)); (first | have a1 := in_u ro_60_3 | (have a1 := ro_60_3; unfold In at a1)); (first | have a2 := in_u ((inv_F hIc23 0 32 rfl v23_60_7)) | (have a2 := (inv_F hIc23 0 32 rfl v23_60_7); unfold In at a2)); (first | have a3 := in_u i31 | (have a3 := i31; unfold In at a3)); (first | have a4 := in_u j23_3 | (have a4 := j23_3; unfold In at a4)); (first | have a5 := in_u i73 | (have a5 := i73; unfold In at a5)))); have a6 := t_sub e73 (inv_F hIc23 0 32 rfl v23_60_7) (in_c 1 rfl) rfl; (first | have a7 := oa2 ((in_c 1 rfl)) i31a | ((first | have a7 := in_u ((in_c 1 rfl)) | (have a7 := (in_c 1 rfl); unfold In at a7)); (first | have a8 := in_u i31a | (have a8 := i31a; unfold In at a8)))); have a9 := t_sub e30 ro_60_3 (in_c 1 rfl) rfl; exact ⟨by omega, by omega⟩
              refine g_putI 77 (gd rfl) rfl rfl rfl rfl ?_
              have hI74 := inv_sF (q := 60) (j := 7) hI66 rfl (in_w 0 32 i74 rfl)
              refine g_goto 0 (gd rfl) rfl ?_
              have v0 : z73 = (sF (sI sc23 61 y23_4.toNatClampNeg z65) 60 7 z73).2.2.1 60 7 := sF_get
              have m0 : (z73).toInt < ((k0 : Nat) : Int) := by (first | have a0 := oa6 j23_2 ro_60_3 ((inv_F hIc23 0 32 rfl v23_60_7)) i31 j23_3 i74 | ((first | have a0 := in_u j23_2 | (have a0 := j23_2; unfold In at a0)); (first | have a1 := in_u ro_60_3 | (have a1 := ro_60_3; unfold In at a1)); (first | have a2 := in_u ((inv_F hIc23 0 32 rfl v23_60_7)) | (have a2 := (inv_F hIc23 0 32 rfl v23_60_7); unfold In at a2)); (first | have a3 := in_u i31 | (have a3 := i31; unfold In at a3)); (first | have a4 := in_u j23_3 | (have a4 := j23_3; unfold In at a4)); (first | have a5 := in_u i74 | (have a5 := i74; unfold In at a5)))); have a6 := t_sub e73 (inv_F hIc23 0 32 rfl v23_60_7) (in_c 1 rfl) rfl; (first | have a7 := oa2 ((in_c 1 rfl)) i31a | ((first | have a7 := in_u ((in_c 1 rfl)) | (have a7 := (in_c 1 rfl); unfold In at a7)); (first | have a8 := in_u i31a | (have a8 := i31a; unfold In at a8)))); have a9 := t_sub e30 ro_60_3 (in_c 1 rfl) rfl; omega
              exact gg_w (by first | exact Nat.le_add_right _ _ | exact gw2 | exact gw3 | exact gwe rfl | exact gwf rfl | exact gwg rfl | exact gwh rfl | omega) (gg_f (gf_cons rfl (gf_cons rfl (gf_cons rfl gf_nil))) (ih0  (sF (sI sc23 61 y23_4.toNatClampNeg z65) 60 7 z73) z73 hI74 (fr_sF rfl (fr_sI rfl hFc23)) v0 m0))
            · skip
              refine g_iinc 51 (gd rfl) rfl rfl (Nat.le_of_ble_eq_true rfl) (fun z48 e48 => ?_)
              have i48 := in_add 1 31 e48 i31 (in_c 1 rfl) rfl rfl
              refine g_goto 23 (gd rfl) rfl ?_
              have n23 : 1 ≤ (w23_60_7).toInt := by first | exact n23_0 | ((first | have a0 := oa6 j23_2 ro_60_3 ((inv_F hIc23 0 32 rfl v23_60_7)) i31 j23_3 i48 | ((first | have a0 := in_u j23_2 | (have a0 := j23_2; unfold In at a0)); (first | have a1 := in_u ro_60_3 | (have a1 := ro_60_3; unfold In at a1)); (first | have a2 := in_u ((inv_F hIc23 0 32 rfl v23_60_7)) | (have a2 := (inv_F hIc23 0 32 rfl v23_60_7); unfold In at a2)); (first | have a3 := in_u i31 | (have a3 := i31; unfold In at a3)); (first | have a4 := in_u j23_3 | (have a4 := j23_3; unfold In at a4)); (first | have a5 := in_u i48 | (have a5 := i48; unfold In at a5)))); have a6 := t_add e48 i31 (in_c 1 rfl) rfl; (first | have a7 := oa2 ((in_c 1 rfl)) i31a | ((first | have a7 := in_u ((in_c 1 rfl)) | (have a7 := (in_c 1 rfl); unfold In at a7)); (first | have a8 := in_u i31a | (have a8 := i31a; unfold In at a8)))); have a9 := t_sub e30 ro_60_3 (in_c 1 rfl) rfl; omega)
              have n23a : (w23_60_7).toInt = w0_60_7.toInt := by first | exact n23_1 | ((first | have a0 := oa6 j23_2 ro_60_3 ((inv_F hIc23 0 32 rfl v23_60_7)) i31 j23_3 i48 | ((first | have a0 := in_u j23_2 | (have a0 := j23_2; unfold In at a0)); (first | have a1 := in_u ro_60_3 | (have a1 := ro_60_3; unfold In at a1)); (first | have a2 := in_u ((inv_F hIc23 0 32 rfl v23_60_7)) | (have a2 := (inv_F hIc23 0 32 rfl v23_60_7); unfold In at a2)); (first | have a3 := in_u i31 | (have a3 := i31; unfold In at a3)); (first | have a4 := in_u j23_3 | (have a4 := j23_3; unfold In at a4)); (first | have a5 := in_u i48 | (have a5 := i48; unfold In at a5)))); have a6 := t_add e48 i31 (in_c 1 rfl) rfl; (first | have a7 := oa2 ((in_c 1 rfl)) i31a | ((first | have a7 := in_u ((in_c 1 rfl)) | (have a7 := (in_c 1 rfl); unfold In at a7)); (first | have a8 := in_u i31a | (have a8 := i31a; unfold In at a8)))); have a9 := t_sub e30 ro_60_3 (in_c 1 rfl) rfl; omega)
              exact gg_w (by first | exact Nat.le_add_right _ _ | exact gw2 | exact gw3 | exact gwe rfl | exact gwf rfl | exact gwg rfl | exact gwh rfl | omega) (gg_f (gf_cons rfl (gf_cons rfl (gf_cons rfl (gf_cons rfl (gf_cons rfl gf_nil))))) (ih23 sc23 y23_3 z48 w23_60_7 hIc23 hFc23 (in_w 0 31 j23_2 rfl) (in_w 0 31 j23_3 rfl) (in_w 0 31 i48 rfl) v23_60_7 n23 n23a (m_up mm23 (t_add e48 i31 (in_c 1 rfl) rfl) (in_w 1 1 (in_c 1 rfl) rfl))))
      refine g_aload_n 1 (gd rfl) rfl rfl ?_
      refine g_getI 4 (gd rfl) rfl rfl rfl (fun z1 e1 => ?_)
      have q1 : w0_60_7 = z1 := (v0_60_7).trans e1.symm
      subst q1
      refine g_iload_n 5 (gd rfl) rfl rfl ?_
      refine g_cmp_le 8 80 (gd rfl) rfl rfl (fun c5 => ?_) (fun c5 => ?_)
      · skip
        exact g_return (gd rfl) rfl (hP _ _ ⟨sc0, hIc0, hFc0, rfl, rfl⟩)
      · skip
        have i5 := r_lt1 0 31 c5 h2 (inv_F hIc0 0 32 rfl v0_60_7) rfl
        have i5a := r_lt2 1 32 c5 h2 (inv_F hIc0 0 32 rfl v0_60_7) rfl
        refine g_aload_n 9 (gd rfl) rfl rfl ?_
        refine g_getA (q2 := 63) 12 (gd rfl) rfl rfl rfl rfl ?_
        refine g_aload_n 13 (gd rfl) rfl rfl ?_
        refine g_getI 16 (gd rfl) rfl rfl rfl (fun z13 e13 => ?_)
        have q13 : w0_60_7 = z13 := (v0_60_7).trans e13.symm
        subst q13
        refine g_iconst 1 17 (gd rfl) rfl rfl ?_
        refine g_isub 18 (gd rfl) rfl (fun z17 e17 => ?_)
        have i17 := in_sub 0 31 e17 i5a (in_c 1 rfl) rfl rfl
        refine g_iaload 19 (gd rfl) rfl (n := 32) rfl (in_ix i17 rfl) (fun z18 e18 => ?_)
        have i18 := inv_I hIc0 (n := 32) (t := 0) 0 31 rfl (in_ix i17 rfl) rfl e18
        refine g_istore_n 20 (gd rfl) rfl (Nat.le_of_ble_eq_true rfl) ?_
        refine g_iconst 0 21 (gd rfl) rfl rfl ?_
        refine g_istore 23 (gd rfl) rfl (Nat.le_of_ble_eq_true rfl) ?_
        have n23 : 1 ≤ (w0_60_7).toInt := by (first | have a0 := oa6 i5 ro_60_3 i5a ((in_c 0 rfl)) i18 i17 | ((first | have a0 := in_u i5 | (have a0 := i5; unfold In at a0)); (first | have a1 := in_u ro_60_3 | (have a1 := ro_60_3; unfold In at a1)); (first | have a2 := in_u i5a | (have a2 := i5a; unfold In at a2)); (first | have a3 := in_u ((in_c 0 rfl)) | (have a3 := (in_c 0 rfl); unfold In at a3)); (first | have a4 := in_u i18 | (have a4 := i18; unfold In at a4)); (first | have a5 := in_u i17 | (have a5 := i17; unfold In at a5)))); have a6 := t_sub e17 i5a (in_c 1 rfl) rfl; (first | have a7 := in_u ((in_c 1 rfl)) | (have a7 := (in_c 1 rfl); unfold In at a7)); omega
        have n23a : (w0_60_7).toInt = w0_60_7.toInt := by (first | have a0 := oa6 i5 ro_60_3 i5a ((in_c 0 rfl)) i18 i17 | ((first | have a0 := in_u i5 | (have a0 := i5; unfold In at a0)); (first | have a1 := in_u ro_60_3 | (have a1 := ro_60_3; unfold In at a1)); (first | have a2 := in_u i5a | (have a2 := i5a; unfold In at a2)); (first | have a3 := in_u ((in_c 0 rfl)) | (have a3 := (in_c 0 rfl); unfold In at a3)); (first | have a4 := in_u i18 | (have a4 := i18; unfold In at a4)); (first | have a5 := in_u i17 | (have a5 := i17; unfold In at a5)))); have a6 := t_sub e17 i5a (in_c 1 rfl) rfl; (first | have a7 := in_u ((in_c 1 rfl)) | (have a7 := (in_c 1 rfl); unfold In at a7)); omega
        exact gg_w (by first | exact Nat.le_add_right _ _ | exact gw2 | exact gw3 | exact gwe rfl | exact gwf rfl | exact gwg rfl | exact gwh rfl | omega) (gg_f (gf_cons rfl (gf_cons rfl (gf_cons rfl (gf_cons rfl (gf_cons rfl gf_nil))))) (ct23 32 sc0 z18 (Int32.ofInt 0) w0_60_7 hIc0 hFc0 (in_w 0 31 i5 rfl) (in_w 0 31 i18 rfl) (in_w 0 31 (in_c 0 rfl) rfl) v0_60_7 n23 n23a (m_in 32 (in_w 0 31 (in_c 0 rfl) rfl) rfl)))
  refine g_enter2 (k := 50) (N := 1260941) (by first | exact dq1 hd rfl | exact dq0 hd rfl | exact dq2 hd rfl | exact dq3 hd rfl | omega) rfl (Nat.le_of_ble_eq_true rfl) ?_
  have m0 : ((s.2.2.1 60 7)).toInt < ((40 : Nat) : Int) := by (first | have a0 := oa3 ro_60_3 h2 ((show In (s.2.2.1 60 7) 0 32 from inv_F hI 0 32 rfl rfl)) | ((first | have a0 := in_u ro_60_3 | (have a0 := ro_60_3; unfold In at a0)); (first | have a1 := in_u h2 | (have a1 := h2; unfold In at a1)); (first | have a2 := in_u ((show In (s.2.2.1 60 7) 0 32 from inv_F hI 0 32 rfl rfl)) | (have a2 := (show In (s.2.2.1 60 7) 0 32 from inv_F hI 0 32 rfl rfl); unfold In at a2)))); omega
  exact gg_w (by first | exact Nat.le_of_ble_eq_true rfl | omega) (gg_f (gf_cons rfl (gf_cons rfl (gf_cons rfl gf_nil))) (ct0 40 s _ hI fr_rf rfl m0))

/-- GraphHouse$Colours.freeColours -/
theorem k_51_60 {Z : AmZ} {A : Nat → Nat} {s : GS} {ex : va_W} {d : Nat} {X : AmX} {x1 : Int32} (hd : 1 ≤ d) (hI : Inv s)  : GC Z d 51 [.ref (A 60), .int x1] (WW Z A s ++ ex) 0 0 (fun v u => ∃ z : Int32, v = some (.int z) ∧ u = WW Z A s ++ ex ∧ In z 0 32) X := by
  intro post xp hP hX
  obtain ⟨u_60_3, e_60_3⟩ : ∃ w, w = s.2.2.1 60 3 := ⟨_, rfl⟩
  have ro_60_3 := inv_F hI 0 32 rfl e_60_3
  have ct4 : ∀ (k4 : Nat) (y4_2 : Int32) (y4_3 : Int32), (In y4_2 0 32) → (In y4_3 0 32) → ((y4_2).toInt ≤ (y4_3).toInt + 0) → 32 - (y4_3).toInt < (k4 : Int) → GG Z (d - 1) 51 post (gx xp) (1 + k4 * 900) 4 (fun j => xlook j [(0, .ref (A 60)), (1, .int x1), (2, .int y4_2), (3, .int y4_3)]) [] (WW Z A s ++ ex) 0 0 := by
    intro k4
    induction k4 with
    | zero => intro y4_2 y4_3 j4_2 j4_3 l4_2 mm4; exact m_no mm4 j4_3 rfl
    | succ k4 ih4 =>
      intro y4_2 y4_3 j4_2 j4_3 l4_2 mm4
      refine gg_w (M := 1 + k4 * 900 + 900) gws ?_
      refine g_iload_n 5 (gd rfl) rfl rfl ?_
      refine g_aload_n 6 (gd rfl) rfl rfl ?_
      refine g_getI 9 (gd rfl) rfl rfl rfl (fun z6 e6 => ?_)
      have q6 : u_60_3 = z6 := (e_60_3).trans e6.symm
      subst q6
      refine g_cmp_ge 12 32 (gd rfl) rfl rfl (fun c9 => ?_) (fun c9 => ?_)
      · skip
        refine g_iload_n 33 (gd rfl) rfl rfl ?_
        exact g_ireturn (gd rfl) rfl rfl (hP _ _ ⟨y4_2, rfl, rfl, in_w 0 32 j4_2 rfl⟩)
      · skip
        have i9 := r_lt1 0 31 c9 j4_3 ro_60_3 rfl
        have i9a := r_lt2 1 32 c9 j4_3 ro_60_3 rfl
        refine g_aload_n 13 (gd rfl) rfl rfl ?_
        refine g_getA (q2 := 61) 16 (gd rfl) rfl rfl rfl rfl ?_
        refine g_iload_n 17 (gd rfl) rfl rfl ?_
        refine g_iaload 18 (gd rfl) rfl (n := 32) rfl (in_ix i9 rfl) (fun z17 e17 => ?_)
        refine g_iload_n 19 (gd rfl) rfl rfl ?_
        refine g_iand 20 (gd rfl) rfl (fun z19 e19 => ?_)
        refine g_if_ne 23 26 (gd rfl) rfl rfl (fun c20 => ?_) (fun c20 => ?_)
        · skip
          refine g_iinc 29 (gd rfl) rfl rfl (Nat.le_of_ble_eq_true rfl) (fun z26 e26 => ?_)
          have i26 := in_add 1 32 e26 i9 (in_c 1 rfl) rfl rfl
          refine g_goto 4 (gd rfl) rfl ?_
          have l4 := rl_0 l4_2 (t_add e26 i9 (in_c 1 rfl) rfl) (in_w 0 1 (in_c 1 rfl) rfl)
          exact gg_w (by first | exact Nat.le_add_right _ _ | exact gw2 | exact gw3 | exact gwe rfl | exact gwf rfl | exact gwg rfl | exact gwh rfl | omega) (gg_f (gf_cons rfl (gf_cons rfl (gf_cons rfl (gf_cons rfl gf_nil)))) (ih4  y4_2 z26  (rl_w 0 32 l4 j4_2 (in_w 0 32 i26 rfl) rfl) (in_w 0 32 i26 rfl) l4 (m_up mm4 (t_add e26 i9 (in_c 1 rfl) rfl) (in_w 1 1 (in_c 1 rfl) rfl))))
        · skip
          have i20 := z_eq 0 0 c20 (i_rng z19) rfl
          refine g_iinc 26 (gd rfl) rfl rfl (Nat.le_of_ble_eq_true rfl) (fun z23 e23 => ?_)
          have i23 := in_add 1 33 e23 j4_2 (in_c 1 rfl) rfl rfl
          refine g_iinc 29 (gd rfl) rfl rfl (Nat.le_of_ble_eq_true rfl) (fun z26 e26 => ?_)
          have i26 := in_add 1 32 e26 i9 (in_c 1 rfl) rfl rfl
          refine g_goto 4 (gd rfl) rfl ?_
          have l4 := rl_1 l4_2 (t_add e23 j4_2 (in_c 1 rfl) rfl) (in_c 1 rfl) (t_add e26 i9 (in_c 1 rfl) rfl) (in_c 1 rfl) rfl
          exact gg_w (by first | exact Nat.le_add_right _ _ | exact gw2 | exact gw3 | exact gwe rfl | exact gwf rfl | exact gwg rfl | exact gwh rfl | omega) (gg_f (gf_cons rfl (gf_cons rfl (gf_cons rfl (gf_cons rfl gf_nil)))) (ih4  z23 z26  (rl_w 0 32 l4 i23 (in_w 0 32 i26 rfl) rfl) (in_w 0 32 i26 rfl) l4 (m_up mm4 (t_add e26 i9 (in_c 1 rfl) rfl) (in_w 1 1 (in_c 1 rfl) rfl))))
  refine g_enter2 (k := 51) (N := 30601) (by first | exact dq1 hd rfl | exact dq0 hd rfl | exact dq2 hd rfl | exact dq3 hd rfl | omega) rfl (Nat.le_of_ble_eq_true rfl) ?_
  refine g_iconst 0 1 (gd rfl) rfl rfl ?_
  refine g_istore_n 2 (gd rfl) rfl (Nat.le_of_ble_eq_true rfl) ?_
  refine g_iconst 0 3 (gd rfl) rfl rfl ?_
  refine g_istore_n 4 (gd rfl) rfl (Nat.le_of_ble_eq_true rfl) ?_
  have l4 := rl_in 0 (in_c 0 rfl) (in_c 0 rfl) rfl
  exact gg_w (by first | exact Nat.le_of_ble_eq_true rfl | omega) (gg_f (gf_cons rfl (gf_cons rfl (gf_cons rfl (gf_cons rfl gf_nil)))) (ct4 33  (Int32.ofInt 0) (Int32.ofInt 0)  (rl_w 0 32 l4 (in_c 0 rfl) (in_w 0 32 (in_c 0 rfl) rfl) rfl) (in_w 0 32 (in_c 0 rfl) rfl) l4 (m_in 33 (in_w 0 32 (in_c 0 rfl) rfl) rfl)))

/-- GraphHouse$Colours.tightest -/
theorem k_52_60_9 {Z : AmZ} {A : Nat → Nat} {s : GS} {ex : va_W} {d : Nat} {X : AmX} {x2 : Int32} (hd : 4 ≤ d) (hI : Inv s) (nza_2 : x2.toInt ≠ 0) : GC Z d 52 [.ref (A 60), .ref (A 9), .int x2] (WW Z A s ++ ex) 0 0 (fun v u => ∃ z : Int32, v = some (.int z) ∧ u = WW Z A s ++ ex ∧ In z 0 31) X := by
  intro post xp hP hX
  have ct12 : ∀ (k12 : Nat) (y12_3 : Int32) (y12_4 : Int32) (y12_5 : Int32), (In y12_3 0 31) → (In y12_4 (-32) 32768) → ((y12_5.toBitVec.toNat : Nat) : Int) < (k12 : Int) → GG Z (d - 1) 52 post (gx xp) (1 + k12 * 900) 12 (fun j => xlook j [(0, .ref (A 60)), (1, .ref (A 9)), (2, .int x2), (3, .int y12_3), (4, .int y12_4), (5, .int y12_5)]) [] (WW Z A s ++ ex) 0 0 := by
    intro k12
    induction k12 with
    | zero => intro y12_3 y12_4 y12_5 j12_3 j12_4 mm12; exact absurd mm12 (Int.not_lt.mpr (Int.natCast_nonneg _))
    | succ k12 ih12 =>
      intro y12_3 y12_4 y12_5 j12_3 j12_4 mm12
      refine gg_w (M := 1 + k12 * 900 + 900) gws ?_
      refine g_iload 14 (gd rfl) rfl rfl ?_
      refine g_if_eq 17 73 (gd rfl) rfl rfl (fun c14 => ?_) (fun c14 => ?_)
      · skip
        have i14 := z_eq 0 0 c14 (i_rng y12_5) rfl
        refine g_iload_n 74 (gd rfl) rfl rfl ?_
        exact g_ireturn (gd rfl) rfl rfl (hP _ _ ⟨y12_3, rfl, rfl, in_w 0 31 j12_3 rfl⟩)
      · skip
        refine g_iload 19 (gd rfl) rfl rfl ?_
        refine g_calls (As := [.int y12_5]) (r := []) 22 (gd rfl) rfl rfl rfl rfl rfl (Nat.le_of_ble_eq_true rfl) (Nat.zero_le _) (Nat.zero_le _) (k_264n (by first | exact dq1 hd rfl | exact dq0 hd rfl | exact dq2 hd rfl | exact dq3 hd rfl | omega) c14) (fun v u h => ?_)
        obtain ⟨z19, rfl, rfl, i19, hb19, hl19⟩ := h
        show GG _ _ _ _ _ _ _ _ [.int z19] _ _ _
        refine g_istore 24 (gd rfl) rfl (Nat.le_of_ble_eq_true rfl) ?_
        refine g_aload_n 25 (gd rfl) rfl rfl ?_
        refine g_aload_n 26 (gd rfl) rfl rfl ?_
        refine g_iload 28 (gd rfl) rfl rfl ?_
        refine g_iaload 29 (gd rfl) rfl (n := 32) rfl (in_ix i19 rfl) (fun z28 e28 => ?_)
        refine g_callv (X := _) (As := [.int z28]) (r := []) (b := A 60) (q := 60) 32 (gd rfl) rfl rfl rfl rfl rfl (ww_o rfl) (Nat.le_of_ble_eq_true rfl) (Nat.zero_le _) (Nat.zero_le _) (k_51_60 (by first | exact dq1 hd rfl | exact dq0 hd rfl | exact dq2 hd rfl | exact dq3 hd rfl | omega) hI ) (fun e u h => h) (fun v u h => ?_)
        obtain ⟨z29, rfl, rfl, i29⟩ := h
        show GG _ _ _ _ _ _ _ _ [.int z29] _ _ _
        refine g_bipush 64 34 (gd rfl) rfl rfl ?_
        refine g_imul 35 (gd rfl) rfl (fun z34 e34 => ?_)
        have i34 := in_mulc 64 0 2048 (Or.inr e34) i29 rfl rfl
        refine g_aload_n 36 (gd rfl) rfl rfl ?_
        refine g_iload 38 (gd rfl) rfl rfl ?_
        refine g_iaload 39 (gd rfl) rfl (n := 32) rfl (in_ix i19 rfl) (fun z38 e38 => ?_)
        have q38 : z28 = z38 := (e28).trans e38.symm
        subst q38
        refine g_iload_n 40 (gd rfl) rfl rfl ?_
        refine g_iand 41 (gd rfl) rfl (fun z40 e40 => ?_)
        refine g_calls (As := [.int z40]) (r := [.int z34]) 44 (gd rfl) rfl rfl rfl rfl rfl (Nat.le_of_ble_eq_true rfl) (Nat.zero_le _) (Nat.zero_le _) (k_414b (by first | exact dq1 hd rfl | exact dq0 hd rfl | exact dq2 hd rfl | exact dq3 hd rfl | omega) hI ) (fun v u h => ?_)
        obtain ⟨z41, rfl, rfl, i41⟩ := h
        show GG _ _ _ _ _ _ _ _ [.int z41, .int z34] _ _ _
        refine g_isub 45 (gd rfl) rfl (fun z44 e44 => ?_)
        have i44 := in_sub (-32) 2048 e44 i34 i41 rfl rfl
        refine g_istore 47 (gd rfl) rfl (Nat.le_of_ble_eq_true rfl) ?_
        refine g_iload 49 (gd rfl) rfl rfl ?_
        refine g_iload 51 (gd rfl) rfl rfl ?_
        refine g_cmp_ge 54 61 (gd rfl) rfl rfl (fun c51 => ?_) (fun c51 => ?_)
        · skip
          have i51 := r_le1 (-32) 2048 c51 j12_4 i44 rfl
          refine g_iload 63 (gd rfl) rfl rfl ?_
          refine g_iload 65 (gd rfl) rfl rfl ?_
          refine g_iconst 1 66 (gd rfl) rfl rfl ?_
          refine g_isub 67 (gd rfl) rfl (fun z66 e66 => ?_)
          refine g_iand 68 (gd rfl) rfl (fun z67 e67 => ?_)
          refine g_istore 70 (gd rfl) rfl (Nat.le_of_ble_eq_true rfl) ?_
          refine g_goto 12 (gd rfl) rfl ?_
          exact gg_w (by first | exact Nat.le_add_right _ _ | exact gw2 | exact gw3 | exact gwe rfl | exact gwf rfl | exact gwg rfl | exact gwh rfl | omega) (gg_f (gf_cons rfl (gf_cons rfl (gf_cons rfl (gf_cons rfl (gf_cons rfl (gf_cons rfl gf_nil)))))) (ih12  y12_3 y12_4 z67  (in_w 0 31 j12_3 rfl) (in_w (-32) 32768 i51 rfl) (mb e67 e66 c14 mm12)))
        · skip
          have i51 := r_lt2 (-31) 32768 c51 i44 j12_4 rfl
          refine g_iload 56 (gd rfl) rfl rfl ?_
          refine g_istore 58 (gd rfl) rfl (Nat.le_of_ble_eq_true rfl) ?_
          refine g_iload 60 (gd rfl) rfl rfl ?_
          refine g_istore_n 61 (gd rfl) rfl (Nat.le_of_ble_eq_true rfl) ?_
          refine g_iload 63 (gd rfl) rfl rfl ?_
          refine g_iload 65 (gd rfl) rfl rfl ?_
          refine g_iconst 1 66 (gd rfl) rfl rfl ?_
          refine g_isub 67 (gd rfl) rfl (fun z66 e66 => ?_)
          refine g_iand 68 (gd rfl) rfl (fun z67 e67 => ?_)
          refine g_istore 70 (gd rfl) rfl (Nat.le_of_ble_eq_true rfl) ?_
          refine g_goto 12 (gd rfl) rfl ?_
          exact gg_w (by first | exact Nat.le_add_right _ _ | exact gw2 | exact gw3 | exact gwe rfl | exact gwf rfl | exact gwg rfl | exact gwh rfl | omega) (gg_f (gf_cons rfl (gf_cons rfl (gf_cons rfl (gf_cons rfl (gf_cons rfl (gf_cons rfl gf_nil)))))) (ih12  z19 z44 z67  (in_w 0 31 i19 rfl) (in_w (-32) 32768 i44 rfl) (mb e67 e66 c14 mm12)))
  refine g_enter2 (k := 52) (N := 3865470567301) (by first | exact dq1 hd rfl | exact dq0 hd rfl | exact dq2 hd rfl | exact dq3 hd rfl | omega) rfl (Nat.le_of_ble_eq_true rfl) ?_
  refine g_iload_n 1 (gd rfl) rfl rfl ?_
  refine g_calls (As := [.int x2]) (r := []) 4 (gd rfl) rfl rfl rfl rfl rfl (Nat.le_of_ble_eq_true rfl) (Nat.zero_le _) (Nat.zero_le _) (k_264n (by first | exact dq1 hd rfl | exact dq0 hd rfl | exact dq2 hd rfl | exact dq3 hd rfl | omega) nza_2) (fun v u h => ?_)
  obtain ⟨z1, rfl, rfl, i1, hb1, hl1⟩ := h
  show GG _ _ _ _ _ _ _ _ [.int z1] _ _ _
  refine g_istore_n 5 (gd rfl) rfl (Nat.le_of_ble_eq_true rfl) ?_
  refine g_ldc 32768 7 (gd rfl) rfl rfl ?_
  refine g_istore 9 (gd rfl) rfl (Nat.le_of_ble_eq_true rfl) ?_
  refine g_iload_n 10 (gd rfl) rfl rfl ?_
  refine g_istore 12 (gd rfl) rfl (Nat.le_of_ble_eq_true rfl) ?_
  exact gg_w (by first | exact Nat.le_of_ble_eq_true rfl | omega) (gg_f (gf_cons rfl (gf_cons rfl (gf_cons rfl (gf_cons rfl (gf_cons rfl (gf_cons rfl gf_nil)))))) (ct12 4294967296  z1 (Int32.ofInt 32768) x2  (in_w 0 31 i1 rfl) (in_w (-32) 32768 (in_c 32768 rfl) rfl) (mb_in _)))

/-- GraphHouse$Colours.tightest -/
theorem k_52_60_39 {Z : AmZ} {A : Nat → Nat} {s : GS} {ex : va_W} {d : Nat} {X : AmX} {x2 : Int32} (hd : 4 ≤ d) (hI : Inv s) (nza_2 : x2.toInt ≠ 0) : GC Z d 52 [.ref (A 60), .ref (A 39), .int x2] (WW Z A s ++ ex) 0 0 (fun v u => ∃ z : Int32, v = some (.int z) ∧ u = WW Z A s ++ ex ∧ In z 0 31) X := by
  intro post xp hP hX
  have ct12 : ∀ (k12 : Nat) (y12_3 : Int32) (y12_4 : Int32) (y12_5 : Int32), (In y12_3 0 31) → (In y12_4 (-32) 32768) → ((y12_5.toBitVec.toNat : Nat) : Int) < (k12 : Int) → GG Z (d - 1) 52 post (gx xp) (1 + k12 * 900) 12 (fun j => xlook j [(0, .ref (A 60)), (1, .ref (A 39)), (2, .int x2), (3, .int y12_3), (4, .int y12_4), (5, .int y12_5)]) [] (WW Z A s ++ ex) 0 0 := by
    intro k12
    induction k12 with
    | zero => intro y12_3 y12_4 y12_5 j12_3 j12_4 mm12; exact absurd mm12 (Int.not_lt.mpr (Int.natCast_nonneg _))
    | succ k12 ih12 =>
      intro y12_3 y12_4 y12_5 j12_3 j12_4 mm12
      refine gg_w (M := 1 + k12 * 900 + 900) gws ?_
      refine g_iload 14 (gd rfl) rfl rfl ?_
      refine g_if_eq 17 73 (gd rfl) rfl rfl (fun c14 => ?_) (fun c14 => ?_)
      · skip
        have i14 := z_eq 0 0 c14 (i_rng y12_5) rfl
        refine g_iload_n 74 (gd rfl) rfl rfl ?_
        exact g_ireturn (gd rfl) rfl rfl (hP _ _ ⟨y12_3, rfl, rfl, in_w 0 31 j12_3 rfl⟩)
      · skip
        refine g_iload 19 (gd rfl) rfl rfl ?_
        refine g_calls (As := [.int y12_5]) (r := []) 22 (gd rfl) rfl rfl rfl rfl rfl (Nat.le_of_ble_eq_true rfl) (Nat.zero_le _) (Nat.zero_le _) (k_264n (by first | exact dq1 hd rfl | exact dq0 hd rfl | exact dq2 hd rfl | exact dq3 hd rfl | omega) c14) (fun v u h => ?_)
        obtain ⟨z19, rfl, rfl, i19, hb19, hl19⟩ := h
        show GG _ _ _ _ _ _ _ _ [.int z19] _ _ _
        refine g_istore 24 (gd rfl) rfl (Nat.le_of_ble_eq_true rfl) ?_
        refine g_aload_n 25 (gd rfl) rfl rfl ?_
        refine g_aload_n 26 (gd rfl) rfl rfl ?_
        refine g_iload 28 (gd rfl) rfl rfl ?_
        refine g_iaload 29 (gd rfl) rfl (n := 32) rfl (in_ix i19 rfl) (fun z28 e28 => ?_)
        refine g_callv (X := _) (As := [.int z28]) (r := []) (b := A 60) (q := 60) 32 (gd rfl) rfl rfl rfl rfl rfl (ww_o rfl) (Nat.le_of_ble_eq_true rfl) (Nat.zero_le _) (Nat.zero_le _) (k_51_60 (by first | exact dq1 hd rfl | exact dq0 hd rfl | exact dq2 hd rfl | exact dq3 hd rfl | omega) hI ) (fun e u h => h) (fun v u h => ?_)
        obtain ⟨z29, rfl, rfl, i29⟩ := h
        show GG _ _ _ _ _ _ _ _ [.int z29] _ _ _
        refine g_bipush 64 34 (gd rfl) rfl rfl ?_
        refine g_imul 35 (gd rfl) rfl (fun z34 e34 => ?_)
        have i34 := in_mulc 64 0 2048 (Or.inr e34) i29 rfl rfl
        refine g_aload_n 36 (gd rfl) rfl rfl ?_
        refine g_iload 38 (gd rfl) rfl rfl ?_
        refine g_iaload 39 (gd rfl) rfl (n := 32) rfl (in_ix i19 rfl) (fun z38 e38 => ?_)
        have q38 : z28 = z38 := (e28).trans e38.symm
        subst q38
        refine g_iload_n 40 (gd rfl) rfl rfl ?_
        refine g_iand 41 (gd rfl) rfl (fun z40 e40 => ?_)
        refine g_calls (As := [.int z40]) (r := [.int z34]) 44 (gd rfl) rfl rfl rfl rfl rfl (Nat.le_of_ble_eq_true rfl) (Nat.zero_le _) (Nat.zero_le _) (k_414b (by first | exact dq1 hd rfl | exact dq0 hd rfl | exact dq2 hd rfl | exact dq3 hd rfl | omega) hI ) (fun v u h => ?_)
        obtain ⟨z41, rfl, rfl, i41⟩ := h
        show GG _ _ _ _ _ _ _ _ [.int z41, .int z34] _ _ _
        refine g_isub 45 (gd rfl) rfl (fun z44 e44 => ?_)
        have i44 := in_sub (-32) 2048 e44 i34 i41 rfl rfl
        refine g_istore 47 (gd rfl) rfl (Nat.le_of_ble_eq_true rfl) ?_
        refine g_iload 49 (gd rfl) rfl rfl ?_
        refine g_iload 51 (gd rfl) rfl rfl ?_
        refine g_cmp_ge 54 61 (gd rfl) rfl rfl (fun c51 => ?_) (fun c51 => ?_)
        · skip
          have i51 := r_le1 (-32) 2048 c51 j12_4 i44 rfl
          refine g_iload 63 (gd rfl) rfl rfl ?_
          refine g_iload 65 (gd rfl) rfl rfl ?_
          refine g_iconst 1 66 (gd rfl) rfl rfl ?_
          refine g_isub 67 (gd rfl) rfl (fun z66 e66 => ?_)
          refine g_iand 68 (gd rfl) rfl (fun z67 e67 => ?_)
          refine g_istore 70 (gd rfl) rfl (Nat.le_of_ble_eq_true rfl) ?_
          refine g_goto 12 (gd rfl) rfl ?_
          exact gg_w (by first | exact Nat.le_add_right _ _ | exact gw2 | exact gw3 | exact gwe rfl | exact gwf rfl | exact gwg rfl | exact gwh rfl | omega) (gg_f (gf_cons rfl (gf_cons rfl (gf_cons rfl (gf_cons rfl (gf_cons rfl (gf_cons rfl gf_nil)))))) (ih12  y12_3 y12_4 z67  (in_w 0 31 j12_3 rfl) (in_w (-32) 32768 i51 rfl) (mb e67 e66 c14 mm12)))
        · skip
          have i51 := r_lt2 (-31) 32768 c51 i44 j12_4 rfl
          refine g_iload 56 (gd rfl) rfl rfl ?_
          refine g_istore 58 (gd rfl) rfl (Nat.le_of_ble_eq_true rfl) ?_
          refine g_iload 60 (gd rfl) rfl rfl ?_
          refine g_istore_n 61 (gd rfl) rfl (Nat.le_of_ble_eq_true rfl) ?_
          refine g_iload 63 (gd rfl) rfl rfl ?_
          refine g_iload 65 (gd rfl) rfl rfl ?_
          refine g_iconst 1 66 (gd rfl) rfl rfl ?_
          refine g_isub 67 (gd rfl) rfl (fun z66 e66 => ?_)
          refine g_iand 68 (gd rfl) rfl (fun z67 e67 => ?_)
          refine g_istore 70 (gd rfl) rfl (Nat.le_of_ble_eq_true rfl) ?_
          refine g_goto 12 (gd rfl) rfl ?_
          exact gg_w (by first | exact Nat.le_add_right _ _ | exact gw2 | exact gw3 | exact gwe rfl | exact gwf rfl | exact gwg rfl | exact gwh rfl | omega) (gg_f (gf_cons rfl (gf_cons rfl (gf_cons rfl (gf_cons rfl (gf_cons rfl (gf_cons rfl gf_nil)))))) (ih12  z19 z44 z67  (in_w 0 31 i19 rfl) (in_w (-32) 32768 i44 rfl) (mb e67 e66 c14 mm12)))
  refine g_enter2 (k := 52) (N := 3865470567301) (by first | exact dq1 hd rfl | exact dq0 hd rfl | exact dq2 hd rfl | exact dq3 hd rfl | omega) rfl (Nat.le_of_ble_eq_true rfl) ?_
  refine g_iload_n 1 (gd rfl) rfl rfl ?_
  refine g_calls (As := [.int x2]) (r := []) 4 (gd rfl) rfl rfl rfl rfl rfl (Nat.le_of_ble_eq_true rfl) (Nat.zero_le _) (Nat.zero_le _) (k_264n (by first | exact dq1 hd rfl | exact dq0 hd rfl | exact dq2 hd rfl | exact dq3 hd rfl | omega) nza_2) (fun v u h => ?_)
  obtain ⟨z1, rfl, rfl, i1, hb1, hl1⟩ := h
  show GG _ _ _ _ _ _ _ _ [.int z1] _ _ _
  refine g_istore_n 5 (gd rfl) rfl (Nat.le_of_ble_eq_true rfl) ?_
  refine g_ldc 32768 7 (gd rfl) rfl rfl ?_
  refine g_istore 9 (gd rfl) rfl (Nat.le_of_ble_eq_true rfl) ?_
  refine g_iload_n 10 (gd rfl) rfl rfl ?_
  refine g_istore 12 (gd rfl) rfl (Nat.le_of_ble_eq_true rfl) ?_
  exact gg_w (by first | exact Nat.le_of_ble_eq_true rfl | omega) (gg_f (gf_cons rfl (gf_cons rfl (gf_cons rfl (gf_cons rfl (gf_cons rfl (gf_cons rfl gf_nil)))))) (ct12 4294967296  z1 (Int32.ofInt 32768) x2  (in_w 0 31 i1 rfl) (in_w (-32) 32768 (in_c 32768 rfl) rfl) (mb_in _)))

def fm_65_102_2 : FM := ([], [106], [], [])
/-- GraphHouse$Engine.look -/
theorem k_65_102_2 {Z : AmZ} {A : Nat → Nat} {s : GS} {ex : va_W} {d : Nat} {X : AmX} {x2 : Int32} {x3 : Int32} {u_2_4 : Int32} {u_2_0 : Int32} (hd : 4 ≤ d) (hI : Inv s) (h2 : In x2 0 31) (h3 : In x3 0 200) (e_2_4 : u_2_4 = s.2.2.1 2 4) (e_2_0 : u_2_0 = s.2.2.1 2 0) (p_0 : (u_2_4).toInt = (u_2_0).toInt) : GC Z d 65 [.ref (A 102), .ref (A 2), .int x2, .int x3] (WW Z A s ++ ex) 0 0 (fun v u => ∃ t : GS, Inv t ∧ Fr fm_65_102_2 s t ∧ v = none ∧ u = WW Z A t ++ ex) X := by
  intro post xp hP hX
  have ro_2_4 := inv_F hI (-1) 4000 rfl e_2_4
  have ro_2_0 := inv_F hI 0 4000 rfl e_2_0
  have ct21 : ∀ (k21 : Nat) (sc21 : GS) (y21_4 : Int64) (y21_6 : Int64) (y21_8 : Int64) (y21_10 : Int32), Inv sc21 → Fr fm_65_102_2 s sc21 → (In y21_10 0 160) → 160 - (y21_10).toInt < (k21 : Int) → GG Z (d - 1) 65 post (gx xp) (1 + k21 * 900) 21 (fun j => xlook j [(0, .ref (A 102)), (1, .ref (A 2)), (2, .int x2), (3, .int x3), (4, .long y21_4), (6, .long y21_6), (8, .long y21_8), (10, .int y21_10)]) [] (WW Z A sc21 ++ ex) 0 0 := by
    intro k21
    induction k21 with
    | zero => intro sc21 y21_4 y21_6 y21_8 y21_10 hIc21 hFc21 j21_10 mm21; exact m_no mm21 j21_10 rfl
    | succ k21 ih21 =>
      intro sc21 y21_4 y21_6 y21_8 y21_10 hIc21 hFc21 j21_10 mm21
      refine gg_w (M := 1 + k21 * 900 + 900) gws ?_
      refine g_iload 23 (gd rfl) rfl rfl ?_
      refine g_aload_n 24 (gd rfl) rfl rfl ?_
      refine g_getA (q2 := 14) 27 (gd rfl) rfl rfl rfl rfl ?_
      refine g_iload_n 28 (gd rfl) rfl rfl ?_
      refine g_iconst 1 29 (gd rfl) rfl rfl ?_
      refine g_iadd 30 (gd rfl) rfl (fun z29 e29 => ?_)
      have i29 := in_add 1 32 e29 h2 (in_c 1 rfl) rfl rfl
      refine g_iaload 31 (gd rfl) rfl (n := 33) rfl (in_ix i29 rfl) (fun z30 e30 => ?_)
      have i30 := inv_I hIc21 (n := 33) (t := 0) 0 160 rfl (in_ix i29 rfl) rfl e30
      refine g_cmp_ge 34 104 (gd rfl) rfl rfl (fun c31 => ?_) (fun c31 => ?_)
      · skip
        refine g_aload_n 105 (gd rfl) rfl rfl ?_
        refine g_getA (q2 := 106) 108 (gd rfl) rfl rfl rfl rfl ?_
        refine g_iconst 0 109 (gd rfl) rfl rfl ?_
        refine g_aload_n 110 (gd rfl) rfl rfl ?_
        refine g_getA (q2 := 108) 113 (gd rfl) rfl rfl rfl rfl ?_
        refine g_iload_n 114 (gd rfl) rfl rfl ?_
        refine g_laload 115 (gd rfl) rfl (n := 32) rfl (in_ix h2 rfl) (fun z114 e114 => ?_)
        refine g_lastore 116 (gd rfl) rfl (n := 9) rfl (in_ix (in_c 0 rfl) rfl) ?_
        have hI115 := inv_sL (q := 106) (j := (Int32.ofInt 0).toNatClampNeg) (x := z114) hIc21 rfl (l_rng z114)
        refine g_aload_n 117 (gd rfl) rfl rfl ?_
        refine g_getA (q2 := 106) 120 (gd rfl) rfl rfl rfl rfl ?_
        refine g_iconst 1 121 (gd rfl) rfl rfl ?_
        refine g_iload_n 122 (gd rfl) rfl rfl ?_
        refine g_i2l 123 (gd rfl) rfl (fun z122 e122 => ?_)
        have i122 := l_i e122 h2
        refine g_lastore 124 (gd rfl) rfl (n := 9) rfl (in_ix (in_c 1 rfl) rfl) ?_
        have hI123 := inv_sL (q := 106) (j := (Int32.ofInt 1).toNatClampNeg) (x := z122) hI115 rfl (l_rng z122)
        refine g_aload_n 125 (gd rfl) rfl rfl ?_
        refine g_getA (q2 := 106) 128 (gd rfl) rfl rfl rfl rfl ?_
        refine g_iconst 2 129 (gd rfl) rfl rfl ?_
        refine g_aload_n 130 (gd rfl) rfl rfl ?_
        refine g_getA (q2 := 3) 133 (gd rfl) rfl rfl rfl rfl ?_
        refine g_iload_n 134 (gd rfl) rfl rfl ?_
        refine g_iaload 135 (gd rfl) rfl (n := 32) rfl (in_ix h2 rfl) (fun z134 e134 => ?_)
        have i134 := inv_I hI123 (n := 32) (t := 0) 0 25 rfl (in_ix h2 rfl) rfl e134
        refine g_i2l 136 (gd rfl) rfl (fun z135 e135 => ?_)
        have i135 := l_i e135 i134
        refine g_lastore 137 (gd rfl) rfl (n := 9) rfl (in_ix (in_c 2 rfl) rfl) ?_
        have hI136 := inv_sL (q := 106) (j := (Int32.ofInt 2).toNatClampNeg) (x := z135) hI123 rfl (l_rng z135)
        refine g_aload_n 138 (gd rfl) rfl rfl ?_
        refine g_getA (q2 := 106) 141 (gd rfl) rfl rfl rfl rfl ?_
        refine g_iconst 3 142 (gd rfl) rfl rfl ?_
        refine g_aload_n 143 (gd rfl) rfl rfl ?_
        refine g_iload_n 144 (gd rfl) rfl rfl ?_
        refine g_callv (X := _) (As := [.int x2]) (r := [.int (Int32.ofInt 3), .ref (A 106)]) (b := A 2) (q := 2) 147 (gd rfl) rfl rfl rfl rfl rfl (ww_o rfl) (Nat.le_of_ble_eq_true rfl) (mc := 0) (ms := 0) (Nat.zero_le _) (Nat.zero_le _) (P := fun v u => _) ?_ (fun e u h => h) (fun v u h => h)
        intro po144 xx144 hp144 hx144
        refine g_enter2 (k := 103) (N := 300) (by first | exact dq1 hd rfl | exact dq0 hd rfl | exact dq2 hd rfl | exact dq3 hd rfl | omega) rfl (Nat.le_of_ble_eq_true rfl) ?_
        refine g_aload_n 1 (gd rfl) rfl rfl ?_
        refine g_getA (q2 := 12) 4 (gd rfl) rfl rfl rfl rfl ?_
        refine g_iload_n 5 (gd rfl) rfl rfl ?_
        refine g_iconst 1 6 (gd rfl) rfl rfl ?_
        refine g_iadd 7 (gd rfl) rfl (fun z144x6 e144x6 => ?_)
        have i144x6 := in_add 1 32 e144x6 h2 (in_c 1 rfl) rfl rfl
        refine g_iaload 8 (gd rfl) rfl (n := 33) rfl (in_ix i144x6 rfl) (fun z144x7 e144x7 => ?_)
        have i144x7 := inv_I hI136 (n := 33) (t := 0) 0 160 rfl (in_ix i144x6 rfl) rfl e144x7
        refine g_aload_n 9 (gd rfl) rfl rfl ?_
        refine g_getA (q2 := 12) 12 (gd rfl) rfl rfl rfl rfl ?_
        refine g_iload_n 13 (gd rfl) rfl rfl ?_
        refine g_iaload 14 (gd rfl) rfl (n := 33) rfl (in_ix h2 rfl) (fun z144x13 e144x13 => ?_)
        have i144x13 := inv_I hI136 (n := 33) (t := 0) 0 160 rfl (in_ix h2 rfl) rfl e144x13
        refine g_isub 15 (gd rfl) rfl (fun z144x14 e144x14 => ?_)
        have i144x14 := in_sub (-160) 160 e144x14 i144x7 i144x13 rfl rfl
        refine g_ireturn (gd rfl) rfl rfl (hp144 _ _ ?_)
        show GG _ _ _ _ _ _ _ _ [.int z144x14, .int (Int32.ofInt 3), .ref (A 106)] _ _ _
        refine g_i2l 148 (gd rfl) rfl (fun z147 e147 => ?_)
        have i147 := l_i e147 i144x14
        refine g_lastore 149 (gd rfl) rfl (n := 9) rfl (in_ix (in_c 3 rfl) rfl) ?_
        have hI148 := inv_sL (q := 106) (j := (Int32.ofInt 3).toNatClampNeg) (x := z147) hI136 rfl (l_rng z147)
        refine g_aload_n 150 (gd rfl) rfl rfl ?_
        refine g_getA (q2 := 106) 153 (gd rfl) rfl rfl rfl rfl ?_
        refine g_iconst 4 154 (gd rfl) rfl rfl ?_
        refine g_aload_n 155 (gd rfl) rfl rfl ?_
        refine g_iload_n 156 (gd rfl) rfl rfl ?_
        refine g_callv (X := _) (As := [.int x2]) (r := [.int (Int32.ofInt 4), .ref (A 106)]) (b := A 2) (q := 2) 159 (gd rfl) rfl rfl rfl rfl rfl (ww_o rfl) (Nat.le_of_ble_eq_true rfl) (mc := 0) (ms := 0) (Nat.zero_le _) (Nat.zero_le _) (P := fun v u => _) ?_ (fun e u h => h) (fun v u h => h)
        intro po156 xx156 hp156 hx156
        refine g_enter2 (k := 104) (N := 300) (by first | exact dq1 hd rfl | exact dq0 hd rfl | exact dq2 hd rfl | exact dq3 hd rfl | omega) rfl (Nat.le_of_ble_eq_true rfl) ?_
        refine g_aload_n 1 (gd rfl) rfl rfl ?_
        refine g_getA (q2 := 14) 4 (gd rfl) rfl rfl rfl rfl ?_
        refine g_iload_n 5 (gd rfl) rfl rfl ?_
        refine g_iconst 1 6 (gd rfl) rfl rfl ?_
        refine g_iadd 7 (gd rfl) rfl (fun z156x6 e156x6 => ?_)
        have i156x6 := in_add 1 32 e156x6 h2 (in_c 1 rfl) rfl rfl
        refine g_iaload 8 (gd rfl) rfl (n := 33) rfl (in_ix i156x6 rfl) (fun z156x7 e156x7 => ?_)
        have i156x7 := inv_I hI148 (n := 33) (t := 0) 0 160 rfl (in_ix i156x6 rfl) rfl e156x7
        refine g_aload_n 9 (gd rfl) rfl rfl ?_
        refine g_getA (q2 := 14) 12 (gd rfl) rfl rfl rfl rfl ?_
        refine g_iload_n 13 (gd rfl) rfl rfl ?_
        refine g_iaload 14 (gd rfl) rfl (n := 33) rfl (in_ix h2 rfl) (fun z156x13 e156x13 => ?_)
        have i156x13 := inv_I hI148 (n := 33) (t := 0) 0 160 rfl (in_ix h2 rfl) rfl e156x13
        refine g_isub 15 (gd rfl) rfl (fun z156x14 e156x14 => ?_)
        have i156x14 := in_sub (-160) 160 e156x14 i156x7 i156x13 rfl rfl
        refine g_ireturn (gd rfl) rfl rfl (hp156 _ _ ?_)
        show GG _ _ _ _ _ _ _ _ [.int z156x14, .int (Int32.ofInt 4), .ref (A 106)] _ _ _
        refine g_i2l 160 (gd rfl) rfl (fun z159 e159 => ?_)
        have i159 := l_i e159 i156x14
        refine g_lastore 161 (gd rfl) rfl (n := 9) rfl (in_ix (in_c 4 rfl) rfl) ?_
        have hI160 := inv_sL (q := 106) (j := (Int32.ofInt 4).toNatClampNeg) (x := z159) hI148 rfl (l_rng z159)
        refine g_aload_n 162 (gd rfl) rfl rfl ?_
        refine g_getA (q2 := 106) 165 (gd rfl) rfl rfl rfl rfl ?_
        refine g_iconst 5 166 (gd rfl) rfl rfl ?_
        refine g_iload_n 167 (gd rfl) rfl rfl ?_
        refine g_i2l 168 (gd rfl) rfl (fun z167 e167 => ?_)
        have i167 := l_i e167 h3
        refine g_lastore 169 (gd rfl) rfl (n := 9) rfl (in_ix (in_c 5 rfl) rfl) ?_
        have hI168 := inv_sL (q := 106) (j := (Int32.ofInt 5).toNatClampNeg) (x := z167) hI160 rfl (l_rng z167)
        refine g_aload_n 170 (gd rfl) rfl rfl ?_
        refine g_getA (q2 := 106) 173 (gd rfl) rfl rfl rfl rfl ?_
        refine g_bipush 6 175 (gd rfl) rfl rfl ?_
        refine g_lload 177 (gd rfl) rfl rfl ?_
        refine g_calls (As := [.long y21_4]) (r := [.int (Int32.ofInt 6), .ref (A 106)]) 180 (gd rfl) rfl rfl rfl rfl rfl (Nat.le_of_ble_eq_true rfl) (mc := 0) (ms := 0) (Nat.zero_le _) (Nat.zero_le _) (P := fun v u => _) ?_ (fun v u h => h)
        intro po177 xx177 hp177 hx177
        refine g_enter2 (k := 69) (N := 300) (by first | exact dq1 hd rfl | exact dq0 hd rfl | exact dq2 hd rfl | exact dq3 hd rfl | omega) rfl (Nat.le_of_ble_eq_true rfl) ?_
        refine g_ldc2_w (-1000000000000) 3 (gd rfl) rfl rfl ?_
        refine g_ldc2_w 1000000000000 6 (gd rfl) rfl rfl ?_
        refine g_lload_n 7 (gd rfl) rfl rfl ?_
        refine g_calls (As := [.long (Int64.ofInt 1000000000000), .long y21_4]) (r := [.long (Int64.ofInt (-1000000000000))]) 10 (gd rfl) rfl rfl rfl rfl rfl (Nat.le_of_ble_eq_true rfl) (mc := 0) (ms := 0) (Nat.zero_le _) (Nat.zero_le _) (P := fun v u => _) ?_ (fun v u h => h)
        intro po177x7 xx177x7 hp177x7 hx177x7
        refine g_enter2 (k := 425) (N := 300) (by first | exact dq1 hd rfl | exact dq0 hd rfl | exact dq2 hd rfl | exact dq3 hd rfl | omega) rfl (Nat.le_of_ble_eq_true rfl) ?_
        refine g_lload_n 1 (gd rfl) rfl rfl ?_
        refine g_lload_n 2 (gd rfl) rfl rfl ?_
        refine g_lcmp 3 (gd rfl) rfl (fun z177x7x2 e177x7x2 => ?_)
        have i177x7x2 := lc_in e177x7x2
        refine g_if_gt 6 10 (gd rfl) rfl rfl (fun c177x7x3 => ?_) (fun c177x7x3 => ?_)
        · skip
          have i177x7x3 := z_gt 1 1 c177x7x3 i177x7x2 rfl
          have c177x7x3a := lc_gt e177x7x2 c177x7x3
          have i177x7x3a := lr_lt1 (-9223372036854775808) 999999999999 c177x7x3a (l_rng y21_4) (l_c 1000000000000 rfl) rfl
          refine g_lload_n 11 (gd rfl) rfl rfl ?_
          refine g_lreturn (gd rfl) rfl (hp177x7 _ _ ?_)
          show GG _ _ _ _ _ _ _ _ [.long y21_4, .long (Int64.ofInt (-1000000000000))] _ _ _
          refine g_calls (As := [.long (Int64.ofInt (-1000000000000)), .long y21_4]) (r := []) 13 (gd rfl) rfl rfl rfl rfl rfl (Nat.le_of_ble_eq_true rfl) (mc := 0) (ms := 0) (Nat.zero_le _) (Nat.zero_le _) (P := fun v u => _) ?_ (fun v u h => h)
          intro po177x10 xx177x10 hp177x10 hx177x10
          refine g_enter2 (k := 423) (N := 300) (by first | exact dq1 hd rfl | exact dq0 hd rfl | exact dq2 hd rfl | exact dq3 hd rfl | omega) rfl (Nat.le_of_ble_eq_true rfl) ?_
          refine g_lload_n 1 (gd rfl) rfl rfl ?_
          refine g_lload_n 2 (gd rfl) rfl rfl ?_
          refine g_lcmp 3 (gd rfl) rfl (fun z177x10x2 e177x10x2 => ?_)
          have i177x10x2 := lc_in e177x10x2
          refine g_if_lt 6 10 (gd rfl) rfl rfl (fun c177x10x3 => ?_) (fun c177x10x3 => ?_)
          · skip
            have i177x10x3 := z_lt (-1) (-1) c177x10x3 i177x10x2 rfl
            have c177x10x3a := lc_lt e177x10x2 c177x10x3
            have i177x10x3a := lr_lt2 (-999999999999) 999999999999 c177x10x3a (l_c (-1000000000000) rfl) i177x7x3a rfl
            refine g_lload_n 11 (gd rfl) rfl rfl ?_
            refine g_lreturn (gd rfl) rfl (hp177x10 _ _ ?_)
            show GG _ _ _ _ _ _ _ _ [.long y21_4] _ _ _
            refine g_lreturn (gd rfl) rfl (hp177 _ _ ?_)
            show GG _ _ _ _ _ _ _ _ [.long y21_4, .int (Int32.ofInt 6), .ref (A 106)] _ _ _
            refine g_lastore 181 (gd rfl) rfl (n := 9) rfl (in_ix (in_c 6 rfl) rfl) ?_
            have hI180 := inv_sL (q := 106) (j := (Int32.ofInt 6).toNatClampNeg) (x := y21_4) hI168 rfl (l_rng y21_4)
            refine g_aload_n 182 (gd rfl) rfl rfl ?_
            refine g_getA (q2 := 106) 185 (gd rfl) rfl rfl rfl rfl ?_
            refine g_bipush 7 187 (gd rfl) rfl rfl ?_
            refine g_lload 189 (gd rfl) rfl rfl ?_
            refine g_lastore 190 (gd rfl) rfl (n := 9) rfl (in_ix (in_c 7 rfl) rfl) ?_
            have hI189 := inv_sL (q := 106) (j := (Int32.ofInt 7).toNatClampNeg) (x := y21_6) hI180 rfl (l_rng y21_6)
            refine g_aload_n 191 (gd rfl) rfl rfl ?_
            refine g_getA (q2 := 106) 194 (gd rfl) rfl rfl rfl rfl ?_
            refine g_bipush 8 196 (gd rfl) rfl rfl ?_
            refine g_lload 198 (gd rfl) rfl rfl ?_
            refine g_lastore 199 (gd rfl) rfl (n := 9) rfl (in_ix (in_c 8 rfl) rfl) ?_
            have hI198 := inv_sL (q := 106) (j := (Int32.ofInt 8).toNatClampNeg) (x := y21_8) hI189 rfl (l_rng y21_8)
            exact g_return (gd rfl) rfl (hP _ _ ⟨(sL (sL (sL (sL (sL (sL (sL (sL (sL sc21 106 (Int32.ofInt 0).toNatClampNeg z114) 106 (Int32.ofInt 1).toNatClampNeg z122) 106 (Int32.ofInt 2).toNatClampNeg z135) 106 (Int32.ofInt 3).toNatClampNeg z147) 106 (Int32.ofInt 4).toNatClampNeg z159) 106 (Int32.ofInt 5).toNatClampNeg z167) 106 (Int32.ofInt 6).toNatClampNeg y21_4) 106 (Int32.ofInt 7).toNatClampNeg y21_6) 106 (Int32.ofInt 8).toNatClampNeg y21_8), hI198, (fr_sL rfl (fr_sL rfl (fr_sL rfl (fr_sL rfl (fr_sL rfl (fr_sL rfl (fr_sL rfl (fr_sL rfl (fr_sL rfl hFc21))))))))), rfl, rfl⟩)
          · skip
            have i177x10x3 := z_ge 0 1 c177x10x3 i177x10x2 rfl
            have c177x10x3a := lc_ge e177x10x2 c177x10x3
            have i177x10x3a := lr_le1 (-9223372036854775808) (-1000000000000) c177x10x3a i177x7x3a (l_c (-1000000000000) rfl) rfl
            refine g_lload_n 7 (gd rfl) rfl rfl ?_
            refine g_goto 11 (gd rfl) rfl ?_
            refine g_lreturn (gd rfl) rfl (hp177x10 _ _ ?_)
            show GG _ _ _ _ _ _ _ _ [.long (Int64.ofInt (-1000000000000))] _ _ _
            refine g_lreturn (gd rfl) rfl (hp177 _ _ ?_)
            show GG _ _ _ _ _ _ _ _ [.long (Int64.ofInt (-1000000000000)), .int (Int32.ofInt 6), .ref (A 106)] _ _ _
            refine g_lastore 181 (gd rfl) rfl (n := 9) rfl (in_ix (in_c 6 rfl) rfl) ?_
            have hI180 := inv_sL (q := 106) (j := (Int32.ofInt 6).toNatClampNeg) (x := (Int64.ofInt (-1000000000000))) hI168 rfl (l_rng (Int64.ofInt (-1000000000000)))
            refine g_aload_n 182 (gd rfl) rfl rfl ?_
            refine g_getA (q2 := 106) 185 (gd rfl) rfl rfl rfl rfl ?_
            refine g_bipush 7 187 (gd rfl) rfl rfl ?_
            refine g_lload 189 (gd rfl) rfl rfl ?_
            refine g_lastore 190 (gd rfl) rfl (n := 9) rfl (in_ix (in_c 7 rfl) rfl) ?_
            have hI189 := inv_sL (q := 106) (j := (Int32.ofInt 7).toNatClampNeg) (x := y21_6) hI180 rfl (l_rng y21_6)
            refine g_aload_n 191 (gd rfl) rfl rfl ?_
            refine g_getA (q2 := 106) 194 (gd rfl) rfl rfl rfl rfl ?_
            refine g_bipush 8 196 (gd rfl) rfl rfl ?_
            refine g_lload 198 (gd rfl) rfl rfl ?_
            refine g_lastore 199 (gd rfl) rfl (n := 9) rfl (in_ix (in_c 8 rfl) rfl) ?_
            have hI198 := inv_sL (q := 106) (j := (Int32.ofInt 8).toNatClampNeg) (x := y21_8) hI189 rfl (l_rng y21_8)
            exact g_return (gd rfl) rfl (hP _ _ ⟨(sL (sL (sL (sL (sL (sL (sL (sL (sL sc21 106 (Int32.ofInt 0).toNatClampNeg z114) 106 (Int32.ofInt 1).toNatClampNeg z122) 106 (Int32.ofInt 2).toNatClampNeg z135) 106 (Int32.ofInt 3).toNatClampNeg z147) 106 (Int32.ofInt 4).toNatClampNeg z159) 106 (Int32.ofInt 5).toNatClampNeg z167) 106 (Int32.ofInt 6).toNatClampNeg (Int64.ofInt (-1000000000000))) 106 (Int32.ofInt 7).toNatClampNeg y21_6) 106 (Int32.ofInt 8).toNatClampNeg y21_8), hI198, (fr_sL rfl (fr_sL rfl (fr_sL rfl (fr_sL rfl (fr_sL rfl (fr_sL rfl (fr_sL rfl (fr_sL rfl (fr_sL rfl hFc21))))))))), rfl, rfl⟩)
        · skip
          have i177x7x3 := z_le (-1) 0 c177x7x3 i177x7x2 rfl
          have c177x7x3a := lc_le e177x7x2 c177x7x3
          have i177x7x3a := lr_le2 1000000000000 9223372036854775807 c177x7x3a (l_c 1000000000000 rfl) (l_rng y21_4) rfl
          refine g_lload_n 7 (gd rfl) rfl rfl ?_
          refine g_goto 11 (gd rfl) rfl ?_
          refine g_lreturn (gd rfl) rfl (hp177x7 _ _ ?_)
          show GG _ _ _ _ _ _ _ _ [.long (Int64.ofInt 1000000000000), .long (Int64.ofInt (-1000000000000))] _ _ _
          refine g_calls (As := [.long (Int64.ofInt (-1000000000000)), .long (Int64.ofInt 1000000000000)]) (r := []) 13 (gd rfl) rfl rfl rfl rfl rfl (Nat.le_of_ble_eq_true rfl) (mc := 0) (ms := 0) (Nat.zero_le _) (Nat.zero_le _) (P := fun v u => _) ?_ (fun v u h => h)
          intro po177x10 xx177x10 hp177x10 hx177x10
          refine g_enter2 (k := 423) (N := 300) (by first | exact dq1 hd rfl | exact dq0 hd rfl | exact dq2 hd rfl | exact dq3 hd rfl | omega) rfl (Nat.le_of_ble_eq_true rfl) ?_
          refine g_lload_n 1 (gd rfl) rfl rfl ?_
          refine g_lload_n 2 (gd rfl) rfl rfl ?_
          refine g_lcmp 3 (gd rfl) rfl (fun z177x10x2 e177x10x2 => ?_)
          have i177x10x2 := lc_in e177x10x2
          refine g_if_lt 6 10 (gd rfl) rfl rfl (fun c177x10x3 => ?_) (fun c177x10x3 => ?_)
          · skip
            have i177x10x3 := z_lt (-1) (-1) c177x10x3 i177x10x2 rfl
            have c177x10x3a := lc_lt e177x10x2 c177x10x3
            refine g_lload_n 11 (gd rfl) rfl rfl ?_
            refine g_lreturn (gd rfl) rfl (hp177x10 _ _ ?_)
            show GG _ _ _ _ _ _ _ _ [.long (Int64.ofInt 1000000000000)] _ _ _
            refine g_lreturn (gd rfl) rfl (hp177 _ _ ?_)
            show GG _ _ _ _ _ _ _ _ [.long (Int64.ofInt 1000000000000), .int (Int32.ofInt 6), .ref (A 106)] _ _ _
            refine g_lastore 181 (gd rfl) rfl (n := 9) rfl (in_ix (in_c 6 rfl) rfl) ?_
            have hI180 := inv_sL (q := 106) (j := (Int32.ofInt 6).toNatClampNeg) (x := (Int64.ofInt 1000000000000)) hI168 rfl (l_rng (Int64.ofInt 1000000000000))
            refine g_aload_n 182 (gd rfl) rfl rfl ?_
            refine g_getA (q2 := 106) 185 (gd rfl) rfl rfl rfl rfl ?_
            refine g_bipush 7 187 (gd rfl) rfl rfl ?_
            refine g_lload 189 (gd rfl) rfl rfl ?_
            refine g_lastore 190 (gd rfl) rfl (n := 9) rfl (in_ix (in_c 7 rfl) rfl) ?_
            have hI189 := inv_sL (q := 106) (j := (Int32.ofInt 7).toNatClampNeg) (x := y21_6) hI180 rfl (l_rng y21_6)
            refine g_aload_n 191 (gd rfl) rfl rfl ?_
            refine g_getA (q2 := 106) 194 (gd rfl) rfl rfl rfl rfl ?_
            refine g_bipush 8 196 (gd rfl) rfl rfl ?_
            refine g_lload 198 (gd rfl) rfl rfl ?_
            refine g_lastore 199 (gd rfl) rfl (n := 9) rfl (in_ix (in_c 8 rfl) rfl) ?_
            have hI198 := inv_sL (q := 106) (j := (Int32.ofInt 8).toNatClampNeg) (x := y21_8) hI189 rfl (l_rng y21_8)
            exact g_return (gd rfl) rfl (hP _ _ ⟨(sL (sL (sL (sL (sL (sL (sL (sL (sL sc21 106 (Int32.ofInt 0).toNatClampNeg z114) 106 (Int32.ofInt 1).toNatClampNeg z122) 106 (Int32.ofInt 2).toNatClampNeg z135) 106 (Int32.ofInt 3).toNatClampNeg z147) 106 (Int32.ofInt 4).toNatClampNeg z159) 106 (Int32.ofInt 5).toNatClampNeg z167) 106 (Int32.ofInt 6).toNatClampNeg (Int64.ofInt 1000000000000)) 106 (Int32.ofInt 7).toNatClampNeg y21_6) 106 (Int32.ofInt 8).toNatClampNeg y21_8), hI198, (fr_sL rfl (fr_sL rfl (fr_sL rfl (fr_sL rfl (fr_sL rfl (fr_sL rfl (fr_sL rfl (fr_sL rfl (fr_sL rfl hFc21))))))))), rfl, rfl⟩)
          · skip
            have i177x10x3 := z_ge 0 1 c177x10x3 i177x10x2 rfl
            have c177x10x3a := lc_ge e177x10x2 c177x10x3
            exact ln_le c177x10x3a (l_c 1000000000000 rfl) (l_c (-1000000000000) rfl) rfl
      · skip
        have i31 := r_lt1 0 159 c31 j21_10 i30 rfl
        have i31a := r_lt2 1 160 c31 j21_10 i30 rfl
        refine g_aload_n 35 (gd rfl) rfl rfl ?_
        refine g_getA (q2 := 15) 38 (gd rfl) rfl rfl rfl rfl ?_
        refine g_iload 40 (gd rfl) rfl rfl ?_
        refine g_iaload 41 (gd rfl) rfl (n := 160) rfl (in_ix i31 rfl) (fun z40 e40 => ?_)
        have i40 := inv_I hIc21 (n := 160) (t := 0) 0 159 rfl (in_ix i31 rfl) rfl e40
        refine g_istore 43 (gd rfl) rfl (Nat.le_of_ble_eq_true rfl) ?_
        refine g_aload_n 44 (gd rfl) rfl rfl ?_
        refine g_getA (q2 := 108) 47 (gd rfl) rfl rfl rfl rfl ?_
        refine g_aload_n 48 (gd rfl) rfl rfl ?_
        refine g_getA (q2 := 4) 51 (gd rfl) rfl rfl rfl rfl ?_
        refine g_iload 53 (gd rfl) rfl rfl ?_
        refine g_iaload 54 (gd rfl) rfl (n := 160) rfl (in_ix i40 rfl) (fun z53 e53 => ?_)
        have i53 := inv_I hIc21 (n := 160) (t := 0) (-1) 31 rfl (in_ix i40 rfl) rfl e53
        have i54 : In z53 0 31 := by exact tg_b (b := 2) hIc21.2.1 rfl rfl rfl rfl rfl (by rw [← (show u_2_4 = sc21.2.2.1 2 4 from fr_F e_2_4 hFc21 rfl), ← (show u_2_0 = sc21.2.2.1 2 0 from fr_F e_2_0 hFc21 rfl)]; exact p_0) e30 i29 i31 c31 e40 e53 i53
        refine g_laload 55 (gd rfl) rfl (n := 32) rfl (in_ix i54 rfl) (fun z54 e54 => ?_)
        refine g_lstore 57 (gd rfl) rfl (Nat.le_of_ble_eq_true rfl) ?_
        refine g_lload 59 (gd rfl) rfl rfl ?_
        refine g_aload_n 60 (gd rfl) rfl rfl ?_
        refine g_getA (q2 := 6) 63 (gd rfl) rfl rfl rfl rfl ?_
        refine g_iload 65 (gd rfl) rfl rfl ?_
        refine g_iaload 66 (gd rfl) rfl (n := 160) rfl (in_ix i40 rfl) (fun z65 e65 => ?_)
        have i65 := inv_I hIc21 (n := 160) (t := 0) (-1000000) 1000000 rfl (in_ix i40 rfl) rfl e65
        refine g_i2l 67 (gd rfl) rfl (fun z66 e66 => ?_)
        have i66 := l_i e66 i65
        refine g_ladd 68 (gd rfl) rfl (fun z67 e67 => ?_)
        refine g_calls (As := [.long z67]) (r := []) 71 (gd rfl) rfl rfl rfl rfl rfl (Nat.le_of_ble_eq_true rfl) (mc := 0) (ms := 0) (Nat.zero_le _) (Nat.zero_le _) (P := fun v u => _) ?_ (fun v u h => h)
        intro po68 xx68 hp68 hx68
        refine g_enter2 (k := 69) (N := 300) (by first | exact dq1 hd rfl | exact dq0 hd rfl | exact dq2 hd rfl | exact dq3 hd rfl | omega) rfl (Nat.le_of_ble_eq_true rfl) ?_
        refine g_ldc2_w (-1000000000000) 3 (gd rfl) rfl rfl ?_
        refine g_ldc2_w 1000000000000 6 (gd rfl) rfl rfl ?_
        refine g_lload_n 7 (gd rfl) rfl rfl ?_
        refine g_calls (As := [.long (Int64.ofInt 1000000000000), .long z67]) (r := [.long (Int64.ofInt (-1000000000000))]) 10 (gd rfl) rfl rfl rfl rfl rfl (Nat.le_of_ble_eq_true rfl) (mc := 0) (ms := 0) (Nat.zero_le _) (Nat.zero_le _) (P := fun v u => _) ?_ (fun v u h => h)
        intro po68x7 xx68x7 hp68x7 hx68x7
        refine g_enter2 (k := 425) (N := 300) (by first | exact dq1 hd rfl | exact dq0 hd rfl | exact dq2 hd rfl | exact dq3 hd rfl | omega) rfl (Nat.le_of_ble_eq_true rfl) ?_
        refine g_lload_n 1 (gd rfl) rfl rfl ?_
        refine g_lload_n 2 (gd rfl) rfl rfl ?_
        refine g_lcmp 3 (gd rfl) rfl (fun z68x7x2 e68x7x2 => ?_)
        have i68x7x2 := lc_in e68x7x2
        refine g_if_gt 6 10 (gd rfl) rfl rfl (fun c68x7x3 => ?_) (fun c68x7x3 => ?_)
        · skip
          have i68x7x3 := z_gt 1 1 c68x7x3 i68x7x2 rfl
          have c68x7x3a := lc_gt e68x7x2 c68x7x3
          have i68x7x3a := lr_lt1 (-9223372036854775808) 999999999999 c68x7x3a (l_rng z67) (l_c 1000000000000 rfl) rfl
          refine g_lload_n 11 (gd rfl) rfl rfl ?_
          refine g_lreturn (gd rfl) rfl (hp68x7 _ _ ?_)
          show GG _ _ _ _ _ _ _ _ [.long z67, .long (Int64.ofInt (-1000000000000))] _ _ _
          refine g_calls (As := [.long (Int64.ofInt (-1000000000000)), .long z67]) (r := []) 13 (gd rfl) rfl rfl rfl rfl rfl (Nat.le_of_ble_eq_true rfl) (mc := 0) (ms := 0) (Nat.zero_le _) (Nat.zero_le _) (P := fun v u => _) ?_ (fun v u h => h)
          intro po68x10 xx68x10 hp68x10 hx68x10
          refine g_enter2 (k := 423) (N := 300) (by first | exact dq1 hd rfl | exact dq0 hd rfl | exact dq2 hd rfl | exact dq3 hd rfl | omega) rfl (Nat.le_of_ble_eq_true rfl) ?_
          refine g_lload_n 1 (gd rfl) rfl rfl ?_
          refine g_lload_n 2 (gd rfl) rfl rfl ?_
          refine g_lcmp 3 (gd rfl) rfl (fun z68x10x2 e68x10x2 => ?_)
          have i68x10x2 := lc_in e68x10x2
          refine g_if_lt 6 10 (gd rfl) rfl rfl (fun c68x10x3 => ?_) (fun c68x10x3 => ?_)
          · skip
            have i68x10x3 := z_lt (-1) (-1) c68x10x3 i68x10x2 rfl
            have c68x10x3a := lc_lt e68x10x2 c68x10x3
            have i68x10x3a := lr_lt2 (-999999999999) 999999999999 c68x10x3a (l_c (-1000000000000) rfl) i68x7x3a rfl
            refine g_lload_n 11 (gd rfl) rfl rfl ?_
            refine g_lreturn (gd rfl) rfl (hp68x10 _ _ ?_)
            show GG _ _ _ _ _ _ _ _ [.long z67] _ _ _
            refine g_lreturn (gd rfl) rfl (hp68 _ _ ?_)
            show GG _ _ _ _ _ _ _ _ [.long z67] _ _ _
            refine g_lstore 73 (gd rfl) rfl (Nat.le_of_ble_eq_true rfl) ?_
            refine g_lload 75 (gd rfl) rfl rfl ?_
            refine g_lload 77 (gd rfl) rfl rfl ?_
            refine g_ladd 78 (gd rfl) rfl (fun z77 e77 => ?_)
            refine g_lstore 80 (gd rfl) rfl (Nat.le_of_ble_eq_true rfl) ?_
            refine g_lload 82 (gd rfl) rfl rfl ?_
            refine g_lload 84 (gd rfl) rfl rfl ?_
            refine g_calls (As := [.long y21_6, .long z67]) (r := []) 87 (gd rfl) rfl rfl rfl rfl rfl (Nat.le_of_ble_eq_true rfl) (mc := 0) (ms := 0) (Nat.zero_le _) (Nat.zero_le _) (P := fun v u => _) ?_ (fun v u h => h)
            intro po84 xx84 hp84 hx84
            refine g_enter2 (k := 425) (N := 300) (by first | exact dq1 hd rfl | exact dq0 hd rfl | exact dq2 hd rfl | exact dq3 hd rfl | omega) rfl (Nat.le_of_ble_eq_true rfl) ?_
            refine g_lload_n 1 (gd rfl) rfl rfl ?_
            refine g_lload_n 2 (gd rfl) rfl rfl ?_
            refine g_lcmp 3 (gd rfl) rfl (fun z84x2 e84x2 => ?_)
            have i84x2 := lc_in e84x2
            refine g_if_gt 6 10 (gd rfl) rfl rfl (fun c84x3 => ?_) (fun c84x3 => ?_)
            · skip
              have i84x3 := z_gt 1 1 c84x3 i84x2 rfl
              have c84x3a := lc_gt e84x2 c84x3
              have i84x3a := lr_lt2 (-999999999998) 9223372036854775807 c84x3a i68x10x3a (l_rng y21_6) rfl
              refine g_lload_n 11 (gd rfl) rfl rfl ?_
              refine g_lreturn (gd rfl) rfl (hp84 _ _ ?_)
              show GG _ _ _ _ _ _ _ _ [.long z67] _ _ _
              refine g_lstore 89 (gd rfl) rfl (Nat.le_of_ble_eq_true rfl) ?_
              refine g_lload 91 (gd rfl) rfl rfl ?_
              refine g_lload 93 (gd rfl) rfl rfl ?_
              refine g_calls (As := [.long y21_8, .long z67]) (r := []) 96 (gd rfl) rfl rfl rfl rfl rfl (Nat.le_of_ble_eq_true rfl) (mc := 0) (ms := 0) (Nat.zero_le _) (Nat.zero_le _) (P := fun v u => _) ?_ (fun v u h => h)
              intro po93 xx93 hp93 hx93
              refine g_enter2 (k := 423) (N := 300) (by first | exact dq1 hd rfl | exact dq0 hd rfl | exact dq2 hd rfl | exact dq3 hd rfl | omega) rfl (Nat.le_of_ble_eq_true rfl) ?_
              refine g_lload_n 1 (gd rfl) rfl rfl ?_
              refine g_lload_n 2 (gd rfl) rfl rfl ?_
              refine g_lcmp 3 (gd rfl) rfl (fun z93x2 e93x2 => ?_)
              have i93x2 := lc_in e93x2
              refine g_if_lt 6 10 (gd rfl) rfl rfl (fun c93x3 => ?_) (fun c93x3 => ?_)
              · skip
                have i93x3 := z_lt (-1) (-1) c93x3 i93x2 rfl
                have c93x3a := lc_lt e93x2 c93x3
                have i93x3a := lr_lt1 (-9223372036854775808) 999999999998 c93x3a (l_rng y21_8) i68x10x3a rfl
                refine g_lload_n 11 (gd rfl) rfl rfl ?_
                refine g_lreturn (gd rfl) rfl (hp93 _ _ ?_)
                show GG _ _ _ _ _ _ _ _ [.long z67] _ _ _
                refine g_lstore 98 (gd rfl) rfl (Nat.le_of_ble_eq_true rfl) ?_
                refine g_iinc 101 (gd rfl) rfl rfl (Nat.le_of_ble_eq_true rfl) (fun z98 e98 => ?_)
                have i98 := in_add 1 160 e98 i31 (in_c 1 rfl) rfl rfl
                refine g_goto 21 (gd rfl) rfl ?_
                exact gg_w (by first | exact Nat.le_add_right _ _ | exact gw2 | exact gw3 | exact gwe rfl | exact gwf rfl | exact gwg rfl | exact gwh rfl | omega) (gg_f (gf_cons rfl (gf_cons rfl (gf_cons rfl (gf_cons rfl (gf_cons rfl (gf_cons rfl (gf_cons rfl (gf_cons rfl gf_nil)))))))) (ih21 sc21 z77 z67 z67 z98 hIc21 hFc21 (in_w 0 160 i98 rfl) (m_up mm21 (t_add e98 i31 (in_c 1 rfl) rfl) (in_w 1 1 (in_c 1 rfl) rfl))))
              · skip
                have i93x3 := z_ge 0 1 c93x3 i93x2 rfl
                have c93x3a := lc_ge e93x2 c93x3
                have i93x3a := lr_le2 (-999999999999) 9223372036854775807 c93x3a i68x10x3a (l_rng y21_8) rfl
                refine g_lload_n 7 (gd rfl) rfl rfl ?_
                refine g_goto 11 (gd rfl) rfl ?_
                refine g_lreturn (gd rfl) rfl (hp93 _ _ ?_)
                show GG _ _ _ _ _ _ _ _ [.long y21_8] _ _ _
                refine g_lstore 98 (gd rfl) rfl (Nat.le_of_ble_eq_true rfl) ?_
                refine g_iinc 101 (gd rfl) rfl rfl (Nat.le_of_ble_eq_true rfl) (fun z98 e98 => ?_)
                have i98 := in_add 1 160 e98 i31 (in_c 1 rfl) rfl rfl
                refine g_goto 21 (gd rfl) rfl ?_
                exact gg_w (by first | exact Nat.le_add_right _ _ | exact gw2 | exact gw3 | exact gwe rfl | exact gwf rfl | exact gwg rfl | exact gwh rfl | omega) (gg_f (gf_cons rfl (gf_cons rfl (gf_cons rfl (gf_cons rfl (gf_cons rfl (gf_cons rfl (gf_cons rfl (gf_cons rfl gf_nil)))))))) (ih21 sc21 z77 z67 y21_8 z98 hIc21 hFc21 (in_w 0 160 i98 rfl) (m_up mm21 (t_add e98 i31 (in_c 1 rfl) rfl) (in_w 1 1 (in_c 1 rfl) rfl))))
            · skip
              have i84x3 := z_le (-1) 0 c84x3 i84x2 rfl
              have c84x3a := lc_le e84x2 c84x3
              have i84x3a := lr_le1 (-9223372036854775808) 999999999999 c84x3a (l_rng y21_6) i68x10x3a rfl
              refine g_lload_n 7 (gd rfl) rfl rfl ?_
              refine g_goto 11 (gd rfl) rfl ?_
              refine g_lreturn (gd rfl) rfl (hp84 _ _ ?_)
              show GG _ _ _ _ _ _ _ _ [.long y21_6] _ _ _
              refine g_lstore 89 (gd rfl) rfl (Nat.le_of_ble_eq_true rfl) ?_
              refine g_lload 91 (gd rfl) rfl rfl ?_
              refine g_lload 93 (gd rfl) rfl rfl ?_
              refine g_calls (As := [.long y21_8, .long z67]) (r := []) 96 (gd rfl) rfl rfl rfl rfl rfl (Nat.le_of_ble_eq_true rfl) (mc := 0) (ms := 0) (Nat.zero_le _) (Nat.zero_le _) (P := fun v u => _) ?_ (fun v u h => h)
              intro po93 xx93 hp93 hx93
              refine g_enter2 (k := 423) (N := 300) (by first | exact dq1 hd rfl | exact dq0 hd rfl | exact dq2 hd rfl | exact dq3 hd rfl | omega) rfl (Nat.le_of_ble_eq_true rfl) ?_
              refine g_lload_n 1 (gd rfl) rfl rfl ?_
              refine g_lload_n 2 (gd rfl) rfl rfl ?_
              refine g_lcmp 3 (gd rfl) rfl (fun z93x2 e93x2 => ?_)
              have i93x2 := lc_in e93x2
              refine g_if_lt 6 10 (gd rfl) rfl rfl (fun c93x3 => ?_) (fun c93x3 => ?_)
              · skip
                have i93x3 := z_lt (-1) (-1) c93x3 i93x2 rfl
                have c93x3a := lc_lt e93x2 c93x3
                have i93x3a := lr_lt1 (-9223372036854775808) 999999999998 c93x3a (l_rng y21_8) i68x10x3a rfl
                refine g_lload_n 11 (gd rfl) rfl rfl ?_
                refine g_lreturn (gd rfl) rfl (hp93 _ _ ?_)
                show GG _ _ _ _ _ _ _ _ [.long z67] _ _ _
                refine g_lstore 98 (gd rfl) rfl (Nat.le_of_ble_eq_true rfl) ?_
                refine g_iinc 101 (gd rfl) rfl rfl (Nat.le_of_ble_eq_true rfl) (fun z98 e98 => ?_)
                have i98 := in_add 1 160 e98 i31 (in_c 1 rfl) rfl rfl
                refine g_goto 21 (gd rfl) rfl ?_
                exact gg_w (by first | exact Nat.le_add_right _ _ | exact gw2 | exact gw3 | exact gwe rfl | exact gwf rfl | exact gwg rfl | exact gwh rfl | omega) (gg_f (gf_cons rfl (gf_cons rfl (gf_cons rfl (gf_cons rfl (gf_cons rfl (gf_cons rfl (gf_cons rfl (gf_cons rfl gf_nil)))))))) (ih21 sc21 z77 y21_6 z67 z98 hIc21 hFc21 (in_w 0 160 i98 rfl) (m_up mm21 (t_add e98 i31 (in_c 1 rfl) rfl) (in_w 1 1 (in_c 1 rfl) rfl))))
              · skip
                have i93x3 := z_ge 0 1 c93x3 i93x2 rfl
                have c93x3a := lc_ge e93x2 c93x3
                have i93x3a := lr_le2 (-999999999999) 9223372036854775807 c93x3a i68x10x3a (l_rng y21_8) rfl
                refine g_lload_n 7 (gd rfl) rfl rfl ?_
                refine g_goto 11 (gd rfl) rfl ?_
                refine g_lreturn (gd rfl) rfl (hp93 _ _ ?_)
                show GG _ _ _ _ _ _ _ _ [.long y21_8] _ _ _
                refine g_lstore 98 (gd rfl) rfl (Nat.le_of_ble_eq_true rfl) ?_
                refine g_iinc 101 (gd rfl) rfl rfl (Nat.le_of_ble_eq_true rfl) (fun z98 e98 => ?_)
                have i98 := in_add 1 160 e98 i31 (in_c 1 rfl) rfl rfl
                refine g_goto 21 (gd rfl) rfl ?_
                exact gg_w (by first | exact Nat.le_add_right _ _ | exact gw2 | exact gw3 | exact gwe rfl | exact gwf rfl | exact gwg rfl | exact gwh rfl | omega) (gg_f (gf_cons rfl (gf_cons rfl (gf_cons rfl (gf_cons rfl (gf_cons rfl (gf_cons rfl (gf_cons rfl (gf_cons rfl gf_nil)))))))) (ih21 sc21 z77 y21_6 y21_8 z98 hIc21 hFc21 (in_w 0 160 i98 rfl) (m_up mm21 (t_add e98 i31 (in_c 1 rfl) rfl) (in_w 1 1 (in_c 1 rfl) rfl))))
          · skip
            have i68x10x3 := z_ge 0 1 c68x10x3 i68x10x2 rfl
            have c68x10x3a := lc_ge e68x10x2 c68x10x3
            have i68x10x3a := lr_le1 (-9223372036854775808) (-1000000000000) c68x10x3a i68x7x3a (l_c (-1000000000000) rfl) rfl
            refine g_lload_n 7 (gd rfl) rfl rfl ?_
            refine g_goto 11 (gd rfl) rfl ?_
            refine g_lreturn (gd rfl) rfl (hp68x10 _ _ ?_)
            show GG _ _ _ _ _ _ _ _ [.long (Int64.ofInt (-1000000000000))] _ _ _
            refine g_lreturn (gd rfl) rfl (hp68 _ _ ?_)
            show GG _ _ _ _ _ _ _ _ [.long (Int64.ofInt (-1000000000000))] _ _ _
            refine g_lstore 73 (gd rfl) rfl (Nat.le_of_ble_eq_true rfl) ?_
            refine g_lload 75 (gd rfl) rfl rfl ?_
            refine g_lload 77 (gd rfl) rfl rfl ?_
            refine g_ladd 78 (gd rfl) rfl (fun z77 e77 => ?_)
            refine g_lstore 80 (gd rfl) rfl (Nat.le_of_ble_eq_true rfl) ?_
            refine g_lload 82 (gd rfl) rfl rfl ?_
            refine g_lload 84 (gd rfl) rfl rfl ?_
            refine g_calls (As := [.long y21_6, .long (Int64.ofInt (-1000000000000))]) (r := []) 87 (gd rfl) rfl rfl rfl rfl rfl (Nat.le_of_ble_eq_true rfl) (mc := 0) (ms := 0) (Nat.zero_le _) (Nat.zero_le _) (P := fun v u => _) ?_ (fun v u h => h)
            intro po84 xx84 hp84 hx84
            refine g_enter2 (k := 425) (N := 300) (by first | exact dq1 hd rfl | exact dq0 hd rfl | exact dq2 hd rfl | exact dq3 hd rfl | omega) rfl (Nat.le_of_ble_eq_true rfl) ?_
            refine g_lload_n 1 (gd rfl) rfl rfl ?_
            refine g_lload_n 2 (gd rfl) rfl rfl ?_
            refine g_lcmp 3 (gd rfl) rfl (fun z84x2 e84x2 => ?_)
            have i84x2 := lc_in e84x2
            refine g_if_gt 6 10 (gd rfl) rfl rfl (fun c84x3 => ?_) (fun c84x3 => ?_)
            · skip
              have i84x3 := z_gt 1 1 c84x3 i84x2 rfl
              have c84x3a := lc_gt e84x2 c84x3
              have i84x3a := lr_lt2 (-999999999999) 9223372036854775807 c84x3a (l_c (-1000000000000) rfl) (l_rng y21_6) rfl
              refine g_lload_n 11 (gd rfl) rfl rfl ?_
              refine g_lreturn (gd rfl) rfl (hp84 _ _ ?_)
              show GG _ _ _ _ _ _ _ _ [.long (Int64.ofInt (-1000000000000))] _ _ _
              refine g_lstore 89 (gd rfl) rfl (Nat.le_of_ble_eq_true rfl) ?_
              refine g_lload 91 (gd rfl) rfl rfl ?_
              refine g_lload 93 (gd rfl) rfl rfl ?_
              refine g_calls (As := [.long y21_8, .long (Int64.ofInt (-1000000000000))]) (r := []) 96 (gd rfl) rfl rfl rfl rfl rfl (Nat.le_of_ble_eq_true rfl) (mc := 0) (ms := 0) (Nat.zero_le _) (Nat.zero_le _) (P := fun v u => _) ?_ (fun v u h => h)
              intro po93 xx93 hp93 hx93
              refine g_enter2 (k := 423) (N := 300) (by first | exact dq1 hd rfl | exact dq0 hd rfl | exact dq2 hd rfl | exact dq3 hd rfl | omega) rfl (Nat.le_of_ble_eq_true rfl) ?_
              refine g_lload_n 1 (gd rfl) rfl rfl ?_
              refine g_lload_n 2 (gd rfl) rfl rfl ?_
              refine g_lcmp 3 (gd rfl) rfl (fun z93x2 e93x2 => ?_)
              have i93x2 := lc_in e93x2
              refine g_if_lt 6 10 (gd rfl) rfl rfl (fun c93x3 => ?_) (fun c93x3 => ?_)
              · skip
                have i93x3 := z_lt (-1) (-1) c93x3 i93x2 rfl
                have c93x3a := lc_lt e93x2 c93x3
                have i93x3a := lr_lt1 (-9223372036854775808) (-1000000000001) c93x3a (l_rng y21_8) (l_c (-1000000000000) rfl) rfl
                refine g_lload_n 11 (gd rfl) rfl rfl ?_
                refine g_lreturn (gd rfl) rfl (hp93 _ _ ?_)
                show GG _ _ _ _ _ _ _ _ [.long (Int64.ofInt (-1000000000000))] _ _ _
                refine g_lstore 98 (gd rfl) rfl (Nat.le_of_ble_eq_true rfl) ?_
                refine g_iinc 101 (gd rfl) rfl rfl (Nat.le_of_ble_eq_true rfl) (fun z98 e98 => ?_)
                have i98 := in_add 1 160 e98 i31 (in_c 1 rfl) rfl rfl
                refine g_goto 21 (gd rfl) rfl ?_
                exact gg_w (by first | exact Nat.le_add_right _ _ | exact gw2 | exact gw3 | exact gwe rfl | exact gwf rfl | exact gwg rfl | exact gwh rfl | omega) (gg_f (gf_cons rfl (gf_cons rfl (gf_cons rfl (gf_cons rfl (gf_cons rfl (gf_cons rfl (gf_cons rfl (gf_cons rfl gf_nil)))))))) (ih21 sc21 z77 (Int64.ofInt (-1000000000000)) (Int64.ofInt (-1000000000000)) z98 hIc21 hFc21 (in_w 0 160 i98 rfl) (m_up mm21 (t_add e98 i31 (in_c 1 rfl) rfl) (in_w 1 1 (in_c 1 rfl) rfl))))
              · skip
                have i93x3 := z_ge 0 1 c93x3 i93x2 rfl
                have c93x3a := lc_ge e93x2 c93x3
                have i93x3a := lr_le2 (-1000000000000) 9223372036854775807 c93x3a (l_c (-1000000000000) rfl) (l_rng y21_8) rfl
                refine g_lload_n 7 (gd rfl) rfl rfl ?_
                refine g_goto 11 (gd rfl) rfl ?_
                refine g_lreturn (gd rfl) rfl (hp93 _ _ ?_)
                show GG _ _ _ _ _ _ _ _ [.long y21_8] _ _ _
                refine g_lstore 98 (gd rfl) rfl (Nat.le_of_ble_eq_true rfl) ?_
                refine g_iinc 101 (gd rfl) rfl rfl (Nat.le_of_ble_eq_true rfl) (fun z98 e98 => ?_)
                have i98 := in_add 1 160 e98 i31 (in_c 1 rfl) rfl rfl
                refine g_goto 21 (gd rfl) rfl ?_
                exact gg_w (by first | exact Nat.le_add_right _ _ | exact gw2 | exact gw3 | exact gwe rfl | exact gwf rfl | exact gwg rfl | exact gwh rfl | omega) (gg_f (gf_cons rfl (gf_cons rfl (gf_cons rfl (gf_cons rfl (gf_cons rfl (gf_cons rfl (gf_cons rfl (gf_cons rfl gf_nil)))))))) (ih21 sc21 z77 (Int64.ofInt (-1000000000000)) y21_8 z98 hIc21 hFc21 (in_w 0 160 i98 rfl) (m_up mm21 (t_add e98 i31 (in_c 1 rfl) rfl) (in_w 1 1 (in_c 1 rfl) rfl))))
            · skip
              have i84x3 := z_le (-1) 0 c84x3 i84x2 rfl
              have c84x3a := lc_le e84x2 c84x3
              have i84x3a := lr_le1 (-9223372036854775808) (-1000000000000) c84x3a (l_rng y21_6) (l_c (-1000000000000) rfl) rfl
              refine g_lload_n 7 (gd rfl) rfl rfl ?_
              refine g_goto 11 (gd rfl) rfl ?_
              refine g_lreturn (gd rfl) rfl (hp84 _ _ ?_)
              show GG _ _ _ _ _ _ _ _ [.long y21_6] _ _ _
              refine g_lstore 89 (gd rfl) rfl (Nat.le_of_ble_eq_true rfl) ?_
              refine g_lload 91 (gd rfl) rfl rfl ?_
              refine g_lload 93 (gd rfl) rfl rfl ?_
              refine g_calls (As := [.long y21_8, .long (Int64.ofInt (-1000000000000))]) (r := []) 96 (gd rfl) rfl rfl rfl rfl rfl (Nat.le_of_ble_eq_true rfl) (mc := 0) (ms := 0) (Nat.zero_le _) (Nat.zero_le _) (P := fun v u => _) ?_ (fun v u h => h)
              intro po93 xx93 hp93 hx93
              refine g_enter2 (k := 423) (N := 300) (by first | exact dq1 hd rfl | exact dq0 hd rfl | exact dq2 hd rfl | exact dq3 hd rfl | omega) rfl (Nat.le_of_ble_eq_true rfl) ?_
              refine g_lload_n 1 (gd rfl) rfl rfl ?_
              refine g_lload_n 2 (gd rfl) rfl rfl ?_
              refine g_lcmp 3 (gd rfl) rfl (fun z93x2 e93x2 => ?_)
              have i93x2 := lc_in e93x2
              refine g_if_lt 6 10 (gd rfl) rfl rfl (fun c93x3 => ?_) (fun c93x3 => ?_)
              · skip
                have i93x3 := z_lt (-1) (-1) c93x3 i93x2 rfl
                have c93x3a := lc_lt e93x2 c93x3
                have i93x3a := lr_lt1 (-9223372036854775808) (-1000000000001) c93x3a (l_rng y21_8) (l_c (-1000000000000) rfl) rfl
                refine g_lload_n 11 (gd rfl) rfl rfl ?_
                refine g_lreturn (gd rfl) rfl (hp93 _ _ ?_)
                show GG _ _ _ _ _ _ _ _ [.long (Int64.ofInt (-1000000000000))] _ _ _
                refine g_lstore 98 (gd rfl) rfl (Nat.le_of_ble_eq_true rfl) ?_
                refine g_iinc 101 (gd rfl) rfl rfl (Nat.le_of_ble_eq_true rfl) (fun z98 e98 => ?_)
                have i98 := in_add 1 160 e98 i31 (in_c 1 rfl) rfl rfl
                refine g_goto 21 (gd rfl) rfl ?_
                exact gg_w (by first | exact Nat.le_add_right _ _ | exact gw2 | exact gw3 | exact gwe rfl | exact gwf rfl | exact gwg rfl | exact gwh rfl | omega) (gg_f (gf_cons rfl (gf_cons rfl (gf_cons rfl (gf_cons rfl (gf_cons rfl (gf_cons rfl (gf_cons rfl (gf_cons rfl gf_nil)))))))) (ih21 sc21 z77 y21_6 (Int64.ofInt (-1000000000000)) z98 hIc21 hFc21 (in_w 0 160 i98 rfl) (m_up mm21 (t_add e98 i31 (in_c 1 rfl) rfl) (in_w 1 1 (in_c 1 rfl) rfl))))
              · skip
                have i93x3 := z_ge 0 1 c93x3 i93x2 rfl
                have c93x3a := lc_ge e93x2 c93x3
                have i93x3a := lr_le2 (-1000000000000) 9223372036854775807 c93x3a (l_c (-1000000000000) rfl) (l_rng y21_8) rfl
                refine g_lload_n 7 (gd rfl) rfl rfl ?_
                refine g_goto 11 (gd rfl) rfl ?_
                refine g_lreturn (gd rfl) rfl (hp93 _ _ ?_)
                show GG _ _ _ _ _ _ _ _ [.long y21_8] _ _ _
                refine g_lstore 98 (gd rfl) rfl (Nat.le_of_ble_eq_true rfl) ?_
                refine g_iinc 101 (gd rfl) rfl rfl (Nat.le_of_ble_eq_true rfl) (fun z98 e98 => ?_)
                have i98 := in_add 1 160 e98 i31 (in_c 1 rfl) rfl rfl
                refine g_goto 21 (gd rfl) rfl ?_
                exact gg_w (by first | exact Nat.le_add_right _ _ | exact gw2 | exact gw3 | exact gwe rfl | exact gwf rfl | exact gwg rfl | exact gwh rfl | omega) (gg_f (gf_cons rfl (gf_cons rfl (gf_cons rfl (gf_cons rfl (gf_cons rfl (gf_cons rfl (gf_cons rfl (gf_cons rfl gf_nil)))))))) (ih21 sc21 z77 y21_6 y21_8 z98 hIc21 hFc21 (in_w 0 160 i98 rfl) (m_up mm21 (t_add e98 i31 (in_c 1 rfl) rfl) (in_w 1 1 (in_c 1 rfl) rfl))))
        · skip
          have i68x7x3 := z_le (-1) 0 c68x7x3 i68x7x2 rfl
          have c68x7x3a := lc_le e68x7x2 c68x7x3
          have i68x7x3a := lr_le2 1000000000000 9223372036854775807 c68x7x3a (l_c 1000000000000 rfl) (l_rng z67) rfl
          refine g_lload_n 7 (gd rfl) rfl rfl ?_
          refine g_goto 11 (gd rfl) rfl ?_
          refine g_lreturn (gd rfl) rfl (hp68x7 _ _ ?_)
          show GG _ _ _ _ _ _ _ _ [.long (Int64.ofInt 1000000000000), .long (Int64.ofInt (-1000000000000))] _ _ _
          refine g_calls (As := [.long (Int64.ofInt (-1000000000000)), .long (Int64.ofInt 1000000000000)]) (r := []) 13 (gd rfl) rfl rfl rfl rfl rfl (Nat.le_of_ble_eq_true rfl) (mc := 0) (ms := 0) (Nat.zero_le _) (Nat.zero_le _) (P := fun v u => _) ?_ (fun v u h => h)
          intro po68x10 xx68x10 hp68x10 hx68x10
          refine g_enter2 (k := 423) (N := 300) (by first | exact dq1 hd rfl | exact dq0 hd rfl | exact dq2 hd rfl | exact dq3 hd rfl | omega) rfl (Nat.le_of_ble_eq_true rfl) ?_
          refine g_lload_n 1 (gd rfl) rfl rfl ?_
          refine g_lload_n 2 (gd rfl) rfl rfl ?_
          refine g_lcmp 3 (gd rfl) rfl (fun z68x10x2 e68x10x2 => ?_)
          have i68x10x2 := lc_in e68x10x2
          refine g_if_lt 6 10 (gd rfl) rfl rfl (fun c68x10x3 => ?_) (fun c68x10x3 => ?_)
          · skip
            have i68x10x3 := z_lt (-1) (-1) c68x10x3 i68x10x2 rfl
            have c68x10x3a := lc_lt e68x10x2 c68x10x3
            refine g_lload_n 11 (gd rfl) rfl rfl ?_
            refine g_lreturn (gd rfl) rfl (hp68x10 _ _ ?_)
            show GG _ _ _ _ _ _ _ _ [.long (Int64.ofInt 1000000000000)] _ _ _
            refine g_lreturn (gd rfl) rfl (hp68 _ _ ?_)
            show GG _ _ _ _ _ _ _ _ [.long (Int64.ofInt 1000000000000)] _ _ _
            refine g_lstore 73 (gd rfl) rfl (Nat.le_of_ble_eq_true rfl) ?_
            refine g_lload 75 (gd rfl) rfl rfl ?_
            refine g_lload 77 (gd rfl) rfl rfl ?_
            refine g_ladd 78 (gd rfl) rfl (fun z77 e77 => ?_)
            refine g_lstore 80 (gd rfl) rfl (Nat.le_of_ble_eq_true rfl) ?_
            refine g_lload 82 (gd rfl) rfl rfl ?_
            refine g_lload 84 (gd rfl) rfl rfl ?_
            refine g_calls (As := [.long y21_6, .long (Int64.ofInt 1000000000000)]) (r := []) 87 (gd rfl) rfl rfl rfl rfl rfl (Nat.le_of_ble_eq_true rfl) (mc := 0) (ms := 0) (Nat.zero_le _) (Nat.zero_le _) (P := fun v u => _) ?_ (fun v u h => h)
            intro po84 xx84 hp84 hx84
            refine g_enter2 (k := 425) (N := 300) (by first | exact dq1 hd rfl | exact dq0 hd rfl | exact dq2 hd rfl | exact dq3 hd rfl | omega) rfl (Nat.le_of_ble_eq_true rfl) ?_
            refine g_lload_n 1 (gd rfl) rfl rfl ?_
            refine g_lload_n 2 (gd rfl) rfl rfl ?_
            refine g_lcmp 3 (gd rfl) rfl (fun z84x2 e84x2 => ?_)
            have i84x2 := lc_in e84x2
            refine g_if_gt 6 10 (gd rfl) rfl rfl (fun c84x3 => ?_) (fun c84x3 => ?_)
            · skip
              have i84x3 := z_gt 1 1 c84x3 i84x2 rfl
              have c84x3a := lc_gt e84x2 c84x3
              have i84x3a := lr_lt2 1000000000001 9223372036854775807 c84x3a (l_c 1000000000000 rfl) (l_rng y21_6) rfl
              refine g_lload_n 11 (gd rfl) rfl rfl ?_
              refine g_lreturn (gd rfl) rfl (hp84 _ _ ?_)
              show GG _ _ _ _ _ _ _ _ [.long (Int64.ofInt 1000000000000)] _ _ _
              refine g_lstore 89 (gd rfl) rfl (Nat.le_of_ble_eq_true rfl) ?_
              refine g_lload 91 (gd rfl) rfl rfl ?_
              refine g_lload 93 (gd rfl) rfl rfl ?_
              refine g_calls (As := [.long y21_8, .long (Int64.ofInt 1000000000000)]) (r := []) 96 (gd rfl) rfl rfl rfl rfl rfl (Nat.le_of_ble_eq_true rfl) (mc := 0) (ms := 0) (Nat.zero_le _) (Nat.zero_le _) (P := fun v u => _) ?_ (fun v u h => h)
              intro po93 xx93 hp93 hx93
              refine g_enter2 (k := 423) (N := 300) (by first | exact dq1 hd rfl | exact dq0 hd rfl | exact dq2 hd rfl | exact dq3 hd rfl | omega) rfl (Nat.le_of_ble_eq_true rfl) ?_
              refine g_lload_n 1 (gd rfl) rfl rfl ?_
              refine g_lload_n 2 (gd rfl) rfl rfl ?_
              refine g_lcmp 3 (gd rfl) rfl (fun z93x2 e93x2 => ?_)
              have i93x2 := lc_in e93x2
              refine g_if_lt 6 10 (gd rfl) rfl rfl (fun c93x3 => ?_) (fun c93x3 => ?_)
              · skip
                have i93x3 := z_lt (-1) (-1) c93x3 i93x2 rfl
                have c93x3a := lc_lt e93x2 c93x3
                have i93x3a := lr_lt1 (-9223372036854775808) 999999999999 c93x3a (l_rng y21_8) (l_c 1000000000000 rfl) rfl
                refine g_lload_n 11 (gd rfl) rfl rfl ?_
                refine g_lreturn (gd rfl) rfl (hp93 _ _ ?_)
                show GG _ _ _ _ _ _ _ _ [.long (Int64.ofInt 1000000000000)] _ _ _
                refine g_lstore 98 (gd rfl) rfl (Nat.le_of_ble_eq_true rfl) ?_
                refine g_iinc 101 (gd rfl) rfl rfl (Nat.le_of_ble_eq_true rfl) (fun z98 e98 => ?_)
                have i98 := in_add 1 160 e98 i31 (in_c 1 rfl) rfl rfl
                refine g_goto 21 (gd rfl) rfl ?_
                exact gg_w (by first | exact Nat.le_add_right _ _ | exact gw2 | exact gw3 | exact gwe rfl | exact gwf rfl | exact gwg rfl | exact gwh rfl | omega) (gg_f (gf_cons rfl (gf_cons rfl (gf_cons rfl (gf_cons rfl (gf_cons rfl (gf_cons rfl (gf_cons rfl (gf_cons rfl gf_nil)))))))) (ih21 sc21 z77 (Int64.ofInt 1000000000000) (Int64.ofInt 1000000000000) z98 hIc21 hFc21 (in_w 0 160 i98 rfl) (m_up mm21 (t_add e98 i31 (in_c 1 rfl) rfl) (in_w 1 1 (in_c 1 rfl) rfl))))
              · skip
                have i93x3 := z_ge 0 1 c93x3 i93x2 rfl
                have c93x3a := lc_ge e93x2 c93x3
                have i93x3a := lr_le2 1000000000000 9223372036854775807 c93x3a (l_c 1000000000000 rfl) (l_rng y21_8) rfl
                refine g_lload_n 7 (gd rfl) rfl rfl ?_
                refine g_goto 11 (gd rfl) rfl ?_
                refine g_lreturn (gd rfl) rfl (hp93 _ _ ?_)
                show GG _ _ _ _ _ _ _ _ [.long y21_8] _ _ _
                refine g_lstore 98 (gd rfl) rfl (Nat.le_of_ble_eq_true rfl) ?_
                refine g_iinc 101 (gd rfl) rfl rfl (Nat.le_of_ble_eq_true rfl) (fun z98 e98 => ?_)
                have i98 := in_add 1 160 e98 i31 (in_c 1 rfl) rfl rfl
                refine g_goto 21 (gd rfl) rfl ?_
                exact gg_w (by first | exact Nat.le_add_right _ _ | exact gw2 | exact gw3 | exact gwe rfl | exact gwf rfl | exact gwg rfl | exact gwh rfl | omega) (gg_f (gf_cons rfl (gf_cons rfl (gf_cons rfl (gf_cons rfl (gf_cons rfl (gf_cons rfl (gf_cons rfl (gf_cons rfl gf_nil)))))))) (ih21 sc21 z77 (Int64.ofInt 1000000000000) y21_8 z98 hIc21 hFc21 (in_w 0 160 i98 rfl) (m_up mm21 (t_add e98 i31 (in_c 1 rfl) rfl) (in_w 1 1 (in_c 1 rfl) rfl))))
            · skip
              have i84x3 := z_le (-1) 0 c84x3 i84x2 rfl
              have c84x3a := lc_le e84x2 c84x3
              have i84x3a := lr_le1 (-9223372036854775808) 1000000000000 c84x3a (l_rng y21_6) (l_c 1000000000000 rfl) rfl
              refine g_lload_n 7 (gd rfl) rfl rfl ?_
              refine g_goto 11 (gd rfl) rfl ?_
              refine g_lreturn (gd rfl) rfl (hp84 _ _ ?_)
              show GG _ _ _ _ _ _ _ _ [.long y21_6] _ _ _
              refine g_lstore 89 (gd rfl) rfl (Nat.le_of_ble_eq_true rfl) ?_
              refine g_lload 91 (gd rfl) rfl rfl ?_
              refine g_lload 93 (gd rfl) rfl rfl ?_
              refine g_calls (As := [.long y21_8, .long (Int64.ofInt 1000000000000)]) (r := []) 96 (gd rfl) rfl rfl rfl rfl rfl (Nat.le_of_ble_eq_true rfl) (mc := 0) (ms := 0) (Nat.zero_le _) (Nat.zero_le _) (P := fun v u => _) ?_ (fun v u h => h)
              intro po93 xx93 hp93 hx93
              refine g_enter2 (k := 423) (N := 300) (by first | exact dq1 hd rfl | exact dq0 hd rfl | exact dq2 hd rfl | exact dq3 hd rfl | omega) rfl (Nat.le_of_ble_eq_true rfl) ?_
              refine g_lload_n 1 (gd rfl) rfl rfl ?_
              refine g_lload_n 2 (gd rfl) rfl rfl ?_
              refine g_lcmp 3 (gd rfl) rfl (fun z93x2 e93x2 => ?_)
              have i93x2 := lc_in e93x2
              refine g_if_lt 6 10 (gd rfl) rfl rfl (fun c93x3 => ?_) (fun c93x3 => ?_)
              · skip
                have i93x3 := z_lt (-1) (-1) c93x3 i93x2 rfl
                have c93x3a := lc_lt e93x2 c93x3
                have i93x3a := lr_lt1 (-9223372036854775808) 999999999999 c93x3a (l_rng y21_8) (l_c 1000000000000 rfl) rfl
                refine g_lload_n 11 (gd rfl) rfl rfl ?_
                refine g_lreturn (gd rfl) rfl (hp93 _ _ ?_)
                show GG _ _ _ _ _ _ _ _ [.long (Int64.ofInt 1000000000000)] _ _ _
                refine g_lstore 98 (gd rfl) rfl (Nat.le_of_ble_eq_true rfl) ?_
                refine g_iinc 101 (gd rfl) rfl rfl (Nat.le_of_ble_eq_true rfl) (fun z98 e98 => ?_)
                have i98 := in_add 1 160 e98 i31 (in_c 1 rfl) rfl rfl
                refine g_goto 21 (gd rfl) rfl ?_
                exact gg_w (by first | exact Nat.le_add_right _ _ | exact gw2 | exact gw3 | exact gwe rfl | exact gwf rfl | exact gwg rfl | exact gwh rfl | omega) (gg_f (gf_cons rfl (gf_cons rfl (gf_cons rfl (gf_cons rfl (gf_cons rfl (gf_cons rfl (gf_cons rfl (gf_cons rfl gf_nil)))))))) (ih21 sc21 z77 y21_6 (Int64.ofInt 1000000000000) z98 hIc21 hFc21 (in_w 0 160 i98 rfl) (m_up mm21 (t_add e98 i31 (in_c 1 rfl) rfl) (in_w 1 1 (in_c 1 rfl) rfl))))
              · skip
                have i93x3 := z_ge 0 1 c93x3 i93x2 rfl
                have c93x3a := lc_ge e93x2 c93x3
                have i93x3a := lr_le2 1000000000000 9223372036854775807 c93x3a (l_c 1000000000000 rfl) (l_rng y21_8) rfl
                refine g_lload_n 7 (gd rfl) rfl rfl ?_
                refine g_goto 11 (gd rfl) rfl ?_
                refine g_lreturn (gd rfl) rfl (hp93 _ _ ?_)
                show GG _ _ _ _ _ _ _ _ [.long y21_8] _ _ _
                refine g_lstore 98 (gd rfl) rfl (Nat.le_of_ble_eq_true rfl) ?_
                refine g_iinc 101 (gd rfl) rfl rfl (Nat.le_of_ble_eq_true rfl) (fun z98 e98 => ?_)
                have i98 := in_add 1 160 e98 i31 (in_c 1 rfl) rfl rfl
                refine g_goto 21 (gd rfl) rfl ?_
                exact gg_w (by first | exact Nat.le_add_right _ _ | exact gw2 | exact gw3 | exact gwe rfl | exact gwf rfl | exact gwg rfl | exact gwh rfl | omega) (gg_f (gf_cons rfl (gf_cons rfl (gf_cons rfl (gf_cons rfl (gf_cons rfl (gf_cons rfl (gf_cons rfl (gf_cons rfl gf_nil)))))))) (ih21 sc21 z77 y21_6 y21_8 z98 hIc21 hFc21 (in_w 0 160 i98 rfl) (m_up mm21 (t_add e98 i31 (in_c 1 rfl) rfl) (in_w 1 1 (in_c 1 rfl) rfl))))
          · skip
            have i68x10x3 := z_ge 0 1 c68x10x3 i68x10x2 rfl
            have c68x10x3a := lc_ge e68x10x2 c68x10x3
            exact ln_le c68x10x3a (l_c 1000000000000 rfl) (l_c (-1000000000000) rfl) rfl
  refine g_enter2 (k := 65) (N := 145801) (by first | exact dq1 hd rfl | exact dq0 hd rfl | exact dq2 hd rfl | exact dq3 hd rfl | omega) rfl (Nat.le_of_ble_eq_true rfl) ?_
  refine g_lconst 0 1 (gd rfl) rfl rfl ?_
  refine g_lstore 3 (gd rfl) rfl (Nat.le_of_ble_eq_true rfl) ?_
  refine g_ldc2_w 1000000000000 6 (gd rfl) rfl rfl ?_
  refine g_lstore 8 (gd rfl) rfl (Nat.le_of_ble_eq_true rfl) ?_
  refine g_ldc2_w (-1000000000000) 11 (gd rfl) rfl rfl ?_
  refine g_lstore 13 (gd rfl) rfl (Nat.le_of_ble_eq_true rfl) ?_
  refine g_aload_n 14 (gd rfl) rfl rfl ?_
  refine g_getA (q2 := 14) 17 (gd rfl) rfl rfl rfl rfl ?_
  refine g_iload_n 18 (gd rfl) rfl rfl ?_
  refine g_iaload 19 (gd rfl) rfl (n := 33) rfl (in_ix h2 rfl) (fun z18 e18 => ?_)
  have i18 := inv_I hI (n := 33) (t := 0) 0 160 rfl (in_ix h2 rfl) rfl e18
  refine g_istore 21 (gd rfl) rfl (Nat.le_of_ble_eq_true rfl) ?_
  exact gg_w (by first | exact Nat.le_of_ble_eq_true rfl | omega) (gg_f (gf_cons rfl (gf_cons rfl (gf_cons rfl (gf_cons rfl (gf_cons rfl (gf_cons rfl (gf_cons rfl (gf_cons rfl gf_nil)))))))) (ct21 161 s (Int64.ofInt 0) (Int64.ofInt 1000000000000) (Int64.ofInt (-1000000000000)) z18 hI fr_rf (in_w 0 160 i18 rfl) (m_in 161 (in_w 0 160 i18 rfl) rfl)))

def fm_65_102_32 : FM := ([], [106], [], [])
/-- GraphHouse$Engine.look -/
theorem k_65_102_32 {Z : AmZ} {A : Nat → Nat} {s : GS} {ex : va_W} {d : Nat} {X : AmX} {x2 : Int32} {x3 : Int32} {u_32_4 : Int32} {u_32_0 : Int32} (hd : 4 ≤ d) (hI : Inv s) (h2 : In x2 0 31) (h3 : In x3 0 200) (e_32_4 : u_32_4 = s.2.2.1 32 4) (e_32_0 : u_32_0 = s.2.2.1 32 0) (p_0 : (u_32_4).toInt = (u_32_0).toInt) : GC Z d 65 [.ref (A 102), .ref (A 32), .int x2, .int x3] (WW Z A s ++ ex) 0 0 (fun v u => ∃ t : GS, Inv t ∧ Fr fm_65_102_32 s t ∧ v = none ∧ u = WW Z A t ++ ex) X := by
  intro post xp hP hX
  have ro_32_4 := inv_F hI (-1) 4000 rfl e_32_4
  have ro_32_0 := inv_F hI 0 4000 rfl e_32_0
  have ct21 : ∀ (k21 : Nat) (sc21 : GS) (y21_4 : Int64) (y21_6 : Int64) (y21_8 : Int64) (y21_10 : Int32), Inv sc21 → Fr fm_65_102_32 s sc21 → (In y21_10 0 160) → 160 - (y21_10).toInt < (k21 : Int) → GG Z (d - 1) 65 post (gx xp) (1 + k21 * 900) 21 (fun j => xlook j [(0, .ref (A 102)), (1, .ref (A 32)), (2, .int x2), (3, .int x3), (4, .long y21_4), (6, .long y21_6), (8, .long y21_8), (10, .int y21_10)]) [] (WW Z A sc21 ++ ex) 0 0 := by
    intro k21
    induction k21 with
    | zero => intro sc21 y21_4 y21_6 y21_8 y21_10 hIc21 hFc21 j21_10 mm21; exact m_no mm21 j21_10 rfl
    | succ k21 ih21 =>
      intro sc21 y21_4 y21_6 y21_8 y21_10 hIc21 hFc21 j21_10 mm21
      refine gg_w (M := 1 + k21 * 900 + 900) gws ?_
      refine g_iload 23 (gd rfl) rfl rfl ?_
      refine g_aload_n 24 (gd rfl) rfl rfl ?_
      refine g_getA (q2 := 44) 27 (gd rfl) rfl rfl rfl rfl ?_
      refine g_iload_n 28 (gd rfl) rfl rfl ?_
      refine g_iconst 1 29 (gd rfl) rfl rfl ?_
      refine g_iadd 30 (gd rfl) rfl (fun z29 e29 => ?_)
      have i29 := in_add 1 32 e29 h2 (in_c 1 rfl) rfl rfl
      refine g_iaload 31 (gd rfl) rfl (n := 33) rfl (in_ix i29 rfl) (fun z30 e30 => ?_)
      have i30 := inv_I hIc21 (n := 33) (t := 0) 0 160 rfl (in_ix i29 rfl) rfl e30
      refine g_cmp_ge 34 104 (gd rfl) rfl rfl (fun c31 => ?_) (fun c31 => ?_)
      · skip
        refine g_aload_n 105 (gd rfl) rfl rfl ?_
        refine g_getA (q2 := 106) 108 (gd rfl) rfl rfl rfl rfl ?_
        refine g_iconst 0 109 (gd rfl) rfl rfl ?_
        refine g_aload_n 110 (gd rfl) rfl rfl ?_
        refine g_getA (q2 := 108) 113 (gd rfl) rfl rfl rfl rfl ?_
        refine g_iload_n 114 (gd rfl) rfl rfl ?_
        refine g_laload 115 (gd rfl) rfl (n := 32) rfl (in_ix h2 rfl) (fun z114 e114 => ?_)
        refine g_lastore 116 (gd rfl) rfl (n := 9) rfl (in_ix (in_c 0 rfl) rfl) ?_
        have hI115 := inv_sL (q := 106) (j := (Int32.ofInt 0).toNatClampNeg) (x := z114) hIc21 rfl (l_rng z114)
        refine g_aload_n 117 (gd rfl) rfl rfl ?_
        refine g_getA (q2 := 106) 120 (gd rfl) rfl rfl rfl rfl ?_
        refine g_iconst 1 121 (gd rfl) rfl rfl ?_
        refine g_iload_n 122 (gd rfl) rfl rfl ?_
        refine g_i2l 123 (gd rfl) rfl (fun z122 e122 => ?_)
        have i122 := l_i e122 h2
        refine g_lastore 124 (gd rfl) rfl (n := 9) rfl (in_ix (in_c 1 rfl) rfl) ?_
        have hI123 := inv_sL (q := 106) (j := (Int32.ofInt 1).toNatClampNeg) (x := z122) hI115 rfl (l_rng z122)
        refine g_aload_n 125 (gd rfl) rfl rfl ?_
        refine g_getA (q2 := 106) 128 (gd rfl) rfl rfl rfl rfl ?_
        refine g_iconst 2 129 (gd rfl) rfl rfl ?_
        refine g_aload_n 130 (gd rfl) rfl rfl ?_
        refine g_getA (q2 := 33) 133 (gd rfl) rfl rfl rfl rfl ?_
        refine g_iload_n 134 (gd rfl) rfl rfl ?_
        refine g_iaload 135 (gd rfl) rfl (n := 32) rfl (in_ix h2 rfl) (fun z134 e134 => ?_)
        have i134 := inv_I hI123 (n := 32) (t := 0) 0 25 rfl (in_ix h2 rfl) rfl e134
        refine g_i2l 136 (gd rfl) rfl (fun z135 e135 => ?_)
        have i135 := l_i e135 i134
        refine g_lastore 137 (gd rfl) rfl (n := 9) rfl (in_ix (in_c 2 rfl) rfl) ?_
        have hI136 := inv_sL (q := 106) (j := (Int32.ofInt 2).toNatClampNeg) (x := z135) hI123 rfl (l_rng z135)
        refine g_aload_n 138 (gd rfl) rfl rfl ?_
        refine g_getA (q2 := 106) 141 (gd rfl) rfl rfl rfl rfl ?_
        refine g_iconst 3 142 (gd rfl) rfl rfl ?_
        refine g_aload_n 143 (gd rfl) rfl rfl ?_
        refine g_iload_n 144 (gd rfl) rfl rfl ?_
        refine g_callv (X := _) (As := [.int x2]) (r := [.int (Int32.ofInt 3), .ref (A 106)]) (b := A 32) (q := 32) 147 (gd rfl) rfl rfl rfl rfl rfl (ww_o rfl) (Nat.le_of_ble_eq_true rfl) (mc := 0) (ms := 0) (Nat.zero_le _) (Nat.zero_le _) (P := fun v u => _) ?_ (fun e u h => h) (fun v u h => h)
        intro po144 xx144 hp144 hx144
        refine g_enter2 (k := 103) (N := 300) (by first | exact dq1 hd rfl | exact dq0 hd rfl | exact dq2 hd rfl | exact dq3 hd rfl | omega) rfl (Nat.le_of_ble_eq_true rfl) ?_
        refine g_aload_n 1 (gd rfl) rfl rfl ?_
        refine g_getA (q2 := 42) 4 (gd rfl) rfl rfl rfl rfl ?_
        refine g_iload_n 5 (gd rfl) rfl rfl ?_
        refine g_iconst 1 6 (gd rfl) rfl rfl ?_
        refine g_iadd 7 (gd rfl) rfl (fun z144x6 e144x6 => ?_)
        have i144x6 := in_add 1 32 e144x6 h2 (in_c 1 rfl) rfl rfl
        refine g_iaload 8 (gd rfl) rfl (n := 33) rfl (in_ix i144x6 rfl) (fun z144x7 e144x7 => ?_)
        have i144x7 := inv_I hI136 (n := 33) (t := 0) 0 160 rfl (in_ix i144x6 rfl) rfl e144x7
        refine g_aload_n 9 (gd rfl) rfl rfl ?_
        refine g_getA (q2 := 42) 12 (gd rfl) rfl rfl rfl rfl ?_
        refine g_iload_n 13 (gd rfl) rfl rfl ?_
        refine g_iaload 14 (gd rfl) rfl (n := 33) rfl (in_ix h2 rfl) (fun z144x13 e144x13 => ?_)
        have i144x13 := inv_I hI136 (n := 33) (t := 0) 0 160 rfl (in_ix h2 rfl) rfl e144x13
        refine g_isub 15 (gd rfl) rfl (fun z144x14 e144x14 => ?_)
        have i144x14 := in_sub (-160) 160 e144x14 i144x7 i144x13 rfl rfl
        refine g_ireturn (gd rfl) rfl rfl (hp144 _ _ ?_)
        show GG _ _ _ _ _ _ _ _ [.int z144x14, .int (Int32.ofInt 3), .ref (A 106)] _ _ _
        refine g_i2l 148 (gd rfl) rfl (fun z147 e147 => ?_)
        have i147 := l_i e147 i144x14
        refine g_lastore 149 (gd rfl) rfl (n := 9) rfl (in_ix (in_c 3 rfl) rfl) ?_
        have hI148 := inv_sL (q := 106) (j := (Int32.ofInt 3).toNatClampNeg) (x := z147) hI136 rfl (l_rng z147)
        refine g_aload_n 150 (gd rfl) rfl rfl ?_
        refine g_getA (q2 := 106) 153 (gd rfl) rfl rfl rfl rfl ?_
        refine g_iconst 4 154 (gd rfl) rfl rfl ?_
        refine g_aload_n 155 (gd rfl) rfl rfl ?_
        refine g_iload_n 156 (gd rfl) rfl rfl ?_
        refine g_callv (X := _) (As := [.int x2]) (r := [.int (Int32.ofInt 4), .ref (A 106)]) (b := A 32) (q := 32) 159 (gd rfl) rfl rfl rfl rfl rfl (ww_o rfl) (Nat.le_of_ble_eq_true rfl) (mc := 0) (ms := 0) (Nat.zero_le _) (Nat.zero_le _) (P := fun v u => _) ?_ (fun e u h => h) (fun v u h => h)
        intro po156 xx156 hp156 hx156
        refine g_enter2 (k := 104) (N := 300) (by first | exact dq1 hd rfl | exact dq0 hd rfl | exact dq2 hd rfl | exact dq3 hd rfl | omega) rfl (Nat.le_of_ble_eq_true rfl) ?_
        refine g_aload_n 1 (gd rfl) rfl rfl ?_
        refine g_getA (q2 := 44) 4 (gd rfl) rfl rfl rfl rfl ?_
        refine g_iload_n 5 (gd rfl) rfl rfl ?_
        refine g_iconst 1 6 (gd rfl) rfl rfl ?_
        refine g_iadd 7 (gd rfl) rfl (fun z156x6 e156x6 => ?_)
        have i156x6 := in_add 1 32 e156x6 h2 (in_c 1 rfl) rfl rfl
        refine g_iaload 8 (gd rfl) rfl (n := 33) rfl (in_ix i156x6 rfl) (fun z156x7 e156x7 => ?_)
        have i156x7 := inv_I hI148 (n := 33) (t := 0) 0 160 rfl (in_ix i156x6 rfl) rfl e156x7
        refine g_aload_n 9 (gd rfl) rfl rfl ?_
        refine g_getA (q2 := 44) 12 (gd rfl) rfl rfl rfl rfl ?_
        refine g_iload_n 13 (gd rfl) rfl rfl ?_
        refine g_iaload 14 (gd rfl) rfl (n := 33) rfl (in_ix h2 rfl) (fun z156x13 e156x13 => ?_)
        have i156x13 := inv_I hI148 (n := 33) (t := 0) 0 160 rfl (in_ix h2 rfl) rfl e156x13
        refine g_isub 15 (gd rfl) rfl (fun z156x14 e156x14 => ?_)
        have i156x14 := in_sub (-160) 160 e156x14 i156x7 i156x13 rfl rfl
        refine g_ireturn (gd rfl) rfl rfl (hp156 _ _ ?_)
        show GG _ _ _ _ _ _ _ _ [.int z156x14, .int (Int32.ofInt 4), .ref (A 106)] _ _ _
        refine g_i2l 160 (gd rfl) rfl (fun z159 e159 => ?_)
        have i159 := l_i e159 i156x14
        refine g_lastore 161 (gd rfl) rfl (n := 9) rfl (in_ix (in_c 4 rfl) rfl) ?_
        have hI160 := inv_sL (q := 106) (j := (Int32.ofInt 4).toNatClampNeg) (x := z159) hI148 rfl (l_rng z159)
        refine g_aload_n 162 (gd rfl) rfl rfl ?_
        refine g_getA (q2 := 106) 165 (gd rfl) rfl rfl rfl rfl ?_
        refine g_iconst 5 166 (gd rfl) rfl rfl ?_
        refine g_iload_n 167 (gd rfl) rfl rfl ?_
        refine g_i2l 168 (gd rfl) rfl (fun z167 e167 => ?_)
        have i167 := l_i e167 h3
        refine g_lastore 169 (gd rfl) rfl (n := 9) rfl (in_ix (in_c 5 rfl) rfl) ?_
        have hI168 := inv_sL (q := 106) (j := (Int32.ofInt 5).toNatClampNeg) (x := z167) hI160 rfl (l_rng z167)
        refine g_aload_n 170 (gd rfl) rfl rfl ?_
        refine g_getA (q2 := 106) 173 (gd rfl) rfl rfl rfl rfl ?_
        refine g_bipush 6 175 (gd rfl) rfl rfl ?_
        refine g_lload 177 (gd rfl) rfl rfl ?_
        refine g_calls (As := [.long y21_4]) (r := [.int (Int32.ofInt 6), .ref (A 106)]) 180 (gd rfl) rfl rfl rfl rfl rfl (Nat.le_of_ble_eq_true rfl) (mc := 0) (ms := 0) (Nat.zero_le _) (Nat.zero_le _) (P := fun v u => _) ?_ (fun v u h => h)
        intro po177 xx177 hp177 hx177
        refine g_enter2 (k := 69) (N := 300) (by first | exact dq1 hd rfl | exact dq0 hd rfl | exact dq2 hd rfl | exact dq3 hd rfl | omega) rfl (Nat.le_of_ble_eq_true rfl) ?_
        refine g_ldc2_w (-1000000000000) 3 (gd rfl) rfl rfl ?_
        refine g_ldc2_w 1000000000000 6 (gd rfl) rfl rfl ?_
        refine g_lload_n 7 (gd rfl) rfl rfl ?_
        refine g_calls (As := [.long (Int64.ofInt 1000000000000), .long y21_4]) (r := [.long (Int64.ofInt (-1000000000000))]) 10 (gd rfl) rfl rfl rfl rfl rfl (Nat.le_of_ble_eq_true rfl) (mc := 0) (ms := 0) (Nat.zero_le _) (Nat.zero_le _) (P := fun v u => _) ?_ (fun v u h => h)
        intro po177x7 xx177x7 hp177x7 hx177x7
        refine g_enter2 (k := 425) (N := 300) (by first | exact dq1 hd rfl | exact dq0 hd rfl | exact dq2 hd rfl | exact dq3 hd rfl | omega) rfl (Nat.le_of_ble_eq_true rfl) ?_
        refine g_lload_n 1 (gd rfl) rfl rfl ?_
        refine g_lload_n 2 (gd rfl) rfl rfl ?_
        refine g_lcmp 3 (gd rfl) rfl (fun z177x7x2 e177x7x2 => ?_)
        have i177x7x2 := lc_in e177x7x2
        refine g_if_gt 6 10 (gd rfl) rfl rfl (fun c177x7x3 => ?_) (fun c177x7x3 => ?_)
        · skip
          have i177x7x3 := z_gt 1 1 c177x7x3 i177x7x2 rfl
          have c177x7x3a := lc_gt e177x7x2 c177x7x3
          have i177x7x3a := lr_lt1 (-9223372036854775808) 999999999999 c177x7x3a (l_rng y21_4) (l_c 1000000000000 rfl) rfl
          refine g_lload_n 11 (gd rfl) rfl rfl ?_
          refine g_lreturn (gd rfl) rfl (hp177x7 _ _ ?_)
          show GG _ _ _ _ _ _ _ _ [.long y21_4, .long (Int64.ofInt (-1000000000000))] _ _ _
          refine g_calls (As := [.long (Int64.ofInt (-1000000000000)), .long y21_4]) (r := []) 13 (gd rfl) rfl rfl rfl rfl rfl (Nat.le_of_ble_eq_true rfl) (mc := 0) (ms := 0) (Nat.zero_le _) (Nat.zero_le _) (P := fun v u => _) ?_ (fun v u h => h)
          intro po177x10 xx177x10 hp177x10 hx177x10
          refine g_enter2 (k := 423) (N := 300) (by first | exact dq1 hd rfl | exact dq0 hd rfl | exact dq2 hd rfl | exact dq3 hd rfl | omega) rfl (Nat.le_of_ble_eq_true rfl) ?_
          refine g_lload_n 1 (gd rfl) rfl rfl ?_
          refine g_lload_n 2 (gd rfl) rfl rfl ?_
          refine g_lcmp 3 (gd rfl) rfl (fun z177x10x2 e177x10x2 => ?_)
          have i177x10x2 := lc_in e177x10x2
          refine g_if_lt 6 10 (gd rfl) rfl rfl (fun c177x10x3 => ?_) (fun c177x10x3 => ?_)
          · skip
            have i177x10x3 := z_lt (-1) (-1) c177x10x3 i177x10x2 rfl
            have c177x10x3a := lc_lt e177x10x2 c177x10x3
            have i177x10x3a := lr_lt2 (-999999999999) 999999999999 c177x10x3a (l_c (-1000000000000) rfl) i177x7x3a rfl
            refine g_lload_n 11 (gd rfl) rfl rfl ?_
            refine g_lreturn (gd rfl) rfl (hp177x10 _ _ ?_)
            show GG _ _ _ _ _ _ _ _ [.long y21_4] _ _ _
            refine g_lreturn (gd rfl) rfl (hp177 _ _ ?_)
            show GG _ _ _ _ _ _ _ _ [.long y21_4, .int (Int32.ofInt 6), .ref (A 106)] _ _ _
            refine g_lastore 181 (gd rfl) rfl (n := 9) rfl (in_ix (in_c 6 rfl) rfl) ?_
            have hI180 := inv_sL (q := 106) (j := (Int32.ofInt 6).toNatClampNeg) (x := y21_4) hI168 rfl (l_rng y21_4)
            refine g_aload_n 182 (gd rfl) rfl rfl ?_
            refine g_getA (q2 := 106) 185 (gd rfl) rfl rfl rfl rfl ?_
            refine g_bipush 7 187 (gd rfl) rfl rfl ?_
            refine g_lload 189 (gd rfl) rfl rfl ?_
            refine g_lastore 190 (gd rfl) rfl (n := 9) rfl (in_ix (in_c 7 rfl) rfl) ?_
            have hI189 := inv_sL (q := 106) (j := (Int32.ofInt 7).toNatClampNeg) (x := y21_6) hI180 rfl (l_rng y21_6)
            refine g_aload_n 191 (gd rfl) rfl rfl ?_
            refine g_getA (q2 := 106) 194 (gd rfl) rfl rfl rfl rfl ?_
            refine g_bipush 8 196 (gd rfl) rfl rfl ?_
            refine g_lload 198 (gd rfl) rfl rfl ?_
            refine g_lastore 199 (gd rfl) rfl (n := 9) rfl (in_ix (in_c 8 rfl) rfl) ?_
            have hI198 := inv_sL (q := 106) (j := (Int32.ofInt 8).toNatClampNeg) (x := y21_8) hI189 rfl (l_rng y21_8)
            exact g_return (gd rfl) rfl (hP _ _ ⟨(sL (sL (sL (sL (sL (sL (sL (sL (sL sc21 106 (Int32.ofInt 0).toNatClampNeg z114) 106 (Int32.ofInt 1).toNatClampNeg z122) 106 (Int32.ofInt 2).toNatClampNeg z135) 106 (Int32.ofInt 3).toNatClampNeg z147) 106 (Int32.ofInt 4).toNatClampNeg z159) 106 (Int32.ofInt 5).toNatClampNeg z167) 106 (Int32.ofInt 6).toNatClampNeg y21_4) 106 (Int32.ofInt 7).toNatClampNeg y21_6) 106 (Int32.ofInt 8).toNatClampNeg y21_8), hI198, (fr_sL rfl (fr_sL rfl (fr_sL rfl (fr_sL rfl (fr_sL rfl (fr_sL rfl (fr_sL rfl (fr_sL rfl (fr_sL rfl hFc21))))))))), rfl, rfl⟩)
          · skip
            have i177x10x3 := z_ge 0 1 c177x10x3 i177x10x2 rfl
            have c177x10x3a := lc_ge e177x10x2 c177x10x3
            have i177x10x3a := lr_le1 (-9223372036854775808) (-1000000000000) c177x10x3a i177x7x3a (l_c (-1000000000000) rfl) rfl
            refine g_lload_n 7 (gd rfl) rfl rfl ?_
            refine g_goto 11 (gd rfl) rfl ?_
            refine g_lreturn (gd rfl) rfl (hp177x10 _ _ ?_)
            show GG _ _ _ _ _ _ _ _ [.long (Int64.ofInt (-1000000000000))] _ _ _
            refine g_lreturn (gd rfl) rfl (hp177 _ _ ?_)
            show GG _ _ _ _ _ _ _ _ [.long (Int64.ofInt (-1000000000000)), .int (Int32.ofInt 6), .ref (A 106)] _ _ _
            refine g_lastore 181 (gd rfl) rfl (n := 9) rfl (in_ix (in_c 6 rfl) rfl) ?_
            have hI180 := inv_sL (q := 106) (j := (Int32.ofInt 6).toNatClampNeg) (x := (Int64.ofInt (-1000000000000))) hI168 rfl (l_rng (Int64.ofInt (-1000000000000)))
            refine g_aload_n 182 (gd rfl) rfl rfl ?_
            refine g_getA (q2 := 106) 185 (gd rfl) rfl rfl rfl rfl ?_
            refine g_bipush 7 187 (gd rfl) rfl rfl ?_
            refine g_lload 189 (gd rfl) rfl rfl ?_
            refine g_lastore 190 (gd rfl) rfl (n := 9) rfl (in_ix (in_c 7 rfl) rfl) ?_
            have hI189 := inv_sL (q := 106) (j := (Int32.ofInt 7).toNatClampNeg) (x := y21_6) hI180 rfl (l_rng y21_6)
            refine g_aload_n 191 (gd rfl) rfl rfl ?_
            refine g_getA (q2 := 106) 194 (gd rfl) rfl rfl rfl rfl ?_
            refine g_bipush 8 196 (gd rfl) rfl rfl ?_
            refine g_lload 198 (gd rfl) rfl rfl ?_
            refine g_lastore 199 (gd rfl) rfl (n := 9) rfl (in_ix (in_c 8 rfl) rfl) ?_
            have hI198 := inv_sL (q := 106) (j := (Int32.ofInt 8).toNatClampNeg) (x := y21_8) hI189 rfl (l_rng y21_8)
            exact g_return (gd rfl) rfl (hP _ _ ⟨(sL (sL (sL (sL (sL (sL (sL (sL (sL sc21 106 (Int32.ofInt 0).toNatClampNeg z114) 106 (Int32.ofInt 1).toNatClampNeg z122) 106 (Int32.ofInt 2).toNatClampNeg z135) 106 (Int32.ofInt 3).toNatClampNeg z147) 106 (Int32.ofInt 4).toNatClampNeg z159) 106 (Int32.ofInt 5).toNatClampNeg z167) 106 (Int32.ofInt 6).toNatClampNeg (Int64.ofInt (-1000000000000))) 106 (Int32.ofInt 7).toNatClampNeg y21_6) 106 (Int32.ofInt 8).toNatClampNeg y21_8), hI198, (fr_sL rfl (fr_sL rfl (fr_sL rfl (fr_sL rfl (fr_sL rfl (fr_sL rfl (fr_sL rfl (fr_sL rfl (fr_sL rfl hFc21))))))))), rfl, rfl⟩)
        · skip
          have i177x7x3 := z_le (-1) 0 c177x7x3 i177x7x2 rfl
          have c177x7x3a := lc_le e177x7x2 c177x7x3
          have i177x7x3a := lr_le2 1000000000000 9223372036854775807 c177x7x3a (l_c 1000000000000 rfl) (l_rng y21_4) rfl
          refine g_lload_n 7 (gd rfl) rfl rfl ?_
          refine g_goto 11 (gd rfl) rfl ?_
          refine g_lreturn (gd rfl) rfl (hp177x7 _ _ ?_)
          show GG _ _ _ _ _ _ _ _ [.long (Int64.ofInt 1000000000000), .long (Int64.ofInt (-1000000000000))] _ _ _
          refine g_calls (As := [.long (Int64.ofInt (-1000000000000)), .long (Int64.ofInt 1000000000000)]) (r := []) 13 (gd rfl) rfl rfl rfl rfl rfl (Nat.le_of_ble_eq_true rfl) (mc := 0) (ms := 0) (Nat.zero_le _) (Nat.zero_le _) (P := fun v u => _) ?_ (fun v u h => h)
          intro po177x10 xx177x10 hp177x10 hx177x10
          refine g_enter2 (k := 423) (N := 300) (by first | exact dq1 hd rfl | exact dq0 hd rfl | exact dq2 hd rfl | exact dq3 hd rfl | omega) rfl (Nat.le_of_ble_eq_true rfl) ?_
          refine g_lload_n 1 (gd rfl) rfl rfl ?_
          refine g_lload_n 2 (gd rfl) rfl rfl ?_
          refine g_lcmp 3 (gd rfl) rfl (fun z177x10x2 e177x10x2 => ?_)
          have i177x10x2 := lc_in e177x10x2
          refine g_if_lt 6 10 (gd rfl) rfl rfl (fun c177x10x3 => ?_) (fun c177x10x3 => ?_)
          · skip
            have i177x10x3 := z_lt (-1) (-1) c177x10x3 i177x10x2 rfl
            have c177x10x3a := lc_lt e177x10x2 c177x10x3
            refine g_lload_n 11 (gd rfl) rfl rfl ?_
            refine g_lreturn (gd rfl) rfl (hp177x10 _ _ ?_)
            show GG _ _ _ _ _ _ _ _ [.long (Int64.ofInt 1000000000000)] _ _ _
            refine g_lreturn (gd rfl) rfl (hp177 _ _ ?_)
            show GG _ _ _ _ _ _ _ _ [.long (Int64.ofInt 1000000000000), .int (Int32.ofInt 6), .ref (A 106)] _ _ _
            refine g_lastore 181 (gd rfl) rfl (n := 9) rfl (in_ix (in_c 6 rfl) rfl) ?_
            have hI180 := inv_sL (q := 106) (j := (Int32.ofInt 6).toNatClampNeg) (x := (Int64.ofInt 1000000000000)) hI168 rfl (l_rng (Int64.ofInt 1000000000000))
            refine g_aload_n 182 (gd rfl) rfl rfl ?_
            refine g_getA (q2 := 106) 185 (gd rfl) rfl rfl rfl rfl ?_
            refine g_bipush 7 187 (gd rfl) rfl rfl ?_
            refine g_lload 189 (gd rfl) rfl rfl ?_
            refine g_lastore 190 (gd rfl) rfl (n := 9) rfl (in_ix (in_c 7 rfl) rfl) ?_
            have hI189 := inv_sL (q := 106) (j := (Int32.ofInt 7).toNatClampNeg) (x := y21_6) hI180 rfl (l_rng y21_6)
            refine g_aload_n 191 (gd rfl) rfl rfl ?_
            refine g_getA (q2 := 106) 194 (gd rfl) rfl rfl rfl rfl ?_
            refine g_bipush 8 196 (gd rfl) rfl rfl ?_
            refine g_lload 198 (gd rfl) rfl rfl ?_
            refine g_lastore 199 (gd rfl) rfl (n := 9) rfl (in_ix (in_c 8 rfl) rfl) ?_
            have hI198 := inv_sL (q := 106) (j := (Int32.ofInt 8).toNatClampNeg) (x := y21_8) hI189 rfl (l_rng y21_8)
            exact g_return (gd rfl) rfl (hP _ _ ⟨(sL (sL (sL (sL (sL (sL (sL (sL (sL sc21 106 (Int32.ofInt 0).toNatClampNeg z114) 106 (Int32.ofInt 1).toNatClampNeg z122) 106 (Int32.ofInt 2).toNatClampNeg z135) 106 (Int32.ofInt 3).toNatClampNeg z147) 106 (Int32.ofInt 4).toNatClampNeg z159) 106 (Int32.ofInt 5).toNatClampNeg z167) 106 (Int32.ofInt 6).toNatClampNeg (Int64.ofInt 1000000000000)) 106 (Int32.ofInt 7).toNatClampNeg y21_6) 106 (Int32.ofInt 8).toNatClampNeg y21_8), hI198, (fr_sL rfl (fr_sL rfl (fr_sL rfl (fr_sL rfl (fr_sL rfl (fr_sL rfl (fr_sL rfl (fr_sL rfl (fr_sL rfl hFc21))))))))), rfl, rfl⟩)
          · skip
            have i177x10x3 := z_ge 0 1 c177x10x3 i177x10x2 rfl
            have c177x10x3a := lc_ge e177x10x2 c177x10x3
            exact ln_le c177x10x3a (l_c 1000000000000 rfl) (l_c (-1000000000000) rfl) rfl
      · skip
        have i31 := r_lt1 0 159 c31 j21_10 i30 rfl
        have i31a := r_lt2 1 160 c31 j21_10 i30 rfl
        refine g_aload_n 35 (gd rfl) rfl rfl ?_
        refine g_getA (q2 := 45) 38 (gd rfl) rfl rfl rfl rfl ?_
        refine g_iload 40 (gd rfl) rfl rfl ?_
        refine g_iaload 41 (gd rfl) rfl (n := 160) rfl (in_ix i31 rfl) (fun z40 e40 => ?_)
        have i40 := inv_I hIc21 (n := 160) (t := 0) 0 159 rfl (in_ix i31 rfl) rfl e40
        refine g_istore 43 (gd rfl) rfl (Nat.le_of_ble_eq_true rfl) ?_
        refine g_aload_n 44 (gd rfl) rfl rfl ?_
        refine g_getA (q2 := 108) 47 (gd rfl) rfl rfl rfl rfl ?_
        refine g_aload_n 48 (gd rfl) rfl rfl ?_
        refine g_getA (q2 := 34) 51 (gd rfl) rfl rfl rfl rfl ?_
        refine g_iload 53 (gd rfl) rfl rfl ?_
        refine g_iaload 54 (gd rfl) rfl (n := 160) rfl (in_ix i40 rfl) (fun z53 e53 => ?_)
        have i53 := inv_I hIc21 (n := 160) (t := 0) (-1) 31 rfl (in_ix i40 rfl) rfl e53
        have i54 : In z53 0 31 := by exact tg_b (b := 32) hIc21.2.2.1 rfl rfl rfl rfl rfl (by rw [← (show u_32_4 = sc21.2.2.1 32 4 from fr_F e_32_4 hFc21 rfl), ← (show u_32_0 = sc21.2.2.1 32 0 from fr_F e_32_0 hFc21 rfl)]; exact p_0) e30 i29 i31 c31 e40 e53 i53
        refine g_laload 55 (gd rfl) rfl (n := 32) rfl (in_ix i54 rfl) (fun z54 e54 => ?_)
        refine g_lstore 57 (gd rfl) rfl (Nat.le_of_ble_eq_true rfl) ?_
        refine g_lload 59 (gd rfl) rfl rfl ?_
        refine g_aload_n 60 (gd rfl) rfl rfl ?_
        refine g_getA (q2 := 36) 63 (gd rfl) rfl rfl rfl rfl ?_
        refine g_iload 65 (gd rfl) rfl rfl ?_
        refine g_iaload 66 (gd rfl) rfl (n := 160) rfl (in_ix i40 rfl) (fun z65 e65 => ?_)
        have i65 := inv_I hIc21 (n := 160) (t := 0) (-1000000) 1000000 rfl (in_ix i40 rfl) rfl e65
        refine g_i2l 67 (gd rfl) rfl (fun z66 e66 => ?_)
        have i66 := l_i e66 i65
        refine g_ladd 68 (gd rfl) rfl (fun z67 e67 => ?_)
        refine g_calls (As := [.long z67]) (r := []) 71 (gd rfl) rfl rfl rfl rfl rfl (Nat.le_of_ble_eq_true rfl) (mc := 0) (ms := 0) (Nat.zero_le _) (Nat.zero_le _) (P := fun v u => _) ?_ (fun v u h => h)
        intro po68 xx68 hp68 hx68
        refine g_enter2 (k := 69) (N := 300) (by first | exact dq1 hd rfl | exact dq0 hd rfl | exact dq2 hd rfl | exact dq3 hd rfl | omega) rfl (Nat.le_of_ble_eq_true rfl) ?_
        refine g_ldc2_w (-1000000000000) 3 (gd rfl) rfl rfl ?_
        refine g_ldc2_w 1000000000000 6 (gd rfl) rfl rfl ?_
        refine g_lload_n 7 (gd rfl) rfl rfl ?_
        refine g_calls (As := [.long (Int64.ofInt 1000000000000), .long z67]) (r := [.long (Int64.ofInt (-1000000000000))]) 10 (gd rfl) rfl rfl rfl rfl rfl (Nat.le_of_ble_eq_true rfl) (mc := 0) (ms := 0) (Nat.zero_le _) (Nat.zero_le _) (P := fun v u => _) ?_ (fun v u h => h)
        intro po68x7 xx68x7 hp68x7 hx68x7
        refine g_enter2 (k := 425) (N := 300) (by first | exact dq1 hd rfl | exact dq0 hd rfl | exact dq2 hd rfl | exact dq3 hd rfl | omega) rfl (Nat.le_of_ble_eq_true rfl) ?_
        refine g_lload_n 1 (gd rfl) rfl rfl ?_
        refine g_lload_n 2 (gd rfl) rfl rfl ?_
        refine g_lcmp 3 (gd rfl) rfl (fun z68x7x2 e68x7x2 => ?_)
        have i68x7x2 := lc_in e68x7x2
        refine g_if_gt 6 10 (gd rfl) rfl rfl (fun c68x7x3 => ?_) (fun c68x7x3 => ?_)
        · skip
          have i68x7x3 := z_gt 1 1 c68x7x3 i68x7x2 rfl
          have c68x7x3a := lc_gt e68x7x2 c68x7x3
          have i68x7x3a := lr_lt1 (-9223372036854775808) 999999999999 c68x7x3a (l_rng z67) (l_c 1000000000000 rfl) rfl
          refine g_lload_n 11 (gd rfl) rfl rfl ?_
          refine g_lreturn (gd rfl) rfl (hp68x7 _ _ ?_)
          show GG _ _ _ _ _ _ _ _ [.long z67, .long (Int64.ofInt (-1000000000000))] _ _ _
          refine g_calls (As := [.long (Int64.ofInt (-1000000000000)), .long z67]) (r := []) 13 (gd rfl) rfl rfl rfl rfl rfl (Nat.le_of_ble_eq_true rfl) (mc := 0) (ms := 0) (Nat.zero_le _) (Nat.zero_le _) (P := fun v u => _) ?_ (fun v u h => h)
          intro po68x10 xx68x10 hp68x10 hx68x10
          refine g_enter2 (k := 423) (N := 300) (by first | exact dq1 hd rfl | exact dq0 hd rfl | exact dq2 hd rfl | exact dq3 hd rfl | omega) rfl (Nat.le_of_ble_eq_true rfl) ?_
          refine g_lload_n 1 (gd rfl) rfl rfl ?_
          refine g_lload_n 2 (gd rfl) rfl rfl ?_
          refine g_lcmp 3 (gd rfl) rfl (fun z68x10x2 e68x10x2 => ?_)
          have i68x10x2 := lc_in e68x10x2
          refine g_if_lt 6 10 (gd rfl) rfl rfl (fun c68x10x3 => ?_) (fun c68x10x3 => ?_)
          · skip
            have i68x10x3 := z_lt (-1) (-1) c68x10x3 i68x10x2 rfl
            have c68x10x3a := lc_lt e68x10x2 c68x10x3
            have i68x10x3a := lr_lt2 (-999999999999) 999999999999 c68x10x3a (l_c (-1000000000000) rfl) i68x7x3a rfl
            refine g_lload_n 11 (gd rfl) rfl rfl ?_
            refine g_lreturn (gd rfl) rfl (hp68x10 _ _ ?_)
            show GG _ _ _ _ _ _ _ _ [.long z67] _ _ _
            refine g_lreturn (gd rfl) rfl (hp68 _ _ ?_)
            show GG _ _ _ _ _ _ _ _ [.long z67] _ _ _
            refine g_lstore 73 (gd rfl) rfl (Nat.le_of_ble_eq_true rfl) ?_
            refine g_lload 75 (gd rfl) rfl rfl ?_
            refine g_lload 77 (gd rfl) rfl rfl ?_
            refine g_ladd 78 (gd rfl) rfl (fun z77 e77 => ?_)
            refine g_lstore 80 (gd rfl) rfl (Nat.le_of_ble_eq_true rfl) ?_
            refine g_lload 82 (gd rfl) rfl rfl ?_
            refine g_lload 84 (gd rfl) rfl rfl ?_
            refine g_calls (As := [.long y21_6, .long z67]) (r := []) 87 (gd rfl) rfl rfl rfl rfl rfl (Nat.le_of_ble_eq_true rfl) (mc := 0) (ms := 0) (Nat.zero_le _) (Nat.zero_le _) (P := fun v u => _) ?_ (fun v u h => h)
            intro po84 xx84 hp84 hx84
            refine g_enter2 (k := 425) (N := 300) (by first | exact dq1 hd rfl | exact dq0 hd rfl | exact dq2 hd rfl | exact dq3 hd rfl | omega) rfl (Nat.le_of_ble_eq_true rfl) ?_
            refine g_lload_n 1 (gd rfl) rfl rfl ?_
            refine g_lload_n 2 (gd rfl) rfl rfl ?_
            refine g_lcmp 3 (gd rfl) rfl (fun z84x2 e84x2 => ?_)
            have i84x2 := lc_in e84x2
            refine g_if_gt 6 10 (gd rfl) rfl rfl (fun c84x3 => ?_) (fun c84x3 => ?_)
            · skip
              have i84x3 := z_gt 1 1 c84x3 i84x2 rfl
              have c84x3a := lc_gt e84x2 c84x3
              have i84x3a := lr_lt2 (-999999999998) 9223372036854775807 c84x3a i68x10x3a (l_rng y21_6) rfl
              refine g_lload_n 11 (gd rfl) rfl rfl ?_
              refine g_lreturn (gd rfl) rfl (hp84 _ _ ?_)
              show GG _ _ _ _ _ _ _ _ [.long z67] _ _ _
              refine g_lstore 89 (gd rfl) rfl (Nat.le_of_ble_eq_true rfl) ?_
              refine g_lload 91 (gd rfl) rfl rfl ?_
              refine g_lload 93 (gd rfl) rfl rfl ?_
              refine g_calls (As := [.long y21_8, .long z67]) (r := []) 96 (gd rfl) rfl rfl rfl rfl rfl (Nat.le_of_ble_eq_true rfl) (mc := 0) (ms := 0) (Nat.zero_le _) (Nat.zero_le _) (P := fun v u => _) ?_ (fun v u h => h)
              intro po93 xx93 hp93 hx93
              refine g_enter2 (k := 423) (N := 300) (by first | exact dq1 hd rfl | exact dq0 hd rfl | exact dq2 hd rfl | exact dq3 hd rfl | omega) rfl (Nat.le_of_ble_eq_true rfl) ?_
              refine g_lload_n 1 (gd rfl) rfl rfl ?_
              refine g_lload_n 2 (gd rfl) rfl rfl ?_
              refine g_lcmp 3 (gd rfl) rfl (fun z93x2 e93x2 => ?_)
              have i93x2 := lc_in e93x2
              refine g_if_lt 6 10 (gd rfl) rfl rfl (fun c93x3 => ?_) (fun c93x3 => ?_)
              · skip
                have i93x3 := z_lt (-1) (-1) c93x3 i93x2 rfl
                have c93x3a := lc_lt e93x2 c93x3
                have i93x3a := lr_lt1 (-9223372036854775808) 999999999998 c93x3a (l_rng y21_8) i68x10x3a rfl
                refine g_lload_n 11 (gd rfl) rfl rfl ?_
                refine g_lreturn (gd rfl) rfl (hp93 _ _ ?_)
                show GG _ _ _ _ _ _ _ _ [.long z67] _ _ _
                refine g_lstore 98 (gd rfl) rfl (Nat.le_of_ble_eq_true rfl) ?_
                refine g_iinc 101 (gd rfl) rfl rfl (Nat.le_of_ble_eq_true rfl) (fun z98 e98 => ?_)
                have i98 := in_add 1 160 e98 i31 (in_c 1 rfl) rfl rfl
                refine g_goto 21 (gd rfl) rfl ?_
                exact gg_w (by first | exact Nat.le_add_right _ _ | exact gw2 | exact gw3 | exact gwe rfl | exact gwf rfl | exact gwg rfl | exact gwh rfl | omega) (gg_f (gf_cons rfl (gf_cons rfl (gf_cons rfl (gf_cons rfl (gf_cons rfl (gf_cons rfl (gf_cons rfl (gf_cons rfl gf_nil)))))))) (ih21 sc21 z77 z67 z67 z98 hIc21 hFc21 (in_w 0 160 i98 rfl) (m_up mm21 (t_add e98 i31 (in_c 1 rfl) rfl) (in_w 1 1 (in_c 1 rfl) rfl))))
              · skip
                have i93x3 := z_ge 0 1 c93x3 i93x2 rfl
                have c93x3a := lc_ge e93x2 c93x3
                have i93x3a := lr_le2 (-999999999999) 9223372036854775807 c93x3a i68x10x3a (l_rng y21_8) rfl
                refine g_lload_n 7 (gd rfl) rfl rfl ?_
                refine g_goto 11 (gd rfl) rfl ?_
                refine g_lreturn (gd rfl) rfl (hp93 _ _ ?_)
                show GG _ _ _ _ _ _ _ _ [.long y21_8] _ _ _
                refine g_lstore 98 (gd rfl) rfl (Nat.le_of_ble_eq_true rfl) ?_
                refine g_iinc 101 (gd rfl) rfl rfl (Nat.le_of_ble_eq_true rfl) (fun z98 e98 => ?_)
                have i98 := in_add 1 160 e98 i31 (in_c 1 rfl) rfl rfl
                refine g_goto 21 (gd rfl) rfl ?_
                exact gg_w (by first | exact Nat.le_add_right _ _ | exact gw2 | exact gw3 | exact gwe rfl | exact gwf rfl | exact gwg rfl | exact gwh rfl | omega) (gg_f (gf_cons rfl (gf_cons rfl (gf_cons rfl (gf_cons rfl (gf_cons rfl (gf_cons rfl (gf_cons rfl (gf_cons rfl gf_nil)))))))) (ih21 sc21 z77 z67 y21_8 z98 hIc21 hFc21 (in_w 0 160 i98 rfl) (m_up mm21 (t_add e98 i31 (in_c 1 rfl) rfl) (in_w 1 1 (in_c 1 rfl) rfl))))
            · skip
              have i84x3 := z_le (-1) 0 c84x3 i84x2 rfl
              have c84x3a := lc_le e84x2 c84x3
              have i84x3a := lr_le1 (-9223372036854775808) 999999999999 c84x3a (l_rng y21_6) i68x10x3a rfl
              refine g_lload_n 7 (gd rfl) rfl rfl ?_
              refine g_goto 11 (gd rfl) rfl ?_
              refine g_lreturn (gd rfl) rfl (hp84 _ _ ?_)
              show GG _ _ _ _ _ _ _ _ [.long y21_6] _ _ _
              refine g_lstore 89 (gd rfl) rfl (Nat.le_of_ble_eq_true rfl) ?_
              refine g_lload 91 (gd rfl) rfl rfl ?_
              refine g_lload 93 (gd rfl) rfl rfl ?_
              refine g_calls (As := [.long y21_8, .long z67]) (r := []) 96 (gd rfl) rfl rfl rfl rfl rfl (Nat.le_of_ble_eq_true rfl) (mc := 0) (ms := 0) (Nat.zero_le _) (Nat.zero_le _) (P := fun v u => _) ?_ (fun v u h => h)
              intro po93 xx93 hp93 hx93
              refine g_enter2 (k := 423) (N := 300) (by first | exact dq1 hd rfl | exact dq0 hd rfl | exact dq2 hd rfl | exact dq3 hd rfl | omega) rfl (Nat.le_of_ble_eq_true rfl) ?_
              refine g_lload_n 1 (gd rfl) rfl rfl ?_
              refine g_lload_n 2 (gd rfl) rfl rfl ?_
              refine g_lcmp 3 (gd rfl) rfl (fun z93x2 e93x2 => ?_)
              have i93x2 := lc_in e93x2
              refine g_if_lt 6 10 (gd rfl) rfl rfl (fun c93x3 => ?_) (fun c93x3 => ?_)
              · skip
                have i93x3 := z_lt (-1) (-1) c93x3 i93x2 rfl
                have c93x3a := lc_lt e93x2 c93x3
                have i93x3a := lr_lt1 (-9223372036854775808) 999999999998 c93x3a (l_rng y21_8) i68x10x3a rfl
                refine g_lload_n 11 (gd rfl) rfl rfl ?_
                refine g_lreturn (gd rfl) rfl (hp93 _ _ ?_)
                show GG _ _ _ _ _ _ _ _ [.long z67] _ _ _
                refine g_lstore 98 (gd rfl) rfl (Nat.le_of_ble_eq_true rfl) ?_
                refine g_iinc 101 (gd rfl) rfl rfl (Nat.le_of_ble_eq_true rfl) (fun z98 e98 => ?_)
                have i98 := in_add 1 160 e98 i31 (in_c 1 rfl) rfl rfl
                refine g_goto 21 (gd rfl) rfl ?_
                exact gg_w (by first | exact Nat.le_add_right _ _ | exact gw2 | exact gw3 | exact gwe rfl | exact gwf rfl | exact gwg rfl | exact gwh rfl | omega) (gg_f (gf_cons rfl (gf_cons rfl (gf_cons rfl (gf_cons rfl (gf_cons rfl (gf_cons rfl (gf_cons rfl (gf_cons rfl gf_nil)))))))) (ih21 sc21 z77 y21_6 z67 z98 hIc21 hFc21 (in_w 0 160 i98 rfl) (m_up mm21 (t_add e98 i31 (in_c 1 rfl) rfl) (in_w 1 1 (in_c 1 rfl) rfl))))
              · skip
                have i93x3 := z_ge 0 1 c93x3 i93x2 rfl
                have c93x3a := lc_ge e93x2 c93x3
                have i93x3a := lr_le2 (-999999999999) 9223372036854775807 c93x3a i68x10x3a (l_rng y21_8) rfl
                refine g_lload_n 7 (gd rfl) rfl rfl ?_
                refine g_goto 11 (gd rfl) rfl ?_
                refine g_lreturn (gd rfl) rfl (hp93 _ _ ?_)
                show GG _ _ _ _ _ _ _ _ [.long y21_8] _ _ _
                refine g_lstore 98 (gd rfl) rfl (Nat.le_of_ble_eq_true rfl) ?_
                refine g_iinc 101 (gd rfl) rfl rfl (Nat.le_of_ble_eq_true rfl) (fun z98 e98 => ?_)
                have i98 := in_add 1 160 e98 i31 (in_c 1 rfl) rfl rfl
                refine g_goto 21 (gd rfl) rfl ?_
                exact gg_w (by first | exact Nat.le_add_right _ _ | exact gw2 | exact gw3 | exact gwe rfl | exact gwf rfl | exact gwg rfl | exact gwh rfl | omega) (gg_f (gf_cons rfl (gf_cons rfl (gf_cons rfl (gf_cons rfl (gf_cons rfl (gf_cons rfl (gf_cons rfl (gf_cons rfl gf_nil)))))))) (ih21 sc21 z77 y21_6 y21_8 z98 hIc21 hFc21 (in_w 0 160 i98 rfl) (m_up mm21 (t_add e98 i31 (in_c 1 rfl) rfl) (in_w 1 1 (in_c 1 rfl) rfl))))
          · skip
            have i68x10x3 := z_ge 0 1 c68x10x3 i68x10x2 rfl
            have c68x10x3a := lc_ge e68x10x2 c68x10x3
            have i68x10x3a := lr_le1 (-9223372036854775808) (-1000000000000) c68x10x3a i68x7x3a (l_c (-1000000000000) rfl) rfl
            refine g_lload_n 7 (gd rfl) rfl rfl ?_
            refine g_goto 11 (gd rfl) rfl ?_
            refine g_lreturn (gd rfl) rfl (hp68x10 _ _ ?_)
            show GG _ _ _ _ _ _ _ _ [.long (Int64.ofInt (-1000000000000))] _ _ _
            refine g_lreturn (gd rfl) rfl (hp68 _ _ ?_)
            show GG _ _ _ _ _ _ _ _ [.long (Int64.ofInt (-1000000000000))] _ _ _
            refine g_lstore 73 (gd rfl) rfl (Nat.le_of_ble_eq_true rfl) ?_
            refine g_lload 75 (gd rfl) rfl rfl ?_
            refine g_lload 77 (gd rfl) rfl rfl ?_
            refine g_ladd 78 (gd rfl) rfl (fun z77 e77 => ?_)
            refine g_lstore 80 (gd rfl) rfl (Nat.le_of_ble_eq_true rfl) ?_
            refine g_lload 82 (gd rfl) rfl rfl ?_
            refine g_lload 84 (gd rfl) rfl rfl ?_
            refine g_calls (As := [.long y21_6, .long (Int64.ofInt (-1000000000000))]) (r := []) 87 (gd rfl) rfl rfl rfl rfl rfl (Nat.le_of_ble_eq_true rfl) (mc := 0) (ms := 0) (Nat.zero_le _) (Nat.zero_le _) (P := fun v u => _) ?_ (fun v u h => h)
            intro po84 xx84 hp84 hx84
            refine g_enter2 (k := 425) (N := 300) (by first | exact dq1 hd rfl | exact dq0 hd rfl | exact dq2 hd rfl | exact dq3 hd rfl | omega) rfl (Nat.le_of_ble_eq_true rfl) ?_
            refine g_lload_n 1 (gd rfl) rfl rfl ?_
            refine g_lload_n 2 (gd rfl) rfl rfl ?_
            refine g_lcmp 3 (gd rfl) rfl (fun z84x2 e84x2 => ?_)
            have i84x2 := lc_in e84x2
            refine g_if_gt 6 10 (gd rfl) rfl rfl (fun c84x3 => ?_) (fun c84x3 => ?_)
            · skip
              have i84x3 := z_gt 1 1 c84x3 i84x2 rfl
              have c84x3a := lc_gt e84x2 c84x3
              have i84x3a := lr_lt2 (-999999999999) 9223372036854775807 c84x3a (l_c (-1000000000000) rfl) (l_rng y21_6) rfl
              refine g_lload_n 11 (gd rfl) rfl rfl ?_
              refine g_lreturn (gd rfl) rfl (hp84 _ _ ?_)
              show GG _ _ _ _ _ _ _ _ [.long (Int64.ofInt (-1000000000000))] _ _ _
              refine g_lstore 89 (gd rfl) rfl (Nat.le_of_ble_eq_true rfl) ?_
              refine g_lload 91 (gd rfl) rfl rfl ?_
              refine g_lload 93 (gd rfl) rfl rfl ?_
              refine g_calls (As := [.long y21_8, .long (Int64.ofInt (-1000000000000))]) (r := []) 96 (gd rfl) rfl rfl rfl rfl rfl (Nat.le_of_ble_eq_true rfl) (mc := 0) (ms := 0) (Nat.zero_le _) (Nat.zero_le _) (P := fun v u => _) ?_ (fun v u h => h)
              intro po93 xx93 hp93 hx93
              refine g_enter2 (k := 423) (N := 300) (by first | exact dq1 hd rfl | exact dq0 hd rfl | exact dq2 hd rfl | exact dq3 hd rfl | omega) rfl (Nat.le_of_ble_eq_true rfl) ?_
              refine g_lload_n 1 (gd rfl) rfl rfl ?_
              refine g_lload_n 2 (gd rfl) rfl rfl ?_
              refine g_lcmp 3 (gd rfl) rfl (fun z93x2 e93x2 => ?_)
              have i93x2 := lc_in e93x2
              refine g_if_lt 6 10 (gd rfl) rfl rfl (fun c93x3 => ?_) (fun c93x3 => ?_)
              · skip
                have i93x3 := z_lt (-1) (-1) c93x3 i93x2 rfl
                have c93x3a := lc_lt e93x2 c93x3
                have i93x3a := lr_lt1 (-9223372036854775808) (-1000000000001) c93x3a (l_rng y21_8) (l_c (-1000000000000) rfl) rfl
                refine g_lload_n 11 (gd rfl) rfl rfl ?_
                refine g_lreturn (gd rfl) rfl (hp93 _ _ ?_)
                show GG _ _ _ _ _ _ _ _ [.long (Int64.ofInt (-1000000000000))] _ _ _
                refine g_lstore 98 (gd rfl) rfl (Nat.le_of_ble_eq_true rfl) ?_
                refine g_iinc 101 (gd rfl) rfl rfl (Nat.le_of_ble_eq_true rfl) (fun z98 e98 => ?_)
                have i98 := in_add 1 160 e98 i31 (in_c 1 rfl) rfl rfl
                refine g_goto 21 (gd rfl) rfl ?_
                exact gg_w (by first | exact Nat.le_add_right _ _ | exact gw2 | exact gw3 | exact gwe rfl | exact gwf rfl | exact gwg rfl | exact gwh rfl | omega) (gg_f (gf_cons rfl (gf_cons rfl (gf_cons rfl (gf_cons rfl (gf_cons rfl (gf_cons rfl (gf_cons rfl (gf_cons rfl gf_nil)))))))) (ih21 sc21 z77 (Int64.ofInt (-1000000000000)) (Int64.ofInt (-1000000000000)) z98 hIc21 hFc21 (in_w 0 160 i98 rfl) (m_up mm21 (t_add e98 i31 (in_c 1 rfl) rfl) (in_w 1 1 (in_c 1 rfl) rfl))))
              · skip
                have i93x3 := z_ge 0 1 c93x3 i93x2 rfl
                have c93x3a := lc_ge e93x2 c93x3
                have i93x3a := lr_le2 (-1000000000000) 9223372036854775807 c93x3a (l_c (-1000000000000) rfl) (l_rng y21_8) rfl
                refine g_lload_n 7 (gd rfl) rfl rfl ?_
                refine g_goto 11 (gd rfl) rfl ?_
                refine g_lreturn (gd rfl) rfl (hp93 _ _ ?_)
                show GG _ _ _ _ _ _ _ _ [.long y21_8] _ _ _
                refine g_lstore 98 (gd rfl) rfl (Nat.le_of_ble_eq_true rfl) ?_
                refine g_iinc 101 (gd rfl) rfl rfl (Nat.le_of_ble_eq_true rfl) (fun z98 e98 => ?_)
                have i98 := in_add 1 160 e98 i31 (in_c 1 rfl) rfl rfl
                refine g_goto 21 (gd rfl) rfl ?_
                exact gg_w (by first | exact Nat.le_add_right _ _ | exact gw2 | exact gw3 | exact gwe rfl | exact gwf rfl | exact gwg rfl | exact gwh rfl | omega) (gg_f (gf_cons rfl (gf_cons rfl (gf_cons rfl (gf_cons rfl (gf_cons rfl (gf_cons rfl (gf_cons rfl (gf_cons rfl gf_nil)))))))) (ih21 sc21 z77 (Int64.ofInt (-1000000000000)) y21_8 z98 hIc21 hFc21 (in_w 0 160 i98 rfl) (m_up mm21 (t_add e98 i31 (in_c 1 rfl) rfl) (in_w 1 1 (in_c 1 rfl) rfl))))
            · skip
              have i84x3 := z_le (-1) 0 c84x3 i84x2 rfl
              have c84x3a := lc_le e84x2 c84x3
              have i84x3a := lr_le1 (-9223372036854775808) (-1000000000000) c84x3a (l_rng y21_6) (l_c (-1000000000000) rfl) rfl
              refine g_lload_n 7 (gd rfl) rfl rfl ?_
              refine g_goto 11 (gd rfl) rfl ?_
              refine g_lreturn (gd rfl) rfl (hp84 _ _ ?_)
              show GG _ _ _ _ _ _ _ _ [.long y21_6] _ _ _
              refine g_lstore 89 (gd rfl) rfl (Nat.le_of_ble_eq_true rfl) ?_
              refine g_lload 91 (gd rfl) rfl rfl ?_
              refine g_lload 93 (gd rfl) rfl rfl ?_
              refine g_calls (As := [.long y21_8, .long (Int64.ofInt (-1000000000000))]) (r := []) 96 (gd rfl) rfl rfl rfl rfl rfl (Nat.le_of_ble_eq_true rfl) (mc := 0) (ms := 0) (Nat.zero_le _) (Nat.zero_le _) (P := fun v u => _) ?_ (fun v u h => h)
              intro po93 xx93 hp93 hx93
              refine g_enter2 (k := 423) (N := 300) (by first | exact dq1 hd rfl | exact dq0 hd rfl | exact dq2 hd rfl | exact dq3 hd rfl | omega) rfl (Nat.le_of_ble_eq_true rfl) ?_
              refine g_lload_n 1 (gd rfl) rfl rfl ?_
              refine g_lload_n 2 (gd rfl) rfl rfl ?_
              refine g_lcmp 3 (gd rfl) rfl (fun z93x2 e93x2 => ?_)
              have i93x2 := lc_in e93x2
              refine g_if_lt 6 10 (gd rfl) rfl rfl (fun c93x3 => ?_) (fun c93x3 => ?_)
              · skip
                have i93x3 := z_lt (-1) (-1) c93x3 i93x2 rfl
                have c93x3a := lc_lt e93x2 c93x3
                have i93x3a := lr_lt1 (-9223372036854775808) (-1000000000001) c93x3a (l_rng y21_8) (l_c (-1000000000000) rfl) rfl
                refine g_lload_n 11 (gd rfl) rfl rfl ?_
                refine g_lreturn (gd rfl) rfl (hp93 _ _ ?_)
                show GG _ _ _ _ _ _ _ _ [.long (Int64.ofInt (-1000000000000))] _ _ _
                refine g_lstore 98 (gd rfl) rfl (Nat.le_of_ble_eq_true rfl) ?_
                refine g_iinc 101 (gd rfl) rfl rfl (Nat.le_of_ble_eq_true rfl) (fun z98 e98 => ?_)
                have i98 := in_add 1 160 e98 i31 (in_c 1 rfl) rfl rfl
                refine g_goto 21 (gd rfl) rfl ?_
                exact gg_w (by first | exact Nat.le_add_right _ _ | exact gw2 | exact gw3 | exact gwe rfl | exact gwf rfl | exact gwg rfl | exact gwh rfl | omega) (gg_f (gf_cons rfl (gf_cons rfl (gf_cons rfl (gf_cons rfl (gf_cons rfl (gf_cons rfl (gf_cons rfl (gf_cons rfl gf_nil)))))))) (ih21 sc21 z77 y21_6 (Int64.ofInt (-1000000000000)) z98 hIc21 hFc21 (in_w 0 160 i98 rfl) (m_up mm21 (t_add e98 i31 (in_c 1 rfl) rfl) (in_w 1 1 (in_c 1 rfl) rfl))))
              · skip
                have i93x3 := z_ge 0 1 c93x3 i93x2 rfl
                have c93x3a := lc_ge e93x2 c93x3
                have i93x3a := lr_le2 (-1000000000000) 9223372036854775807 c93x3a (l_c (-1000000000000) rfl) (l_rng y21_8) rfl
                refine g_lload_n 7 (gd rfl) rfl rfl ?_
                refine g_goto 11 (gd rfl) rfl ?_
                refine g_lreturn (gd rfl) rfl (hp93 _ _ ?_)
                show GG _ _ _ _ _ _ _ _ [.long y21_8] _ _ _
                refine g_lstore 98 (gd rfl) rfl (Nat.le_of_ble_eq_true rfl) ?_
                refine g_iinc 101 (gd rfl) rfl rfl (Nat.le_of_ble_eq_true rfl) (fun z98 e98 => ?_)
                have i98 := in_add 1 160 e98 i31 (in_c 1 rfl) rfl rfl
                refine g_goto 21 (gd rfl) rfl ?_
                exact gg_w (by first | exact Nat.le_add_right _ _ | exact gw2 | exact gw3 | exact gwe rfl | exact gwf rfl | exact gwg rfl | exact gwh rfl | omega) (gg_f (gf_cons rfl (gf_cons rfl (gf_cons rfl (gf_cons rfl (gf_cons rfl (gf_cons rfl (gf_cons rfl (gf_cons rfl gf_nil)))))))) (ih21 sc21 z77 y21_6 y21_8 z98 hIc21 hFc21 (in_w 0 160 i98 rfl) (m_up mm21 (t_add e98 i31 (in_c 1 rfl) rfl) (in_w 1 1 (in_c 1 rfl) rfl))))
        · skip
          have i68x7x3 := z_le (-1) 0 c68x7x3 i68x7x2 rfl
          have c68x7x3a := lc_le e68x7x2 c68x7x3
          have i68x7x3a := lr_le2 1000000000000 9223372036854775807 c68x7x3a (l_c 1000000000000 rfl) (l_rng z67) rfl
          refine g_lload_n 7 (gd rfl) rfl rfl ?_
          refine g_goto 11 (gd rfl) rfl ?_
          refine g_lreturn (gd rfl) rfl (hp68x7 _ _ ?_)
          show GG _ _ _ _ _ _ _ _ [.long (Int64.ofInt 1000000000000), .long (Int64.ofInt (-1000000000000))] _ _ _
          refine g_calls (As := [.long (Int64.ofInt (-1000000000000)), .long (Int64.ofInt 1000000000000)]) (r := []) 13 (gd rfl) rfl rfl rfl rfl rfl (Nat.le_of_ble_eq_true rfl) (mc := 0) (ms := 0) (Nat.zero_le _) (Nat.zero_le _) (P := fun v u => _) ?_ (fun v u h => h)
          intro po68x10 xx68x10 hp68x10 hx68x10
          refine g_enter2 (k := 423) (N := 300) (by first | exact dq1 hd rfl | exact dq0 hd rfl | exact dq2 hd rfl | exact dq3 hd rfl | omega) rfl (Nat.le_of_ble_eq_true rfl) ?_
          refine g_lload_n 1 (gd rfl) rfl rfl ?_
          refine g_lload_n 2 (gd rfl) rfl rfl ?_
          refine g_lcmp 3 (gd rfl) rfl (fun z68x10x2 e68x10x2 => ?_)
          have i68x10x2 := lc_in e68x10x2
          refine g_if_lt 6 10 (gd rfl) rfl rfl (fun c68x10x3 => ?_) (fun c68x10x3 => ?_)
          · skip
            have i68x10x3 := z_lt (-1) (-1) c68x10x3 i68x10x2 rfl
            have c68x10x3a := lc_lt e68x10x2 c68x10x3
            refine g_lload_n 11 (gd rfl) rfl rfl ?_
            refine g_lreturn (gd rfl) rfl (hp68x10 _ _ ?_)
            show GG _ _ _ _ _ _ _ _ [.long (Int64.ofInt 1000000000000)] _ _ _
            refine g_lreturn (gd rfl) rfl (hp68 _ _ ?_)
            show GG _ _ _ _ _ _ _ _ [.long (Int64.ofInt 1000000000000)] _ _ _
            refine g_lstore 73 (gd rfl) rfl (Nat.le_of_ble_eq_true rfl) ?_
            refine g_lload 75 (gd rfl) rfl rfl ?_
            refine g_lload 77 (gd rfl) rfl rfl ?_
            refine g_ladd 78 (gd rfl) rfl (fun z77 e77 => ?_)
            refine g_lstore 80 (gd rfl) rfl (Nat.le_of_ble_eq_true rfl) ?_
            refine g_lload 82 (gd rfl) rfl rfl ?_
            refine g_lload 84 (gd rfl) rfl rfl ?_
            refine g_calls (As := [.long y21_6, .long (Int64.ofInt 1000000000000)]) (r := []) 87 (gd rfl) rfl rfl rfl rfl rfl (Nat.le_of_ble_eq_true rfl) (mc := 0) (ms := 0) (Nat.zero_le _) (Nat.zero_le _) (P := fun v u => _) ?_ (fun v u h => h)
            intro po84 xx84 hp84 hx84
            refine g_enter2 (k := 425) (N := 300) (by first | exact dq1 hd rfl | exact dq0 hd rfl | exact dq2 hd rfl | exact dq3 hd rfl | omega) rfl (Nat.le_of_ble_eq_true rfl) ?_
            refine g_lload_n 1 (gd rfl) rfl rfl ?_
            refine g_lload_n 2 (gd rfl) rfl rfl ?_
            refine g_lcmp 3 (gd rfl) rfl (fun z84x2 e84x2 => ?_)
            have i84x2 := lc_in e84x2
            refine g_if_gt 6 10 (gd rfl) rfl rfl (fun c84x3 => ?_) (fun c84x3 => ?_)
            · skip
              have i84x3 := z_gt 1 1 c84x3 i84x2 rfl
              have c84x3a := lc_gt e84x2 c84x3
              have i84x3a := lr_lt2 1000000000001 9223372036854775807 c84x3a (l_c 1000000000000 rfl) (l_rng y21_6) rfl
              refine g_lload_n 11 (gd rfl) rfl rfl ?_
              refine g_lreturn (gd rfl) rfl (hp84 _ _ ?_)
              show GG _ _ _ _ _ _ _ _ [.long (Int64.ofInt 1000000000000)] _ _ _
              refine g_lstore 89 (gd rfl) rfl (Nat.le_of_ble_eq_true rfl) ?_
              refine g_lload 91 (gd rfl) rfl rfl ?_
              refine g_lload 93 (gd rfl) rfl rfl ?_
              refine g_calls (As := [.long y21_8, .long (Int64.ofInt 1000000000000)]) (r := []) 96 (gd rfl) rfl rfl rfl rfl rfl (Nat.le_of_ble_eq_true rfl) (mc := 0) (ms := 0) (Nat.zero_le _) (Nat.zero_le _) (P := fun v u => _) ?_ (fun v u h => h)
              intro po93 xx93 hp93 hx93
              refine g_enter2 (k := 423) (N := 300) (by first | exact dq1 hd rfl | exact dq0 hd rfl | exact dq2 hd rfl | exact dq3 hd rfl | omega) rfl (Nat.le_of_ble_eq_true rfl) ?_
              refine g_lload_n 1 (gd rfl) rfl rfl ?_
              refine g_lload_n 2 (gd rfl) rfl rfl ?_
              refine g_lcmp 3 (gd rfl) rfl (fun z93x2 e93x2 => ?_)
              have i93x2 := lc_in e93x2
              refine g_if_lt 6 10 (gd rfl) rfl rfl (fun c93x3 => ?_) (fun c93x3 => ?_)
              · skip
                have i93x3 := z_lt (-1) (-1) c93x3 i93x2 rfl
                have c93x3a := lc_lt e93x2 c93x3
                have i93x3a := lr_lt1 (-9223372036854775808) 999999999999 c93x3a (l_rng y21_8) (l_c 1000000000000 rfl) rfl
                refine g_lload_n 11 (gd rfl) rfl rfl ?_
                refine g_lreturn (gd rfl) rfl (hp93 _ _ ?_)
                show GG _ _ _ _ _ _ _ _ [.long (Int64.ofInt 1000000000000)] _ _ _
                refine g_lstore 98 (gd rfl) rfl (Nat.le_of_ble_eq_true rfl) ?_
                refine g_iinc 101 (gd rfl) rfl rfl (Nat.le_of_ble_eq_true rfl) (fun z98 e98 => ?_)
                have i98 := in_add 1 160 e98 i31 (in_c 1 rfl) rfl rfl
                refine g_goto 21 (gd rfl) rfl ?_
                exact gg_w (by first | exact Nat.le_add_right _ _ | exact gw2 | exact gw3 | exact gwe rfl | exact gwf rfl | exact gwg rfl | exact gwh rfl | omega) (gg_f (gf_cons rfl (gf_cons rfl (gf_cons rfl (gf_cons rfl (gf_cons rfl (gf_cons rfl (gf_cons rfl (gf_cons rfl gf_nil)))))))) (ih21 sc21 z77 (Int64.ofInt 1000000000000) (Int64.ofInt 1000000000000) z98 hIc21 hFc21 (in_w 0 160 i98 rfl) (m_up mm21 (t_add e98 i31 (in_c 1 rfl) rfl) (in_w 1 1 (in_c 1 rfl) rfl))))
              · skip
                have i93x3 := z_ge 0 1 c93x3 i93x2 rfl
                have c93x3a := lc_ge e93x2 c93x3
                have i93x3a := lr_le2 1000000000000 9223372036854775807 c93x3a (l_c 1000000000000 rfl) (l_rng y21_8) rfl
                refine g_lload_n 7 (gd rfl) rfl rfl ?_
                refine g_goto 11 (gd rfl) rfl ?_
                refine g_lreturn (gd rfl) rfl (hp93 _ _ ?_)
                show GG _ _ _ _ _ _ _ _ [.long y21_8] _ _ _
                refine g_lstore 98 (gd rfl) rfl (Nat.le_of_ble_eq_true rfl) ?_
                refine g_iinc 101 (gd rfl) rfl rfl (Nat.le_of_ble_eq_true rfl) (fun z98 e98 => ?_)
                have i98 := in_add 1 160 e98 i31 (in_c 1 rfl) rfl rfl
                refine g_goto 21 (gd rfl) rfl ?_
                exact gg_w (by first | exact Nat.le_add_right _ _ | exact gw2 | exact gw3 | exact gwe rfl | exact gwf rfl | exact gwg rfl | exact gwh rfl | omega) (gg_f (gf_cons rfl (gf_cons rfl (gf_cons rfl (gf_cons rfl (gf_cons rfl (gf_cons rfl (gf_cons rfl (gf_cons rfl gf_nil)))))))) (ih21 sc21 z77 (Int64.ofInt 1000000000000) y21_8 z98 hIc21 hFc21 (in_w 0 160 i98 rfl) (m_up mm21 (t_add e98 i31 (in_c 1 rfl) rfl) (in_w 1 1 (in_c 1 rfl) rfl))))
            · skip
              have i84x3 := z_le (-1) 0 c84x3 i84x2 rfl
              have c84x3a := lc_le e84x2 c84x3
              have i84x3a := lr_le1 (-9223372036854775808) 1000000000000 c84x3a (l_rng y21_6) (l_c 1000000000000 rfl) rfl
              refine g_lload_n 7 (gd rfl) rfl rfl ?_
              refine g_goto 11 (gd rfl) rfl ?_
              refine g_lreturn (gd rfl) rfl (hp84 _ _ ?_)
              show GG _ _ _ _ _ _ _ _ [.long y21_6] _ _ _
              refine g_lstore 89 (gd rfl) rfl (Nat.le_of_ble_eq_true rfl) ?_
              refine g_lload 91 (gd rfl) rfl rfl ?_
              refine g_lload 93 (gd rfl) rfl rfl ?_
              refine g_calls (As := [.long y21_8, .long (Int64.ofInt 1000000000000)]) (r := []) 96 (gd rfl) rfl rfl rfl rfl rfl (Nat.le_of_ble_eq_true rfl) (mc := 0) (ms := 0) (Nat.zero_le _) (Nat.zero_le _) (P := fun v u => _) ?_ (fun v u h => h)
              intro po93 xx93 hp93 hx93
              refine g_enter2 (k := 423) (N := 300) (by first | exact dq1 hd rfl | exact dq0 hd rfl | exact dq2 hd rfl | exact dq3 hd rfl | omega) rfl (Nat.le_of_ble_eq_true rfl) ?_
              refine g_lload_n 1 (gd rfl) rfl rfl ?_
              refine g_lload_n 2 (gd rfl) rfl rfl ?_
              refine g_lcmp 3 (gd rfl) rfl (fun z93x2 e93x2 => ?_)
              have i93x2 := lc_in e93x2
              refine g_if_lt 6 10 (gd rfl) rfl rfl (fun c93x3 => ?_) (fun c93x3 => ?_)
              · skip
                have i93x3 := z_lt (-1) (-1) c93x3 i93x2 rfl
                have c93x3a := lc_lt e93x2 c93x3
                have i93x3a := lr_lt1 (-9223372036854775808) 999999999999 c93x3a (l_rng y21_8) (l_c 1000000000000 rfl) rfl
                refine g_lload_n 11 (gd rfl) rfl rfl ?_
                refine g_lreturn (gd rfl) rfl (hp93 _ _ ?_)
                show GG _ _ _ _ _ _ _ _ [.long (Int64.ofInt 1000000000000)] _ _ _
                refine g_lstore 98 (gd rfl) rfl (Nat.le_of_ble_eq_true rfl) ?_
                refine g_iinc 101 (gd rfl) rfl rfl (Nat.le_of_ble_eq_true rfl) (fun z98 e98 => ?_)
                have i98 := in_add 1 160 e98 i31 (in_c 1 rfl) rfl rfl
                refine g_goto 21 (gd rfl) rfl ?_
                exact gg_w (by first | exact Nat.le_add_right _ _ | exact gw2 | exact gw3 | exact gwe rfl | exact gwf rfl | exact gwg rfl | exact gwh rfl | omega) (gg_f (gf_cons rfl (gf_cons rfl (gf_cons rfl (gf_cons rfl (gf_cons rfl (gf_cons rfl (gf_cons rfl (gf_cons rfl gf_nil)))))))) (ih21 sc21 z77 y21_6 (Int64.ofInt 1000000000000) z98 hIc21 hFc21 (in_w 0 160 i98 rfl) (m_up mm21 (t_add e98 i31 (in_c 1 rfl) rfl) (in_w 1 1 (in_c 1 rfl) rfl))))
              · skip
                have i93x3 := z_ge 0 1 c93x3 i93x2 rfl
                have c93x3a := lc_ge e93x2 c93x3
                have i93x3a := lr_le2 1000000000000 9223372036854775807 c93x3a (l_c 1000000000000 rfl) (l_rng y21_8) rfl
                refine g_lload_n 7 (gd rfl) rfl rfl ?_
                refine g_goto 11 (gd rfl) rfl ?_
                refine g_lreturn (gd rfl) rfl (hp93 _ _ ?_)
                show GG _ _ _ _ _ _ _ _ [.long y21_8] _ _ _
                refine g_lstore 98 (gd rfl) rfl (Nat.le_of_ble_eq_true rfl) ?_
                refine g_iinc 101 (gd rfl) rfl rfl (Nat.le_of_ble_eq_true rfl) (fun z98 e98 => ?_)
                have i98 := in_add 1 160 e98 i31 (in_c 1 rfl) rfl rfl
                refine g_goto 21 (gd rfl) rfl ?_
                exact gg_w (by first | exact Nat.le_add_right _ _ | exact gw2 | exact gw3 | exact gwe rfl | exact gwf rfl | exact gwg rfl | exact gwh rfl | omega) (gg_f (gf_cons rfl (gf_cons rfl (gf_cons rfl (gf_cons rfl (gf_cons rfl (gf_cons rfl (gf_cons rfl (gf_cons rfl gf_nil)))))))) (ih21 sc21 z77 y21_6 y21_8 z98 hIc21 hFc21 (in_w 0 160 i98 rfl) (m_up mm21 (t_add e98 i31 (in_c 1 rfl) rfl) (in_w 1 1 (in_c 1 rfl) rfl))))
          · skip
            have i68x10x3 := z_ge 0 1 c68x10x3 i68x10x2 rfl
            have c68x10x3a := lc_ge e68x10x2 c68x10x3
            exact ln_le c68x10x3a (l_c 1000000000000 rfl) (l_c (-1000000000000) rfl) rfl
  refine g_enter2 (k := 65) (N := 145801) (by first | exact dq1 hd rfl | exact dq0 hd rfl | exact dq2 hd rfl | exact dq3 hd rfl | omega) rfl (Nat.le_of_ble_eq_true rfl) ?_
  refine g_lconst 0 1 (gd rfl) rfl rfl ?_
  refine g_lstore 3 (gd rfl) rfl (Nat.le_of_ble_eq_true rfl) ?_
  refine g_ldc2_w 1000000000000 6 (gd rfl) rfl rfl ?_
  refine g_lstore 8 (gd rfl) rfl (Nat.le_of_ble_eq_true rfl) ?_
  refine g_ldc2_w (-1000000000000) 11 (gd rfl) rfl rfl ?_
  refine g_lstore 13 (gd rfl) rfl (Nat.le_of_ble_eq_true rfl) ?_
  refine g_aload_n 14 (gd rfl) rfl rfl ?_
  refine g_getA (q2 := 44) 17 (gd rfl) rfl rfl rfl rfl ?_
  refine g_iload_n 18 (gd rfl) rfl rfl ?_
  refine g_iaload 19 (gd rfl) rfl (n := 33) rfl (in_ix h2 rfl) (fun z18 e18 => ?_)
  have i18 := inv_I hI (n := 33) (t := 0) 0 160 rfl (in_ix h2 rfl) rfl e18
  refine g_istore 21 (gd rfl) rfl (Nat.le_of_ble_eq_true rfl) ?_
  exact gg_w (by first | exact Nat.le_of_ble_eq_true rfl | omega) (gg_f (gf_cons rfl (gf_cons rfl (gf_cons rfl (gf_cons rfl (gf_cons rfl (gf_cons rfl (gf_cons rfl (gf_cons rfl gf_nil)))))))) (ct21 161 s (Int64.ofInt 0) (Int64.ofInt 1000000000000) (Int64.ofInt (-1000000000000)) z18 hI fr_rf (in_w 0 160 i18 rfl) (m_in 161 (in_w 0 160 i18 rfl) rfl)))
end
