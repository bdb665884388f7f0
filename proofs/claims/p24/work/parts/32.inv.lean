/-! WHAT THE INTS OF THE WORLD MAY BE: ranges by cell (arrays), by cell and field (objects); and rows on ranges -/
def rI (q : Nat) : Int × Int := cond (Nat.blt q 82) (cond (Nat.blt q 35) (cond (Nat.blt q 17) (cond (Nat.blt q 8) (cond (Nat.blt q 5) (cond (Nat.blt q 3) ((-2147483648, 2147483647)) (cond (Nat.blt q 4) ((0, 25)) ((-1, 31)))) (cond (Nat.blt q 6) ((0, 31)) (cond (Nat.blt q 7) ((-1000000, 1000000)) ((0, 1000000))))) (cond (Nat.blt q 13) (cond (Nat.blt q 9) ((0, 25)) (cond (Nat.blt q 12) ((-2147483648, 2147483647)) ((0, 160)))) (cond (Nat.blt q 15) (cond (Nat.blt q 14) ((0, 159)) ((0, 160))) (cond (Nat.blt q 16) ((0, 159)) ((-2147483648, 2147483647)))))) (cond (Nat.blt q 26) (cond (Nat.blt q 20) (cond (Nat.blt q 18) ((0, 25)) (cond (Nat.blt q 19) ((-1, 31)) ((0, 31)))) (cond (Nat.blt q 22) (cond (Nat.blt q 21) ((-1000000, 1000000)) ((0, 1000000))) (cond (Nat.blt q 23) ((0, 25)) ((-2147483648, 2147483647))))) (cond (Nat.blt q 29) (cond (Nat.blt q 27) ((0, 160)) (cond (Nat.blt q 28) ((0, 159)) ((0, 160)))) (cond (Nat.blt q 33) (cond (Nat.blt q 30) ((0, 159)) ((-2147483648, 2147483647))) (cond (Nat.blt q 34) ((0, 25)) ((-1, 31))))))) (cond (Nat.blt q 54) (cond (Nat.blt q 44) (cond (Nat.blt q 38) (cond (Nat.blt q 36) ((0, 31)) (cond (Nat.blt q 37) ((-1000000, 1000000)) ((0, 1000000)))) (cond (Nat.blt q 42) (cond (Nat.blt q 39) ((0, 25)) ((-2147483648, 2147483647))) (cond (Nat.blt q 43) ((0, 160)) ((0, 159))))) (cond (Nat.blt q 47) (cond (Nat.blt q 45) ((0, 160)) (cond (Nat.blt q 46) ((0, 159)) ((-2147483648, 2147483647)))) (cond (Nat.blt q 51) (cond (Nat.blt q 49) ((0, 65535)) ((-2147483648, 2147483647))) (cond (Nat.blt q 52) ((-1, 1000001)) ((-2147483648, 2147483647)))))) (cond (Nat.blt q 69) (cond (Nat.blt q 58) (cond (Nat.blt q 55) ((0, 31)) (cond (Nat.blt q 57) ((-2147483648, 2147483647)) ((0, 31)))) (cond (Nat.blt q 65) (cond (Nat.blt q 63) ((-2147483648, 2147483647)) ((0, 31))) (cond (Nat.blt q 68) ((-2147483648, 2147483647)) ((-1, 319))))) (cond (Nat.blt q 73) (cond (Nat.blt q 71) ((0, 31)) (cond (Nat.blt q 72) ((-1000000, 1000000)) ((0, 1000000)))) (cond (Nat.blt q 79) (cond (Nat.blt q 77) ((-2147483648, 2147483647)) ((0, 31))) (cond (Nat.blt q 81) ((-2147483648, 2147483647)) ((0, 31)))))))) (cond (Nat.blt q 141) (cond (Nat.blt q 118) (cond (Nat.blt q 98) (cond (Nat.blt q 89) (cond (Nat.blt q 83) ((-2147483648, 2147483647)) (cond (Nat.blt q 84) ((-1, 31)) ((-2147483648, 2147483647)))) (cond (Nat.blt q 90) ((0, 31)) (cond (Nat.blt q 97) ((-2147483648, 2147483647)) ((0, 60))))) (cond (Nat.blt q 113) (cond (Nat.blt q 111) ((-2147483648, 2147483647)) (cond (Nat.blt q 112) ((0, 25)) ((0, 1)))) (cond (Nat.blt q 116) (cond (Nat.blt q 115) ((0, 31)) ((-1000000, 1000000))) (cond (Nat.blt q 117) ((0, 1000000)) ((0, 25)))))) (cond (Nat.blt q 126) (cond (Nat.blt q 121) (cond (Nat.blt q 119) ((0, 4)) (cond (Nat.blt q 120) ((0, 159)) ((0, 31)))) (cond (Nat.blt q 124) (cond (Nat.blt q 123) ((-1000000, 1000000)) ((0, 1000000))) (cond (Nat.blt q 125) ((0, 25)) ((0, 126))))) (cond (Nat.blt q 134) (cond (Nat.blt q 132) ((-2147483648, 2147483647)) (cond (Nat.blt q 133) ((0, 1951)) ((-2147483648, 2147483647)))) (cond (Nat.blt q 136) (cond (Nat.blt q 135) ((0, 159)) ((-2147483648, 2147483647))) (cond (Nat.blt q 138) ((0, 2000)) ((-2147483648, 2147483647))))))) (cond (Nat.blt q 164) (cond (Nat.blt q 152) (cond (Nat.blt q 145) (cond (Nat.blt q 143) ((-2147483648, 31)) (cond (Nat.blt q 144) ((-2147483648, 2147483647)) ((0, 31)))) (cond (Nat.blt q 149) (cond (Nat.blt q 148) ((-2147483648, 2147483647)) ((-1, 1000))) (cond (Nat.blt q 151) ((-2147483648, 2147483647)) ((-1, 31))))) (cond (Nat.blt q 157) (cond (Nat.blt q 153) ((-2147483648, 2147483647)) (cond (Nat.blt q 155) ((0, 31)) ((-2147483648, 2147483647)))) (cond (Nat.blt q 160) (cond (Nat.blt q 158) ((-1, 159)) ((-2147483648, 2147483647))) (cond (Nat.blt q 161) ((0, 31)) ((-2147483648, 2147483647)))))) (cond (Nat.blt q 178) (cond (Nat.blt q 173) (cond (Nat.blt q 165) ((0, 160)) (cond (Nat.blt q 172) ((-2147483648, 2147483647)) ((0, 26)))) (cond (Nat.blt q 175) (cond (Nat.blt q 174) ((-2147483648, 2147483647)) ((0, 26))) (cond (Nat.blt q 176) ((-2147483648, 2147483647)) ((0, 1))))) (cond (Nat.blt q 186) (cond (Nat.blt q 180) ((-2147483648, 2147483647)) (cond (Nat.blt q 181) ((0, 1)) ((-2147483648, 2147483647)))) (cond (Nat.blt q 189) (cond (Nat.blt q 187) ((0, 120)) ((-2147483648, 2147483647))) (cond (Nat.blt q 190) ((0, 120)) ((-2147483648, 2147483647))))))))
def rF_0 (j : Nat) : Int × Int := cond (Nat.blt j 2) ((-2147483648, 2147483647)) (cond (Nat.blt j 3) ((-1, 4000)) ((-2147483648, 2147483647)))
def rF_1 (j : Nat) : Int × Int := (-2147483648, 2147483647)
def rF_2 (j : Nat) : Int × Int := cond (Nat.blt j 3) (cond (Nat.blt j 1) ((0, 4000)) (cond (Nat.blt j 2) ((0, 32)) ((-2147483648, 2147483647)))) (cond (Nat.blt j 4) ((0, 160)) (cond (Nat.blt j 5) ((-1, 4000)) ((-2147483648, 2147483647))))
def rF_16 (j : Nat) : Int × Int := cond (Nat.blt j 3) (cond (Nat.blt j 1) ((0, 4000)) (cond (Nat.blt j 2) ((0, 32)) ((-2147483648, 2147483647)))) (cond (Nat.blt j 4) ((0, 160)) (cond (Nat.blt j 5) ((-1, 4000)) ((-2147483648, 2147483647))))
def rF_32 (j : Nat) : Int × Int := cond (Nat.blt j 3) (cond (Nat.blt j 1) ((0, 4000)) (cond (Nat.blt j 2) ((0, 32)) ((-2147483648, 2147483647)))) (cond (Nat.blt j 4) ((0, 160)) (cond (Nat.blt j 5) ((-1, 4000)) ((-2147483648, 2147483647))))
def rF_46 (j : Nat) : Int × Int := cond (Nat.blt j 5) (cond (Nat.blt j 3) (cond (Nat.blt j 1) ((-2147483648, 2147483647)) ((0, 1000))) (cond (Nat.blt j 4) ((0, 5)) ((0, 1000)))) (cond (Nat.blt j 7) (cond (Nat.blt j 6) ((-2147483648, 2147483647)) ((-1, 5))) (cond (Nat.blt j 8) ((-1, 1000)) (cond (Nat.blt j 9) ((-2147483648, 2147483647)) ((0, 4608)))))
def rF_49 (j : Nat) : Int × Int := cond (Nat.blt j 8) (cond (Nat.blt j 1) ((-1, 4000)) (cond (Nat.blt j 2) ((0, 31)) ((-2147483648, 2147483647)))) (cond (Nat.blt j 11) (cond (Nat.blt j 9) ((-1, 4000)) ((0, 31))) (cond (Nat.blt j 12) ((0, 2001)) ((-2147483648, 2147483647))))
def rF_56 (j : Nat) : Int × Int := cond (Nat.blt j 2) (cond (Nat.blt j 1) ((-1, 4000)) ((0, 32))) (cond (Nat.blt j 3) ((-2147483648, 2147483647)) (cond (Nat.blt j 4) ((-1, 4000)) ((-2147483648, 2147483647))))
def rF_60 (j : Nat) : Int × Int := cond (Nat.blt j 3) (cond (Nat.blt j 1) ((-1, 4000)) (cond (Nat.blt j 2) ((-2147483648, 2147483647)) ((-1, 4000)))) (cond (Nat.blt j 7) (cond (Nat.blt j 4) ((0, 32)) ((-2147483648, 2147483647))) (cond (Nat.blt j 8) ((0, 32)) ((-2147483648, 2147483647))))
def rF_65 (j : Nat) : Int × Int := cond (Nat.blt j 9) (cond (Nat.blt j 3) (cond (Nat.blt j 1) ((-1, 4000)) ((0, 31))) (cond (Nat.blt j 8) ((-2147483648, 2147483647)) ((0, 160)))) (cond (Nat.blt j 17) (cond (Nat.blt j 16) ((-2147483648, 2147483647)) ((-1, 4000))) (cond (Nat.blt j 18) ((0, 32)) ((-2147483648, 2147483647))))
def rF_76 (j : Nat) : Int × Int := cond (Nat.blt j 9) (cond (Nat.blt j 1) ((0, 160)) ((-2147483648, 2147483647))) (cond (Nat.blt j 10) ((-1, 4000)) ((-2147483648, 2147483647)))
def rF_86 (j : Nat) : Int × Int := cond (Nat.blt j 4) (cond (Nat.blt j 1) ((-1, 4000)) (cond (Nat.blt j 2) ((0, 40)) ((-2147483648, 2147483647)))) (cond (Nat.blt j 5) ((-1, 4000)) (cond (Nat.blt j 6) ((0, 160)) ((-2147483648, 2147483647))))
def rF_94 (j : Nat) : Int × Int := (-2147483648, 2147483647)
def rF_102 (j : Nat) : Int × Int := cond (Nat.blt j 4) (cond (Nat.blt j 1) ((-2147483648, 2147483647)) (cond (Nat.blt j 3) ((0, 120)) ((-2147483648, 2147483647)))) (cond (Nat.blt j 9) (cond (Nat.blt j 5) ((0, 120)) ((-2147483648, 2147483647))) (cond (Nat.blt j 10) ((0, 32)) ((-2147483648, 2147483647))))
def rF_109 (j : Nat) : Int × Int := cond (Nat.blt j 32) (cond (Nat.blt j 21) (cond (Nat.blt j 17) (cond (Nat.blt j 9) (cond (Nat.blt j 1) ((0, 2)) ((-2147483648, 2147483647))) (cond (Nat.blt j 10) ((0, 4000)) ((-2147483648, 2147483647)))) (cond (Nat.blt j 19) (cond (Nat.blt j 18) ((-1, 4000)) ((0, 1))) (cond (Nat.blt j 20) ((0, 160)) ((0, 32))))) (cond (Nat.blt j 26) (cond (Nat.blt j 23) (cond (Nat.blt j 22) ((-2147483648, 2147483647)) ((0, 1000))) (cond (Nat.blt j 24) ((0, 9)) ((-2147483648, 2147483647)))) (cond (Nat.blt j 28) (cond (Nat.blt j 27) ((0, 8000)) ((0, 1000))) (cond (Nat.blt j 29) ((-2147483648, 2147483647)) (cond (Nat.blt j 30) ((0, 1000)) ((-2147483648, 2147483647))))))) (cond (Nat.blt j 96) (cond (Nat.blt j 80) (cond (Nat.blt j 40) (cond (Nat.blt j 33) ((0, 500)) ((-2147483648, 2147483647))) (cond (Nat.blt j 41) ((0, 2001)) ((-2147483648, 2147483647)))) (cond (Nat.blt j 82) (cond (Nat.blt j 81) ((0, 160)) ((0, 60))) (cond (Nat.blt j 84) ((-2147483648, 2147483647)) (cond (Nat.blt j 85) ((0, 1)) ((-2147483648, 2147483647)))))) (cond (Nat.blt j 110) (cond (Nat.blt j 100) (cond (Nat.blt j 97) ((0, 10)) ((0, 1))) (cond (Nat.blt j 109) ((-2147483648, 2147483647)) ((0, 400)))) (cond (Nat.blt j 112) (cond (Nat.blt j 111) ((-2147483648, 2147483647)) ((0, 200))) (cond (Nat.blt j 113) ((-2147483648, 2147483647)) (cond (Nat.blt j 114) ((0, 32)) ((-2147483648, 2147483647)))))))
def rF_30 (j : Nat) : Int × Int := cond (Nat.beq j 0) (448, 28000) (-2147483648, 2147483647)
def rF (q j : Nat) : Int × Int := cond (Nat.blt q 57) (cond (Nat.blt q 31) (cond (Nat.blt q 3) (cond (Nat.blt q 1) (rF_0 j) (cond (Nat.blt q 2) (rF_1 j) (rF_2 j))) (cond (Nat.blt q 17) (cond (Nat.blt q 16) ((-2147483648, 2147483647)) (rF_16 j)) (cond (Nat.blt q 30) ((-2147483648, 2147483647)) (rF_30 j)))) (cond (Nat.blt q 47) (cond (Nat.blt q 33) (cond (Nat.blt q 32) ((-2147483648, 2147483647)) (rF_32 j)) (cond (Nat.blt q 46) ((-2147483648, 2147483647)) (rF_46 j))) (cond (Nat.blt q 50) (cond (Nat.blt q 49) ((-2147483648, 2147483647)) (rF_49 j)) (cond (Nat.blt q 56) ((-2147483648, 2147483647)) (rF_56 j))))) (cond (Nat.blt q 86) (cond (Nat.blt q 65) (cond (Nat.blt q 60) ((-2147483648, 2147483647)) (cond (Nat.blt q 61) (rF_60 j) ((-2147483648, 2147483647)))) (cond (Nat.blt q 76) (cond (Nat.blt q 66) (rF_65 j) ((-2147483648, 2147483647))) (cond (Nat.blt q 77) (rF_76 j) ((-2147483648, 2147483647))))) (cond (Nat.blt q 102) (cond (Nat.blt q 94) (cond (Nat.blt q 87) (rF_86 j) ((-2147483648, 2147483647))) (cond (Nat.blt q 95) (rF_94 j) ((-2147483648, 2147483647)))) (cond (Nat.blt q 109) (cond (Nat.blt q 103) (rF_102 j) ((-2147483648, 2147483647))) (cond (Nat.blt q 110) (rF_109 j) ((-2147483648, 2147483647))))))
def rL (q : Nat) : Int × Int := cond (Nat.blt q 97) (cond (Nat.blt q 95) ((-9223372036854775808, 9223372036854775807)) (cond (Nat.blt q 96) ((0, 2305843009213693951)) ((0, 1152921504606846975)))) (cond (Nat.blt q 99) (cond (Nat.blt q 98) ((-9223372036854775808, 9223372036854775807)) ((0, 1152921504606846975))) (cond (Nat.blt q 102) ((0, 2305843009213693951)) ((-9223372036854775808, 9223372036854775807))))
def rG_94 (j : Nat) : Int × Int := cond (Nat.blt j 2) ((0, 2305843009213693951)) ((-9223372036854775808, 9223372036854775807))
def rG (q j : Nat) : Int × Int := cond (Nat.blt q 94) ((-9223372036854775808, 9223372036854775807)) (cond (Nat.blt q 95) (rG_94 j) ((-9223372036854775808, 9223372036854775807)))
/-- rows and fields of which more than ranges is known (KK): ordinary methods write none of them -/
def pI (q : Nat) : Bool := Nat.beq q 4 || Nat.beq q 5 || Nat.beq q 9 || Nat.beq q 10 || Nat.beq q 11 || Nat.beq q 12 || Nat.beq q 13 || Nat.beq q 14 || Nat.beq q 15 || Nat.beq q 34 || Nat.beq q 35 || Nat.beq q 39 || Nat.beq q 40 || Nat.beq q 41 || Nat.beq q 42 || Nat.beq q 43 || Nat.beq q 44 || Nat.beq q 45 || Nat.beq q 103 || Nat.beq q 110 || Nat.beq q 112 || Nat.beq q 113 || Nat.beq q 114 || Nat.beq q 118 || Nat.beq q 119 || Nat.beq q 120 || Nat.beq q 121 || Nat.beq q 134 || Nat.beq q 184 || Nat.beq q 185 || Nat.beq q 186
def pF (q j : Nat) : Bool := (Nat.beq q 2 && Nat.beq j 0) || (Nat.beq q 2 && Nat.beq j 3) || (Nat.beq q 2 && Nat.beq j 4) || (Nat.beq q 32 && Nat.beq j 0) || (Nat.beq q 32 && Nat.beq j 3) || (Nat.beq q 32 && Nat.beq j 4) || (Nat.beq q 102 && Nat.beq j 1) || (Nat.beq q 102 && Nat.beq j 2) || (Nat.beq q 109 && Nat.beq j 9) || (Nat.beq q 109 && Nat.beq j 18) || (Nat.beq q 109 && Nat.beq j 19) || (Nat.beq q 109 && Nat.beq j 20)
def mI (s : GS) : Nat → Nat → Int32 := fun q => if pI q = true then s.1 q else fun _ => 0
def mF (s : GS) : Nat → Nat → Int32 := fun q j => if pF q j = true then s.2.2.1 q j else 0
/-! Graph.tie: counts, their sums, and the rows by them -/
def cn (F : Nat → Int) (u : Int) : Nat → Int
  | 0 => 0
  | n + 1 => cn F u n + (if F n = u then 1 else 0)
def pr (F : Nat → Int) (n : Nat) : Nat → Int
  | 0 => 0
  | u + 1 => pr F n u + cn F (u : Int) n
theorem cn_0 (F : Nat → Int) (u : Int) (n : Nat) : 0 ≤ cn F u n := by
  induction n with
  | zero => exact Int.le_refl 0
  | succ n ih =>
    show 0 ≤ cn F u n + (if F n = u then 1 else 0)
    split <;> omega
theorem cn_le (F : Nat → Int) (u : Int) (n : Nat) : cn F u n ≤ (n : Int) := by
  induction n with
  | zero => exact Int.le_refl 0
  | succ n ih =>
    show cn F u n + (if F n = u then 1 else 0) ≤ ((n + 1 : Nat) : Int)
    split <;> omega
theorem cn_mono (F : Nat → Int) (u : Int) {m n : Nat} (h : m ≤ n) : cn F u m ≤ cn F u n := by
  induction n with
  | zero =>
    have e : m = 0 := by omega
    rw [e]
    exact Int.le_refl _
  | succ n ih =>
    rcases Nat.lt_or_ge n m with c | c
    · have e : m = n + 1 := by omega
      rw [e]
      exact Int.le_refl _
    · have := ih c
      show cn F u m ≤ cn F u n + (if F n = u then 1 else 0)
      split <;> omega
theorem cn_out (F : Nat → Int) (u : Int) (hF : ∀ j, F j < u) (n : Nat) : cn F u n = 0 := by
  induction n with
  | zero => rfl
  | succ n ih =>
    have := hF n
    show cn F u n + (if F n = u then 1 else 0) = 0
    rw [ih, if_neg (by omega)]
    rfl
theorem pr_s (F : Nat → Int) (n u : Nat) : pr F (n + 1) u = pr F n u + (if 0 ≤ F n ∧ F n < (u : Int) then 1 else 0) := by
  induction u with
  | zero =>
    show (0 : Int) = 0 + _
    rw [if_neg (by omega)]
    rfl
  | succ u ih =>
    show pr F (n + 1) u + (cn F (u : Int) n + (if F n = (u : Int) then 1 else 0)) = (pr F n u + cn F (u : Int) n) + _
    rw [ih]
    by_cases a : F n = (u : Int)
    · rw [if_pos a, if_neg (by omega), if_pos (by omega)]
      omega
    · rw [if_neg a]
      by_cases b : 0 ≤ F n ∧ F n < (u : Int)
      · rw [if_pos b, if_pos (by omega)]
        omega
      · rw [if_neg b, if_neg (by omega)]
        omega
theorem pr_le (F : Nat → Int) (n u : Nat) : pr F n u ≤ (n : Int) := by
  induction n with
  | zero =>
    induction u with
    | zero => exact Int.le_refl 0
    | succ u ih => show pr F 0 u + 0 ≤ _; omega
  | succ n ih =>
    rw [pr_s]
    split <;> omega
theorem pr_0 (F : Nat → Int) (n u : Nat) : 0 ≤ pr F n u := by
  induction u with
  | zero => exact Int.le_refl 0
  | succ u ih =>
    have := cn_0 F (u : Int) n
    show 0 ≤ pr F n u + cn F (u : Int) n
    omega
theorem cn_hit {F : Nat → Int} {u : Int} {n : Nat} (h : F n = u) : cn F u (n + 1) = cn F u n + 1 := by
  show cn F u n + (if F n = u then 1 else 0) = _
  rw [if_pos h]
theorem cn_miss {F : Nat → Int} {u : Int} {n : Nat} (h : F n ≠ u) : cn F u (n + 1) = cn F u n := by
  show cn F u n + (if F n = u then 1 else 0) = _
  rw [if_neg h]
  omega
theorem pr_up (F : Nat → Int) (n : Nat) : ∀ {v w : Nat}, v ≤ w → pr F n v ≤ pr F n w := by
  intro v w h
  induction w with
  | zero =>
    obtain rfl : v = 0 := by omega
    exact Int.le_refl _
  | succ w ih =>
    by_cases e : v = w + 1
    · rw [e]; exact Int.le_refl _
    · have h1 := ih (by omega)
      have h2 := cn_0 F (w : Int) n
      have h3 : pr F n (w + 1) = pr F n w + cn F (w : Int) n := rfl
      omega
theorem pr_at (F : Nat → Int) (n : Nat) (i : Int) (h0 : 0 ≤ i) : ∀ w : Nat, i < pr F n w → ∃ u : Nat, u < w ∧ pr F n u ≤ i ∧ i < pr F n (u + 1) := by
  intro w h
  induction w with
  | zero =>
    have h1 : pr F n 0 = 0 := rfl
    omega
  | succ w ih =>
    by_cases e : i < pr F n w
    · obtain ⟨u, a, b, c⟩ := ih e
      exact ⟨u, by omega, b, c⟩
    · exact ⟨w, by omega, by omega, h⟩
def gF (f4 : Nat → Int32) (j : Nat) : Int := if j < 160 then (f4 j).toInt else -1
def gG (f4 f5 : Nat → Int32) (j : Nat) : Int := if j < 160 ∧ (f4 j).toInt ≠ -1 then (f5 j).toInt else -1
/-- the r-th of them -/
theorem cn_ex {F : Nat → Int} {u r : Int} (h0 : 0 ≤ r) : ∀ {n : Nat}, r < cn F u n → ∃ p, p < n ∧ F p = u ∧ cn F u p = r := by
  intro n
  induction n with
  | zero => intro h; exact absurd h (by show ¬ r < 0; omega)
  | succ n ih =>
    intro h
    by_cases c : r < cn F u n
    · obtain ⟨p, a, b, d⟩ := ih c
      exact ⟨p, by omega, b, d⟩
    · by_cases e : F n = u
      · rw [cn_hit e] at h
        exact ⟨n, by omega, e, by omega⟩
      · rw [cn_miss e] at h
        exact absurd h c
/-- an arc from u to v, of the first T places -/
def AJ (fr tt : Nat → Int32) (T u v : Nat) : Prop := ∃ p : Nat, p < T ∧ gF fr p = (u : Int) ∧ gG fr tt p = (v : Int)
/-- the masks: near, out, in -/
def MSK (fr tt ne ou nn : Nat → Int32) (T : Nat) : Prop := ∀ u v : Nat, u < 32 → v < 32 → ((ou u).toBitVec.getLsbD v = true ↔ AJ fr tt T u v) ∧ ((nn v).toBitVec.getLsbD u = true ↔ AJ fr tt T u v) ∧ ((ne u).toBitVec.getLsbD v = true ↔ u ≠ v ∧ (AJ fr tt T u v ∨ AJ fr tt T v u))
/-- the rows of arcs, from place y on -/
def RWS (F : Nat → Int) (T : Nat) (os : Nat → Int32) (y : Nat) : Prop := ∀ p u : Nat, y ≤ p → p < T → u < 32 → F p = (u : Int) → (os (pr F T u + cn F (u : Int) p).toNat).toInt = (p : Int)
/-- a graph's rows are made: counts, rows of arcs, masks -/
def TG (fr tt ne ou nn oa os ia is : Nat → Int32) (T : Nat) : Prop := (∀ v, v ≤ 32 → (oa v).toInt = pr (gF fr) T v ∧ (ia v).toInt = pr (gG fr tt) T v) ∧ RWS (gF fr) T os 0 ∧ RWS (gG fr tt) T is 0 ∧ MSK fr tt ne ou nn T
/-- a class's graph in cell b: its version is not below the tied one; at the tied one the rows are made -/
def KG (b : Nat) (I F : Nat → Nat → Int32) : Prop := (F b 4).toInt ≤ (F b 0).toInt ∧ ((F b 4).toInt = (F b 0).toInt → TG (I (b + 2)) (I (b + 3)) (I (b + 7)) (I (b + 8)) (I (b + 9)) (I (b + 10)) (I (b + 11)) (I (b + 12)) (I (b + 13)) (F b 3).toInt.toNat)
/-- a step of a program in postfix: how many values lie on the pile behind it -/
def hs (w v : Int32) (h : Nat) : Option Nat := if w.toInt = 0 then some (h + 1) else if w.toInt = 1 then (if 0 ≤ v.toInt ∧ v.toInt ≤ 8 then some (h + 1) else none) else if w.toInt = 2 then (if 1 ≤ h then some h else none) else if 2 < w.toInt then (if 2 ≤ h then some (h - 1) else none) else none
/-- the same for the class's rows -/
def hc (c : Int32) (h : Nat) : Option Nat := if c.toInt < 1000000 then some (h + 1) else if c.toInt < 1000100 then (if c.toInt ≤ 1000008 then some (h + 1) else none) else if c.toInt = 1000226 then (if 1 ≤ h then some h else none) else if 2 ≤ h then some (h - 1) else none
def ht (st : Nat → Nat → Option Nat) (a : Nat) : Nat → Option Nat
  | 0 => some 0
  | n + 1 => (ht st a n).bind (st (a + n))
def KP (w v e : Nat → Int32) : Prop := (ht (fun i => hs (w i) (v i)) 0 (e 1).toNatClampNeg).isSome = true ∧ (ht (fun i => hs (w i) (v i)) (e 1).toNatClampNeg ((e 2).toNatClampNeg - (e 1).toNatClampNeg)).isSome = true
def KC (c : Nat → Int32) (a b : Int32) : Prop := (ht (fun i => hc (c i)) 0 a.toNatClampNeg).isSome = true ∧ (ht (fun i => hc (c i)) a.toNatClampNeg (b.toNatClampNeg - a.toNatClampNeg)).isSome = true
/-- the short ways of the reference: how many arcs each has; programs -/
def KS (I F : Nat → Nat → Int32) : Prop := (∀ j : Nat, j < 2001 → (I 134 (5 * j)).toInt ≤ 4) ∧ KP (I 184) (I 185) (I 186) ∧ KC (I 103) (F 102 1) (F 102 2)
/-- how many of the first rows of the log are nodes -/
def cz (w : Nat → Int32) : Nat → Nat
  | 0 => 0
  | n + 1 => cz w n + (if (w n).toInt = 0 then 1 else 0)
/-- a row of the reference's log fits its kind -/
def RW (w a b c : Nat → Int32) (k : Nat) : Prop :=
  ((w k).toInt = 0 → (a k).toInt ≤ 25) ∧ ((w k).toInt = 1 → (b k).toInt < (cz w k : Int) ∧ 0 ≤ (c k).toInt ∧ (c k).toInt < (cz w k : Int)) ∧ ((w k).toInt = 3 → (b k).toInt = 1 → 0 ≤ (c k).toInt) ∧ ((w k).toInt = 3 → (b k).toInt ≠ 0 → (b k).toInt ≠ 1 → 0 ≤ (c k).toInt ∧ (c k).toInt ≤ 25) ∧ ((w k).toInt = 4 → (a k).toInt < (cz w k : Int) ∧ (b k).toInt ≤ 25)
/-- the ends of a graph's arcs are nodes -/
def KE (th fr to nn : Nat → Int32) (g : Nat) : Prop := ∀ a : Nat, a < 160 → (th (160 * g + a)).toInt ≠ 0 → (fr (160 * g + a)).toInt < (nn g).toInt ∧ (to (160 * g + a)).toInt < (nn g).toInt
/-- the reference: its log, how many nodes, its arcs, what is looked at -/
def KR (I F : Nat → Nat → Int32) : Prop := (∀ k : Nat, (k : Int) < (F 109 9).toInt → RW (I 118) (I 119) (I 120) (I 121) k) ∧ (I 110 0).toInt = (cz (I 118) (F 109 9).toInt.toNat : Int) ∧ (In (I 110 0) 0 32 ∧ In (I 110 1) 0 32) ∧ KE (I 112) (I 113) (I 114) (I 110) 0 ∧ KE (I 112) (I 113) (I 114) (I 110) 1 ∧ (F 109 19).toInt = 160 * (F 109 18).toInt ∧ F 109 20 = I 110 (F 109 18).toNatClampNeg
/-- what is known of the contents -/
def KK (I F : Nat → Nat → Int32) : Prop := KG 2 I F ∧ KG 32 I F ∧ KS I F ∧ KR I F
def InL (x : Int64) (lo hi : Int) : Prop := lo ≤ x.toInt ∧ x.toInt ≤ hi
def Rng (s : GS) : Prop := (∀ q j, j < wn q → In (s.1 q j) (rI q).1 (rI q).2) ∧ (∀ q j, In (s.2.2.1 q j) (rF q j).1 (rF q j).2) ∧ (∀ q j, j < wn q → InL (s.2.1 q j) (rL q).1 (rL q).2) ∧ ∀ q j, InL (s.2.2.2.1 q j) (rG q j).1 (rG q j).2
def Inv (s : GS) : Prop := Rng s ∧ KK (mI s) (mF s)
/-- what a method may write: int rows, long rows, int fields, long fields -/
abbrev FM : Type := List Nat × List Nat × List (Nat × Nat) × List (Nat × Nat)
def qI (l : List Nat) (q : Nat) : Bool := !(l.any (fun e => Nat.beq e q))
def qF (l : List (Nat × Nat)) (q k : Nat) : Bool := !(l.any (fun e => Nat.beq e.1 q && Nat.beq e.2 k))
/-- t is s but for what L names -/
def Fr (L : FM) (s t : GS) : Prop := (∀ q, qI L.1 q = true → t.1 q = s.1 q) ∧ (∀ q, qI L.2.1 q = true → t.2.1 q = s.2.1 q) ∧ (∀ q k, qF L.2.2.1 q k = true → t.2.2.1 q k = s.2.2.1 q k) ∧ ∀ q k, qF L.2.2.2 q k = true → t.2.2.2.1 q k = s.2.2.2.1 q k
def fsb (M L : FM) : Bool := M.1.all (fun q => !(qI L.1 q)) && M.2.1.all (fun q => !(qI L.2.1 q)) && M.2.2.1.all (fun e => !(qF L.2.2.1 e.1 e.2)) && M.2.2.2.all (fun e => !(qF L.2.2.2 e.1 e.2))
section FRM
variable {L M : FM} {s t u : GS} {q j : Nat}
theorem fr_rf : Fr L s s := ⟨fun _ _ => rfl, fun _ _ => rfl, fun _ _ _ => rfl, fun _ _ _ => rfl⟩
theorem qI_ne {l : List Nat} {p : Nat} (h : qI l q = false) (hp : qI l p = true) : p ≠ q := fun e => by rw [e, h] at hp; cases hp
theorem qF_ne {l : List (Nat × Nat)} {p i : Nat} (h : qF l q j = false) (hp : qF l p i = true) : ¬ (p = q ∧ i = j) := fun e => by rw [e.1, e.2, h] at hp; cases hp
theorem fr_sI {x : Int32} (hq : qI L.1 q = false) (h : Fr L s t) : Fr L s (sI t q j x) :=
  ⟨fun p hp => by show (if p = q then upd (t.1 q) j x else t.1 p) = s.1 p; rw [if_neg (qI_ne hq hp)]; exact h.1 p hp, h.2⟩
theorem fr_sA {g : Nat → Int32} (hq : qI L.1 q = false) (h : Fr L s t) : Fr L s (sA t q g) :=
  ⟨fun p hp => by show (if p = q then g else t.1 p) = s.1 p; rw [if_neg (qI_ne hq hp)]; exact h.1 p hp, h.2⟩
theorem fr_sL {x : Int64} (hq : qI L.2.1 q = false) (h : Fr L s t) : Fr L s (sL t q j x) :=
  ⟨h.1, fun p hp => by show (if p = q then vp_updL (t.2.1 q) j x else t.2.1 p) = s.2.1 p; rw [if_neg (qI_ne hq hp)]; exact h.2.1 p hp, h.2.2⟩
theorem fr_sB {g : Nat → Int64} (hq : qI L.2.1 q = false) (h : Fr L s t) : Fr L s (sB t q g) :=
  ⟨h.1, fun p hp => by show (if p = q then g else t.2.1 p) = s.2.1 p; rw [if_neg (qI_ne hq hp)]; exact h.2.1 p hp, h.2.2⟩
theorem fr_sF {x : Int32} (hq : qF L.2.2.1 q j = false) (h : Fr L s t) : Fr L s (sF t q j x) :=
  ⟨h.1, h.2.1, fun p i hp => by show (if p = q ∧ i = j then x else t.2.2.1 p i) = s.2.2.1 p i; rw [if_neg (qF_ne hq hp)]; exact h.2.2.1 p i hp, h.2.2.2⟩
theorem fr_sG {x : Int64} (hq : qF L.2.2.2 q j = false) (h : Fr L s t) : Fr L s (sG t q j x) :=
  ⟨h.1, h.2.1, h.2.2.1, fun p i hp => by show (if p = q ∧ i = j then x else t.2.2.2.1 p i) = s.2.2.2.1 p i; rw [if_neg (qF_ne hq hp)]; exact h.2.2.2 p i hp⟩
theorem qI_sub {l k : List Nat} (h : k.all (fun q => !(qI l q)) = true) (hq : qI l q = true) : qI k q = true := by
  cases e : qI k q with
  | true => rfl
  | false =>
    unfold qI at e
    simp only [Bool.not_eq_false', List.any_eq_true] at e
    obtain ⟨a, ha, hb⟩ := e
    have := List.all_eq_true.mp h a ha
    rw [Nat.eq_of_beq_eq_true hb, hq] at this
    cases this
theorem qF_sub {l k : List (Nat × Nat)} (h : k.all (fun e => !(qF l e.1 e.2)) = true) (hq : qF l q j = true) : qF k q j = true := by
  cases e : qF k q j with
  | true => rfl
  | false =>
    unfold qF at e
    simp only [Bool.not_eq_false', List.any_eq_true, Bool.and_eq_true] at e
    obtain ⟨a, ha, hb, hc⟩ := e
    have := List.all_eq_true.mp h a ha
    rw [Nat.eq_of_beq_eq_true hb, Nat.eq_of_beq_eq_true hc, hq] at this
    cases this
theorem fr_tr (hM : fsb M L = true) (h : Fr L s t) (h2 : Fr M t u) : Fr L s u := by
  unfold fsb at hM
  simp only [Bool.and_eq_true] at hM
  exact ⟨fun q hq => (h2.1 q (qI_sub hM.1.1.1 hq)).trans (h.1 q hq), fun q hq => (h2.2.1 q (qI_sub hM.1.1.2 hq)).trans (h.2.1 q hq), fun q k hq => (h2.2.2.1 q k (qF_sub hM.1.2 hq)).trans (h.2.2.1 q k hq), fun q k hq => (h2.2.2.2 q k (qF_sub hM.2 hq)).trans (h.2.2.2 q k hq)⟩
theorem fr_F {x : Int32} {k : Nat} (e : x = s.2.2.1 q k) (h : Fr L s t) (hq : qF L.2.2.1 q k = true) : x = t.2.2.1 q k := e.trans (h.2.2.1 q k hq).symm
theorem fr_I {x : Int32} (e : x = s.1 q j) (h : Fr L s t) (hq : qI L.1 q = true) : x = t.1 q j := by rw [h.1 q hq]; exact e
end FRM
noncomputable def gE1 (Z : AmZ) (A : Nat → Nat) (ex : va_W) (L : FM) (s : GS) : AmX := fun e u => e = am_IA ∧ ∃ t, Inv t ∧ Fr L s t ∧ u = WW Z A t ++ ex
noncomputable def gE2 (Z : AmZ) (A : Nat → Nat) (ex : va_W) (L : FM) (s : GS) : AmX := fun e u => (e = am_IA ∨ e = am_IS) ∧ ∃ t, Inv t ∧ Fr L s t ∧ u = WW Z A t ++ ex
theorem i_rng (x : Int32) : In x (-2147483648) 2147483647 := by
  have h1 := Int32.le_toInt x
  have h2 := Int32.toInt_lt x
  exact ⟨by omega, by omega⟩
theorem l_rng (x : Int64) : InL x (-9223372036854775808) 9223372036854775807 := by
  have h1 := Int64.le_toInt x
  have h2 := Int64.toInt_lt x
  exact ⟨by omega, by omega⟩
section GI
variable {s : GS} {q j : Nat} {x y z : Int32} {a b c e : Int}
theorem rng_I (h : Rng s) {n : Nat} {t : Nat} (lo hi : Int) (hw : wak q t n = true) (hx : vp_in x n) (hr : rI q = (lo, hi)) (hz : z = s.1 q x.toNatClampNeg) : In z lo hi := by
  have e := h.1 q x.toNatClampNeg (by rw [(wak_w hw).2.2]; exact Nat.not_le.mp fun k => hx (Or.inr k))
  rw [hr] at e
  rw [hz]
  exact e
theorem rng_F (h : Rng s) (lo hi : Int) (hr : rF q j = (lo, hi)) (hz : z = s.2.2.1 q j) : In z lo hi := by
  have e := h.2.1 q j
  rw [hr] at e
  rw [hz]
  exact e
theorem inv_I (h : Inv s) {n : Nat} {t : Nat} (lo hi : Int) (hw : wak q t n = true) (hx : vp_in x n) (hr : rI q = (lo, hi)) (hz : z = s.1 q x.toNatClampNeg) : In z lo hi := rng_I h.1 lo hi hw hx hr hz
theorem inv_F (h : Inv s) (lo hi : Int) (hr : rF q j = (lo, hi)) (hz : z = s.2.2.1 q j) : In z lo hi := rng_F h.1 lo hi hr hz
theorem mI_I (hp : pI q = false) {g : Nat → Int32} : (fun p => if pI p = true then (if p = q then g else s.1 p) else fun _ => (0 : Int32)) = mI s := by
  funext p
  unfold mI
  by_cases e : p = q
  · subst e
    rw [hp]
    rfl
  · rw [if_neg e]
theorem rng_sI (h : Rng s) {lo hi : Int} (hr : rI q = (lo, hi)) (hx : In x lo hi) : Rng (sI s q j x) := by
  refine ⟨fun p i hi => ?_, h.2⟩
  show In ((if p = q then upd (s.1 q) j x else s.1 p) i) _ _
  by_cases e : p = q
  · subst e
    rw [if_pos rfl]
    unfold upd
    by_cases k : i = j
    · rw [if_pos k, hr]; exact hx
    · rw [if_neg k]; exact h.1 p i hi
  · rw [if_neg e]; exact h.1 p i hi
theorem inv_sI (h : Inv s) {lo hi : Int} (hr : rI q = (lo, hi)) (hx : In x lo hi) (hp : pI q = false := by rfl) : Inv (sI s q j x) := by
  refine ⟨rng_sI h.1 hr hx, ?_⟩
  have e : mI (sI s q j x) = mI s := mI_I hp
  rw [e]
  exact h.2
theorem rng_sF (h : Rng s) {lo hi : Int} (hr : rF q j = (lo, hi)) (hx : In x lo hi) : Rng (sF s q j x) := by
  refine ⟨h.1, fun p i => ?_, h.2.2⟩
  show In (if p = q ∧ i = j then x else s.2.2.1 p i) _ _
  by_cases e : p = q ∧ i = j
  · rw [if_pos e, e.1, e.2, hr]; exact hx
  · rw [if_neg e]; exact h.2.1 p i
theorem inv_sF (h : Inv s) {lo hi : Int} (hr : rF q j = (lo, hi)) (hx : In x lo hi) (hp : pF q j = false := by rfl) : Inv (sF s q j x) := by
  refine ⟨rng_sF h.1 hr hx, ?_⟩
  have e : mF (sF s q j x) = mF s := by
    funext p i
    show (if pF p i = true then (if p = q ∧ i = j then x else s.2.2.1 p i) else 0) = if pF p i = true then s.2.2.1 p i else 0
    by_cases e : p = q ∧ i = j
    · rw [e.1, e.2, hp]
      rfl
    · rw [if_neg e]
  rw [e]
  exact h.2
theorem rng_sA (h : Rng s) {g : Nat → Int32} (hg : ∀ i, i < wn q → In (g i) (rI q).1 (rI q).2) : Rng (sA s q g) := by
  refine ⟨fun p i hi => ?_, h.2⟩
  show In ((if p = q then g else s.1 p) i) _ _
  by_cases e : p = q
  · subst e; rw [if_pos rfl]; exact hg i hi
  · rw [if_neg e]; exact h.1 p i hi
theorem inv_sA (h : Inv s) {g : Nat → Int32} (hg : ∀ i, i < wn q → In (g i) (rI q).1 (rI q).2) (hp : pI q = false := by rfl) : Inv (sA s q g) := by
  refine ⟨rng_sA h.1 hg, ?_⟩
  have e : mI (sA s q g) = mI s := mI_I hp
  rw [e]
  exact h.2
theorem rng_cpy (h : Rng s) {q2 n0 n1 sp dp n : Nat} {lo hi : Int} (hw : wak q2 0 n0 = true) (hw2 : wak q 0 n1 = true) (h0 : sp + n ≤ n0) (hr2 : rI q2 = (a, b)) (hr : rI q = (lo, hi)) (hk : decide (lo ≤ a ∧ b ≤ hi) = true) : Rng (sA s q (va_cpy (s.1 q2) (s.1 q) sp dp n)) := by
  refine rng_sA h (fun i hi2 => ?_)
  have hk := of_decide_eq_true hk
  unfold va_cpy
  split
  · have e := h.1 q2 (sp + (i - dp)) (by rw [(wak_w hw).2.2]; omega)
    rw [hr2] at e
    rw [hr]
    exact ⟨Int.le_trans hk.1 e.1, Int.le_trans e.2 hk.2⟩
  · exact h.1 q i hi2
theorem inv_cpy (h : Inv s) {q2 n0 n1 sp dp n : Nat} {lo hi : Int} (hw : wak q2 0 n0 = true) (hw2 : wak q 0 n1 = true) (h0 : sp + n ≤ n0) (hr2 : rI q2 = (a, b)) (hr : rI q = (lo, hi)) (hk : decide (lo ≤ a ∧ b ≤ hi) = true) (hp : pI q = false := by rfl) : Inv (sA s q (va_cpy (s.1 q2) (s.1 q) sp dp n)) := by
  refine ⟨rng_cpy h.1 hw hw2 h0 hr2 hr hk, ?_⟩
  have e : mI (sA s q (va_cpy (s.1 q2) (s.1 q) sp dp n)) = mI s := mI_I hp
  rw [e]
  exact h.2
theorem rng_sB (h : Rng s) {g : Nat → Int64} (hg : ∀ i, i < wn q → InL (g i) (rL q).1 (rL q).2) : Rng (sB s q g) := by
  refine ⟨h.1, h.2.1, fun p i hi => ?_, h.2.2.2⟩
  show InL ((if p = q then g else s.2.1 p) i) _ _
  by_cases e : p = q
  · subst e; rw [if_pos rfl]; exact hg i hi
  · rw [if_neg e]; exact h.2.2.1 p i hi
theorem inv_sB (h : Inv s) {g : Nat → Int64} (hg : ∀ i, i < wn q → InL (g i) (rL q).1 (rL q).2) : Inv (sB s q g) := ⟨rng_sB h.1 hg, h.2⟩
theorem rng_sL (h : Rng s) {x : Int64} {lo hi : Int} (hr : rL q = (lo, hi)) (hx : InL x lo hi) : Rng (sL s q j x) := by
  refine ⟨h.1, h.2.1, fun p i hi => ?_, h.2.2.2⟩
  show InL ((if p = q then vp_updL (s.2.1 q) j x else s.2.1 p) i) _ _
  by_cases e : p = q
  · subst e
    rw [if_pos rfl]
    unfold vp_updL
    by_cases k : i = j
    · rw [if_pos k, hr]; exact hx
    · rw [if_neg k]; exact h.2.2.1 p i hi
  · rw [if_neg e]; exact h.2.2.1 p i hi
theorem rng_sG (h : Rng s) {x : Int64} {lo hi : Int} (hr : rG q j = (lo, hi)) (hx : InL x lo hi) : Rng (sG s q j x) := by
  refine ⟨h.1, h.2.1, h.2.2.1, fun p i => ?_⟩
  show InL (if p = q ∧ i = j then x else s.2.2.2.1 p i) _ _
  by_cases e : p = q ∧ i = j
  · rw [if_pos e, e.1, e.2, hr]; exact hx
  · rw [if_neg e]; exact h.2.2.2 p i
theorem inv_sL (h : Inv s) {x : Int64} {lo hi : Int} (hr : rL q = (lo, hi)) (hx : InL x lo hi) : Inv (sL s q j x) := ⟨rng_sL h.1 hr hx, h.2⟩
theorem inv_sG (h : Inv s) {x : Int64} {lo hi : Int} (hr : rG q j = (lo, hi)) (hx : InL x lo hi) : Inv (sG s q j x) := ⟨rng_sG h.1 hr hx, h.2⟩
theorem rng_L {z : Int64} (h : Rng s) {n : Nat} (lo hi : Int) (hw : wak q 1 n = true) (hx : vp_in x n) (hr : rL q = (lo, hi)) (hz : z = s.2.1 q x.toNatClampNeg) : InL z lo hi := by
  have e := h.2.2.1 q x.toNatClampNeg (by rw [(wak_w hw).2.2]; exact Nat.not_le.mp fun k => hx (Or.inr k))
  rw [hr] at e
  rw [hz]
  exact e
theorem rng_G {z : Int64} (h : Rng s) (lo hi : Int) (hr : rG q j = (lo, hi)) (hz : z = s.2.2.2.1 q j) : InL z lo hi := by
  have e := h.2.2.2 q j
  rw [hr] at e
  rw [hz]
  exact e
theorem inv_L {z : Int64} (h : Inv s) {n : Nat} (lo hi : Int) (hw : wak q 1 n = true) (hx : vp_in x n) (hr : rL q = (lo, hi)) (hz : z = s.2.1 q x.toNatClampNeg) : InL z lo hi := rng_L h.1 lo hi hw hx hr hz
theorem inv_G {z : Int64} (h : Inv s) (lo hi : Int) (hr : rG q j = (lo, hi)) (hz : z = s.2.2.2.1 q j) : InL z lo hi := rng_G h.1 lo hi hr hz
theorem rng_cpL (h : Rng s) {q2 n0 sp dp n : Nat} {lo hi : Int} (hw : wak q2 1 n0 = true) (h0 : sp + n ≤ n0) (hr2 : rL q2 = (a, b)) (hr : rL q = (lo, hi)) (hk : decide (lo ≤ a ∧ b ≤ hi) = true) : Rng (sB s q (va_cpy (s.2.1 q2) (s.2.1 q) sp dp n)) := by
  refine rng_sB h (fun i hi2 => ?_)
  have hk := of_decide_eq_true hk
  unfold va_cpy
  split
  · have e := h.2.2.1 q2 (sp + (i - dp)) (by rw [(wak_w hw).2.2]; omega)
    rw [hr2] at e
    rw [hr]
    exact ⟨Int.le_trans hk.1 e.1, Int.le_trans e.2 hk.2⟩
  · exact h.2.2.1 q i hi2
theorem inv_cpL (h : Inv s) {q2 n0 sp dp n : Nat} {lo hi : Int} (hw : wak q2 1 n0 = true) (h0 : sp + n ≤ n0) (hr2 : rL q2 = (a, b)) (hr : rL q = (lo, hi)) (hk : decide (lo ≤ a ∧ b ≤ hi) = true) : Inv (sB s q (va_cpy (s.2.1 q2) (s.2.1 q) sp dp n)) := ⟨rng_cpL h.1 hw h0 hr2 hr hk, h.2⟩
/-- what is known of the contents of one row stays where that row isn't written -/
theorem mI_at (hp : pI q = true) : mI s q = s.1 q := if_pos hp
theorem mF_at (hp : pF q j = true) : mF s q j = s.2.2.1 q j := if_pos hp
theorem fr_mI {L : FM} {t : GS} (h : Fr L s t) (hq : qI L.1 q = true) : mI t q = mI s q := by
  unfold mI
  rw [h.1 q hq]
theorem fr_mF {L : FM} {t : GS} (h : Fr L s t) (hq : qF L.2.2.1 q j = true) : mF t q j = mF s q j := by
  unfold mF
  rw [h.2.2.1 q j hq]
def qG1 (L : FM) (b : Nat) : Bool := qI L.1 (b + 2) && qI L.1 (b + 3)
def qG2 (L : FM) (b : Nat) : Bool := qI L.1 (b + 12) && (qI L.1 (b + 7) && (qI L.1 (b + 8) && qI L.1 (b + 9)))
def qG3 (L : FM) (b : Nat) : Bool := qI L.1 (b + 13) && (qI L.1 (b + 10) && qI L.1 (b + 11))
def qG4 (L : FM) (b : Nat) : Bool := qF L.2.2.1 b 0 && qF L.2.2.1 b 3
def qG5 (L : FM) (b : Nat) : Bool := qF L.2.2.1 b 4
theorem bl_and {a b : Bool} (h : (a && b) = true) : a = true ∧ b = true := by
  cases a
  · cases h
  · exact ⟨rfl, h⟩
theorem kk_g {L : FM} {t : GS} {b : Nat} (h : KG b (mI s) (mF s)) (hF : Fr L s t) (c1 : qG1 L b = true) (c2 : qG2 L b = true) (c3 : qG3 L b = true) (d1 : qG4 L b = true) (d2 : qG5 L b = true) : KG b (mI t) (mF t) := by
  obtain ⟨a2, a3⟩ := bl_and c1
  obtain ⟨a12, c2⟩ := bl_and c2
  obtain ⟨a7, c2⟩ := bl_and c2
  obtain ⟨a8, a9⟩ := bl_and c2
  obtain ⟨a13, c3⟩ := bl_and c3
  obtain ⟨a10, a11⟩ := bl_and c3
  obtain ⟨f0, f3⟩ := bl_and d1
  have f4 : qF L.2.2.1 b 4 = true := d2
  unfold KG at h ⊢
  rw [fr_mI hF a2, fr_mI hF a3, fr_mI hF a7, fr_mI hF a8, fr_mI hF a9, fr_mI hF a10, fr_mI hF a11, fr_mI hF a12, fr_mI hF a13, fr_mF hF f0, fr_mF hF f3, fr_mF hF f4]
  exact h
/-- none of the cells of KS is written -/
def kpok (L : FM) : Bool := qI L.1 184 && qI L.1 185 && qI L.1 186 && qI L.1 103 && qF L.2.2.1 102 1 && qF L.2.2.1 102 2
def ksok (L : FM) : Bool := qI L.1 134 && kpok L
theorem kk_p {L : FM} {t : GS} (h : KP (mI s 184) (mI s 185) (mI s 186) ∧ KC (mI s 103) (mF s 102 1) (mF s 102 2)) (hF : Fr L s t) (hk : kpok L = true) : KP (mI t 184) (mI t 185) (mI t 186) ∧ KC (mI t 103) (mF t 102 1) (mF t 102 2) := by
  unfold kpok at hk
  simp only [Bool.and_eq_true] at hk
  obtain ⟨⟨⟨⟨⟨a1, a2⟩, a3⟩, a4⟩, b1⟩, b2⟩ := hk
  rw [fr_mI hF a1, fr_mI hF a2, fr_mI hF a3, fr_mI hF a4, fr_mF hF b1, fr_mF hF b2]
  exact h
theorem kk_s {L : FM} {t : GS} (h : KS (mI s) (mF s)) (hF : Fr L s t) (hk : ksok L = true) : KS (mI t) (mF t) := by
  unfold ksok at hk
  simp only [Bool.and_eq_true] at hk
  obtain ⟨a1, a2⟩ := hk
  unfold KS at h ⊢
  refine ⟨?_, kk_p h.2 hF a2⟩
  rw [fr_mI hF a1]
  exact h.1
theorem kk_un {t : GS} {b : Nat} (g4 : pF b 0 = true) (g5 : pF b 4 = true) (h4 : (t.2.2.1 b 4).toInt = -1) (h0 : 0 ≤ (t.2.2.1 b 0).toInt) : KG b (mI t) (mF t) := by
  unfold KG
  rw [mF_at g4, mF_at g5]
  exact ⟨by omega, fun h => by omega⟩
/-- none of the cells of KR is written -/
def krok (L : FM) : Bool := qI L.1 110 && qI L.1 112 && qI L.1 113 && qI L.1 114 && qI L.1 118 && qI L.1 119 && qI L.1 120 && qI L.1 121 && qF L.2.2.1 109 9 && qF L.2.2.1 109 18 && qF L.2.2.1 109 19 && qF L.2.2.1 109 20
theorem kk_r {L : FM} {t : GS} (h : KR (mI s) (mF s)) (hF : Fr L s t) (hk : krok L = true) : KR (mI t) (mF t) := by
  unfold krok at hk
  simp only [Bool.and_eq_true] at hk
  obtain ⟨⟨⟨⟨⟨⟨⟨⟨⟨⟨⟨a1, a2⟩, a3⟩, a4⟩, a5⟩, a6⟩, a7⟩, a8⟩, b1⟩, b2⟩, b3⟩, b4⟩ := hk
  unfold KR at h ⊢
  rw [fr_mI hF a1, fr_mI hF a2, fr_mI hF a3, fr_mI hF a4, fr_mI hF a5, fr_mI hF a6, fr_mI hF a7, fr_mI hF a8, fr_mF hF b1, fr_mF hF b2, fr_mF hF b3, fr_mF hF b4]
  exact h
/-- a row of the short ways is written -/
theorem inv_sS (h : Inv s) (hx : In x 0 159) (h5 : j % 5 = 0 → x.toInt ≤ 4) : Inv (sI s 134 j x) := by
  have hF : Fr ([134], [], [], []) s (sI s 134 j x) := fr_sI rfl fr_rf
  refine ⟨rng_sI h.1 rfl hx, kk_g h.2.1 hF rfl rfl rfl rfl rfl, kk_g h.2.2.1 hF rfl rfl rfl rfl rfl, ⟨fun i hi => ?_, kk_p h.2.2.2.1.2 hF rfl⟩, kk_r h.2.2.2.2 hF rfl⟩
  have h1 := h.2.2.2.1.1 i hi
  rw [mI_at rfl] at h1 ⊢
  show ((if 134 = 134 then upd (s.1 134) j x else s.1 134) (5 * i)).toInt ≤ 4
  rw [if_pos rfl]
  unfold upd
  by_cases e : 5 * i = j
  · rw [if_pos e]; exact h5 (by omega)
  · rw [if_neg e]; exact h1
theorem ks_u (h : Inv s) (hz : z = s.1 134 x.toNatClampNeg) (hx : x.toInt = 5 * y.toInt) (hy : In y 0 2000) (h0 : In z 0 159) : In z 0 4 := by
  obtain ⟨y1, y2⟩ := hy
  have e : x.toNatClampNeg = 5 * y.toInt.toNat := by
    show x.toInt.toNat = _
    omega
  have h1 := h.2.2.2.1.1 y.toInt.toNat (by omega)
  rw [mI_at rfl, ← e, ← hz] at h1
  exact ⟨h0.1, h1⟩
/-- an arc of a node's row of arcs that come to it -/
theorem tg_b {b : Nat} (hk : KG b (mI s) (mF s)) (g1 : pI (b + 2) = true) (g2 : pI (b + 12) = true) (g3 : pI (b + 13) = true) (g4 : pF b 0 = true) (g5 : pF b 4 = true) (hv : (s.2.2.1 b 4).toInt = (s.2.2.1 b 0).toInt) {v i p u w : Int32} (hw : w = s.1 (b + 12) v.toNatClampNeg) (hv1 : In v a 32) (hi : In i 0 c) (hlt : i.toInt < w.toInt) (hp : p = s.1 (b + 13) i.toNatClampNeg) (hu : u = s.1 (b + 2) p.toNatClampNeg) (h31 : In u (-1) 31) : In u 0 31 := by
  obtain ⟨-, h⟩ := hk
  rw [mF_at g4, mF_at g5, mI_at g1, mI_at g2, mI_at g3] at h
  obtain ⟨h1, -, h2, -⟩ := h hv
  have l1 := (h1 v.toNatClampNeg (by
    show v.toInt.toNat ≤ 32
    have := hv1.2
    omega)).2
  rw [← hw] at l1
  obtain ⟨u', q1, q2, q3⟩ := pr_at (gG (s.1 (b + 2)) (mI s (b + 3))) (mF s b 3).toInt.toNat i.toInt hi.1 v.toNatClampNeg (by omega)
  have hv32 : v.toNatClampNeg ≤ 32 := by
    show v.toInt.toNat ≤ 32
    have := hv1.2
    omega
  obtain ⟨p', r1, r2, r3⟩ := cn_ex (r := i.toInt - pr (gG (s.1 (b + 2)) (mI s (b + 3))) (mF s b 3).toInt.toNat u') (by omega) (n := (mF s b 3).toInt.toNat) (F := gG (s.1 (b + 2)) (mI s (b + 3))) (u := (u' : Int)) (by
    have e : pr (gG (s.1 (b + 2)) (mI s (b + 3))) (mF s b 3).toInt.toNat (u' + 1) = pr (gG (s.1 (b + 2)) (mI s (b + 3))) (mF s b 3).toInt.toNat u' + cn (gG (s.1 (b + 2)) (mI s (b + 3))) (u' : Int) (mF s b 3).toInt.toNat := rfl
    omega)
  have l2 := h2 p' u' (Nat.zero_le _) r1 (by omega) r2
  rw [r3, show (pr (gG (s.1 (b + 2)) (mI s (b + 3))) (mF s b 3).toInt.toNat u' + (i.toInt - pr (gG (s.1 (b + 2)) (mI s (b + 3))) (mF s b 3).toInt.toNat u')).toNat = i.toNatClampNeg by (show _ = i.toInt.toNat); omega, ← hp] at l2
  have ep : p.toNatClampNeg = p' := by
    show p.toInt.toNat = p'
    omega
  have hne : (s.1 (b + 2) p').toInt ≠ -1 := by
    intro c
    unfold gG at r2
    rw [if_neg (fun z => z.2 c)] at r2
    omega
  rw [hu, ep] at h31 ⊢
  exact ⟨by have := h31.1; omega, h31.2⟩
theorem sI_ne {p i : Nat} (h : Nat.beq p q = false) (e : z = s.1 p i) : z = (sI s q j x).1 p i := by
  show z = (if p = q then upd (s.1 q) j x else s.1 p) i
  rw [if_neg (Nat.ne_of_beq_eq_false h), e]
theorem sA_ne {p i : Nat} {g : Nat → Int32} (h : Nat.beq p q = false) (e : z = s.1 p i) : z = (sA s q g).1 p i := by
  show z = (if p = q then g else s.1 p) i
  rw [if_neg (Nat.ne_of_beq_eq_false h), e]
theorem sI_get : x = (sI s q j x).1 q j := by simp [sI, upd]
theorem sF_get : x = (sF s q j x).2.2.1 q j := by simp [sF]
theorem sF_ne {p i : Nat} (h : (Nat.beq p q && Nat.beq i j) = false) (e : z = s.2.2.1 p i) : z = (sF s q j x).2.2.1 p i := by
  show z = if p = q ∧ i = j then x else s.2.2.1 p i
  rw [if_neg, e]
  intro k
  rw [k.1, k.2, Nat.beq_refl, Nat.beq_refl] at h
  cases h
theorem sI_F {p k : Nat} (e : z = s.2.2.1 p k) : z = (sI s q j x).2.2.1 p k := e
theorem sL_F {p k : Nat} {x : Int64} (e : z = s.2.2.1 p k) : z = (sL s q j x).2.2.1 p k := e
theorem sG_F {p k : Nat} {x : Int64} (e : z = s.2.2.1 p k) : z = (sG s q j x).2.2.1 p k := e
theorem sF_I {p k : Nat} (e : z = s.1 p k) : z = (sF s q j x).1 p k := e
theorem sL_I {p k : Nat} {x : Int64} (e : z = s.1 p k) : z = (sL s q j x).1 p k := e
theorem sG_I {p k : Nat} {x : Int64} (e : z = s.1 p k) : z = (sG s q j x).1 p k := e
theorem in_c (c : Int) (h : decide (-2147483648 ≤ c ∧ c ≤ 2147483647) = true) : In (Int32.ofInt c) c c := by
  have h := of_decide_eq_true h
  have e : (Int32.ofInt c).toInt = c := Int32.toInt_ofInt_of_le (by omega) (by omega)
  exact ⟨by omega, by omega⟩
theorem t_add (hz : z = x + y) (hx : In x a b) (hy : In y c e) (h0 : decide (-2147483648 ≤ a + c ∧ b + e ≤ 2147483647) = true) : z.toInt = x.toInt + y.toInt := by
  have h0 := of_decide_eq_true h0
  obtain ⟨x1, x2⟩ := hx
  obtain ⟨y1, y2⟩ := hy
  rw [hz, Int32.toInt_add]
  exact Int.bmod_eq_of_le (by omega) (by omega)
theorem t_sub (hz : z = x - y) (hx : In x a b) (hy : In y c e) (h0 : decide (-2147483648 ≤ a - e ∧ b - c ≤ 2147483647) = true) : z.toInt = x.toInt - y.toInt := by
  have h0 := of_decide_eq_true h0
  obtain ⟨x1, x2⟩ := hx
  obtain ⟨y1, y2⟩ := hy
  rw [hz, Int32.toInt_sub]
  exact Int.bmod_eq_of_le (by omega) (by omega)
theorem in_add (lo hi : Int) (hz : z = x + y) (hx : In x a b) (hy : In y c e) (h0 : decide (-2147483648 ≤ a + c ∧ b + e ≤ 2147483647) = true) (h1 : decide (lo ≤ a + c ∧ b + e ≤ hi) = true) : In z lo hi := by
  have h := t_add hz hx hy h0
  have h1 := of_decide_eq_true h1
  obtain ⟨x1, x2⟩ := hx
  obtain ⟨y1, y2⟩ := hy
  exact ⟨by omega, by omega⟩
theorem in_sub (lo hi : Int) (hz : z = x - y) (hx : In x a b) (hy : In y c e) (h0 : decide (-2147483648 ≤ a - e ∧ b - c ≤ 2147483647) = true) (h1 : decide (lo ≤ a - e ∧ b - c ≤ hi) = true) : In z lo hi := by
  have h := t_sub hz hx hy h0
  have h1 := of_decide_eq_true h1
  obtain ⟨x1, x2⟩ := hx
  obtain ⟨y1, y2⟩ := hy
  exact ⟨by omega, by omega⟩
theorem in_and2 (hz : z = x &&& y) (hy : In y c e) (h0 : decide (0 ≤ c) = true) : In z 0 e := by
  have h0 := of_decide_eq_true h0
  obtain ⟨y1, y2⟩ := hy
  have hb : z.toBitVec = x.toBitVec &&& y.toBitVec := by rw [hz]; rfl
  have hl : z.toBitVec.toNat ≤ y.toBitVec.toNat := by rw [hb, BitVec.toNat_and]; exact Nat.and_le_right
  have ey : 2 * y.toBitVec.toNat < 2 ^ 32 := by
    have hy0 : 0 ≤ y.toBitVec.toInt := Int.le_trans h0 y1
    rw [BitVec.toInt_eq_toNat_cond] at hy0
    split at hy0
    · assumption
    · have := y.toBitVec.isLt
      omega
  have e1 : y.toInt = (y.toBitVec.toNat : Int) := BitVec.toInt_eq_toNat_of_lt ey
  have e2 : z.toInt = (z.toBitVec.toNat : Int) := BitVec.toInt_eq_toNat_of_lt (by omega)
  exact ⟨by omega, by omega⟩
theorem in_and1 (hz : z = x &&& y) (hx : In x c e) (h0 : decide (0 ≤ c) = true) : In z 0 e := in_and2 (x := y) (y := x) (by rw [hz, Int32.and_comm]) hx h0
theorem t_div {k : Int} (hz : z = x / Int32.ofInt k) (hx : In x a b) (h0 : decide (0 < k ∧ k ≤ 2147483647 ∧ 0 ≤ a) = true) : z.toInt = x.toInt / k := by
  have h0 := of_decide_eq_true h0
  obtain ⟨x1, x2⟩ := hx
  have e : (Int32.ofInt k).toInt = k := Int32.toInt_ofInt_of_le (by omega) (by omega)
  have hx0 : 0 ≤ x.toInt := by omega
  have hxm := Int32.toInt_lt x
  have q0 : 0 ≤ x.toInt / k := Int.ediv_nonneg hx0 (by omega)
  have q1 : x.toInt / k ≤ x.toInt := Int.ediv_le_self k hx0
  rw [hz, Int32.toInt_div, e, Int.tdiv_eq_ediv_of_nonneg hx0]
  exact Int.bmod_eq_of_le (by omega) (by omega)
theorem in_div (lo hi : Int) {k : Int} (hz : z = x / Int32.ofInt k) (hx : In x a b) (h0 : decide (0 < k ∧ k ≤ 2147483647 ∧ 0 ≤ a) = true) (h1 : decide (lo ≤ a / k ∧ b / k ≤ hi) = true) : In z lo hi := by
  have h := t_div hz hx h0
  have h0 := of_decide_eq_true h0
  have h1 := of_decide_eq_true h1
  obtain ⟨x1, x2⟩ := hx
  have m1 : a / k ≤ x.toInt / k := Int.ediv_le_ediv h0.1 x1
  have m2 : x.toInt / k ≤ b / k := Int.ediv_le_ediv h0.1 x2
  exact ⟨by omega, by omega⟩
theorem in_rem (hi : Int) {k : Int} (hz : z = x - x / Int32.ofInt k * Int32.ofInt k) (hx : In x a b) (h0 : decide (0 < k ∧ k ≤ 2147483647 ∧ 0 ≤ a) = true) (h1 : decide (k - 1 ≤ hi) = true) : In z 0 hi := by
  have h := t_div (z := x / Int32.ofInt k) rfl hx h0
  have h0 := of_decide_eq_true h0
  have h1 := of_decide_eq_true h1
  obtain ⟨x1, x2⟩ := hx
  have e : (Int32.ofInt k).toInt = k := Int32.toInt_ofInt_of_le (by omega) (by omega)
  have hxm := Int32.toInt_lt x
  have r0 := Int.emod_nonneg x.toInt (show k ≠ 0 by omega)
  have r1 := Int.emod_lt_of_pos x.toInt h0.1
  have rd := Int.mul_ediv_add_emod x.toInt k
  have e1 : (x / Int32.ofInt k * Int32.ofInt k).toInt = k * (x.toInt / k) := by
    rw [Int32.toInt_mul, h, e, Int.mul_comm]
    exact Int.bmod_eq_of_le (by omega) (by omega)
  have e2 : z.toInt = x.toInt - k * (x.toInt / k) := by
    rw [hz, Int32.toInt_sub, e1]
    exact Int.bmod_eq_of_le (by omega) (by omega)
  exact ⟨by omega, by omega⟩
theorem dv_nz (hy : In y c e) (h0 : decide (1 ≤ c) = true) : ¬ y = 0 := by
  have h0 := of_decide_eq_true h0
  intro q
  rw [q] at hy
  have h1 := hy.1
  have e0 : (0 : Int32).toInt = 0 := rfl
  omega
theorem t_divv (hz : z = x / y) (hx : In x a b) (hy : In y c e) (h0 : decide (1 ≤ c ∧ 0 ≤ a) = true) : z.toInt = x.toInt / y.toInt := by
  have h0 := of_decide_eq_true h0
  obtain ⟨x1, x2⟩ := hx
  obtain ⟨y1, y2⟩ := hy
  have hx0 : 0 ≤ x.toInt := by omega
  have hxm := Int32.toInt_lt x
  have q0 : 0 ≤ x.toInt / y.toInt := Int.ediv_nonneg hx0 (by omega)
  have q1 : x.toInt / y.toInt ≤ x.toInt := Int.ediv_le_self _ hx0
  rw [hz, Int32.toInt_div, Int.tdiv_eq_ediv_of_nonneg hx0]
  exact Int.bmod_eq_of_le (by omega) (by omega)
theorem in_divv (hz : z = x / y) (hx : In x a b) (hy : In y c e) (h0 : decide (1 ≤ c ∧ 0 ≤ a) = true) : In z 0 b := by
  have h := t_divv hz hx hy h0
  have h0 := of_decide_eq_true h0
  obtain ⟨x1, x2⟩ := hx
  obtain ⟨y1, y2⟩ := hy
  have q0 : 0 ≤ x.toInt / y.toInt := Int.ediv_nonneg (by omega) (by omega)
  have q1 : x.toInt / y.toInt ≤ x.toInt := Int.ediv_le_self _ (by omega)
  exact ⟨by omega, by omega⟩
theorem in_remv (hi : Int) (hz : z = x - x / y * y) (hx : In x a b) (hy : In y c e) (h0 : decide (1 ≤ c ∧ 0 ≤ a ∧ e - 1 ≤ hi) = true) : In z 0 hi := by
  have h0 := of_decide_eq_true h0
  have h := t_divv (z := x / y) rfl hx hy (decide_eq_true ⟨h0.1, h0.2.1⟩)
  obtain ⟨x1, x2⟩ := hx
  obtain ⟨y1, y2⟩ := hy
  have hxm := Int32.toInt_lt x
  have r0 := Int.emod_nonneg x.toInt (show y.toInt ≠ 0 by omega)
  have r1 := Int.emod_lt_of_pos x.toInt (show 0 < y.toInt by omega)
  have rd := Int.mul_ediv_add_emod x.toInt y.toInt
  have q0 : 0 ≤ y.toInt * (x.toInt / y.toInt) := Int.mul_nonneg (by omega) (Int.ediv_nonneg (by omega) (by omega))
  have e1 : (x / y * y).toInt = y.toInt * (x.toInt / y.toInt) := by
    rw [Int32.toInt_mul, h, Int.mul_comm]
    exact Int.bmod_eq_of_le (by omega) (by omega)
  have e2 : z.toInt = x.toInt - y.toInt * (x.toInt / y.toInt) := by
    rw [hz, Int32.toInt_sub, e1]
    exact Int.bmod_eq_of_le (by omega) (by omega)
  exact ⟨by omega, by omega⟩
/-- times a constant that isn't below 0, on the left or on the right -/
theorem t_mulc (k : Int) (hz : z = Int32.ofInt k * x ∨ z = x * Int32.ofInt k) (hx : In x a b) (h0 : decide (0 ≤ k ∧ k ≤ 2147483647 ∧ -2147483648 ≤ k * a ∧ k * b ≤ 2147483647) = true) : z.toInt = k * x.toInt ∧ k * a ≤ z.toInt ∧ z.toInt ≤ k * b := by
  have h0 := of_decide_eq_true h0
  obtain ⟨x1, x2⟩ := hx
  have e : (Int32.ofInt k).toInt = k := Int32.toInt_ofInt_of_le (by omega) (by omega)
  have m1 : k * a ≤ k * x.toInt := Int.mul_le_mul_of_nonneg_left x1 h0.1
  have m2 : k * x.toInt ≤ k * b := Int.mul_le_mul_of_nonneg_left x2 h0.1
  have g : z.toInt = k * x.toInt := by
    rcases hz with hz | hz
    · rw [hz, Int32.toInt_mul, e]
      exact Int.bmod_eq_of_le (by omega) (by omega)
    · rw [hz, Int32.toInt_mul, e, Int.mul_comm]
      exact Int.bmod_eq_of_le (by omega) (by omega)
  exact ⟨g, by omega, by omega⟩
theorem in_mulc (k lo hi : Int) (hz : z = Int32.ofInt k * x ∨ z = x * Int32.ofInt k) (hx : In x a b) (h0 : decide (0 ≤ k ∧ k ≤ 2147483647 ∧ -2147483648 ≤ k * a ∧ k * b ≤ 2147483647) = true) (h1 : decide (lo ≤ k * a ∧ k * b ≤ hi) = true) : In z lo hi := by
  have h := t_mulc k hz hx h0
  have h1 := of_decide_eq_true h1
  exact ⟨by omega, by omega⟩

theorem r_lt1 (lo hi : Int) (h : x.toInt < y.toInt) (hx : In x a b) (hy : In y c e) (h0 : decide (lo ≤ a ∧ (b ≤ hi ∨ e - 1 ≤ hi)) = true) : In x lo hi := by
  have h0 := of_decide_eq_true h0
  obtain ⟨x1, x2⟩ := hx
  obtain ⟨y1, y2⟩ := hy
  first | exact ⟨by omega, by omega⟩ | omega
theorem r_lt2 (lo hi : Int) (h : x.toInt < y.toInt) (hx : In x a b) (hy : In y c e) (h0 : decide ((lo ≤ c ∨ lo ≤ a + 1) ∧ e ≤ hi) = true) : In y lo hi := by
  have h0 := of_decide_eq_true h0
  obtain ⟨x1, x2⟩ := hx
  obtain ⟨y1, y2⟩ := hy
  first | exact ⟨by omega, by omega⟩ | omega
theorem r_le1 (lo hi : Int) (h : x.toInt ≤ y.toInt) (hx : In x a b) (hy : In y c e) (h0 : decide (lo ≤ a ∧ (b ≤ hi ∨ e ≤ hi)) = true) : In x lo hi := by
  have h0 := of_decide_eq_true h0
  obtain ⟨x1, x2⟩ := hx
  obtain ⟨y1, y2⟩ := hy
  first | exact ⟨by omega, by omega⟩ | omega
theorem r_le2 (lo hi : Int) (h : x.toInt ≤ y.toInt) (hx : In x a b) (hy : In y c e) (h0 : decide ((lo ≤ c ∨ lo ≤ a) ∧ e ≤ hi) = true) : In y lo hi := by
  have h0 := of_decide_eq_true h0
  obtain ⟨x1, x2⟩ := hx
  obtain ⟨y1, y2⟩ := hy
  first | exact ⟨by omega, by omega⟩ | omega
theorem r_eq1 (lo hi : Int) (h : x.toInt = y.toInt) (hx : In x a b) (hy : In y c e) (h0 : decide ((lo ≤ a ∨ lo ≤ c) ∧ (b ≤ hi ∨ e ≤ hi)) = true) : In x lo hi := by
  have h0 := of_decide_eq_true h0
  obtain ⟨x1, x2⟩ := hx
  obtain ⟨y1, y2⟩ := hy
  first | exact ⟨by omega, by omega⟩ | omega
theorem r_eq2 (lo hi : Int) (h : x.toInt = y.toInt) (hx : In x a b) (hy : In y c e) (h0 : decide ((lo ≤ a ∨ lo ≤ c) ∧ (b ≤ hi ∨ e ≤ hi)) = true) : In y lo hi := by
  have h0 := of_decide_eq_true h0
  obtain ⟨x1, x2⟩ := hx
  obtain ⟨y1, y2⟩ := hy
  first | exact ⟨by omega, by omega⟩ | omega
theorem r_ne1 (lo hi : Int) (h : x.toInt ≠ y.toInt) (hx : In x a b) (hy : In y c e) (h0 : decide (c = e ∧ (lo ≤ a ∨ (a = c ∧ lo ≤ a + 1)) ∧ (b ≤ hi ∨ (b = c ∧ b - 1 ≤ hi))) = true) : In x lo hi := by
  have h0 := of_decide_eq_true h0
  obtain ⟨x1, x2⟩ := hx
  obtain ⟨y1, y2⟩ := hy
  first | exact ⟨by omega, by omega⟩ | omega
theorem n_lt {p : Prop} (h : x.toInt < y.toInt) (hx : In x a b) (hy : In y c e) (h0 : decide (e ≤ a) = true) : p := by
  have h0 := of_decide_eq_true h0
  obtain ⟨x1, x2⟩ := hx
  obtain ⟨y1, y2⟩ := hy
  first | exact ⟨by omega, by omega⟩ | omega
theorem n_le {p : Prop} (h : x.toInt ≤ y.toInt) (hx : In x a b) (hy : In y c e) (h0 : decide (e < a) = true) : p := by
  have h0 := of_decide_eq_true h0
  obtain ⟨x1, x2⟩ := hx
  obtain ⟨y1, y2⟩ := hy
  first | exact ⟨by omega, by omega⟩ | omega
theorem n_eq {p : Prop} (h : x.toInt = y.toInt) (hx : In x a b) (hy : In y c e) (h0 : decide (b < c ∨ e < a) = true) : p := by
  have h0 := of_decide_eq_true h0
  obtain ⟨x1, x2⟩ := hx
  obtain ⟨y1, y2⟩ := hy
  first | exact ⟨by omega, by omega⟩ | omega
theorem n_ne {p : Prop} (h : x.toInt ≠ y.toInt) (hx : In x a b) (hy : In y c e) (h0 : decide (a = b ∧ c = e ∧ a = c) = true) : p := by
  have h0 := of_decide_eq_true h0
  obtain ⟨x1, x2⟩ := hx
  obtain ⟨y1, y2⟩ := hy
  first | exact ⟨by omega, by omega⟩ | omega
theorem lr_lt1 {x y : Int64} (lo hi : Int) (h : x.toInt < y.toInt) (hx : InL x a b) (hy : InL y c e) (h0 : decide (lo ≤ a ∧ (b ≤ hi ∨ e - 1 ≤ hi)) = true) : InL x lo hi := by
  have h0 := of_decide_eq_true h0
  obtain ⟨x1, x2⟩ := hx
  obtain ⟨y1, y2⟩ := hy
  first | exact ⟨by omega, by omega⟩ | omega
theorem lr_lt2 {x y : Int64} (lo hi : Int) (h : x.toInt < y.toInt) (hx : InL x a b) (hy : InL y c e) (h0 : decide ((lo ≤ c ∨ lo ≤ a + 1) ∧ e ≤ hi) = true) : InL y lo hi := by
  have h0 := of_decide_eq_true h0
  obtain ⟨x1, x2⟩ := hx
  obtain ⟨y1, y2⟩ := hy
  first | exact ⟨by omega, by omega⟩ | omega
theorem lr_le1 {x y : Int64} (lo hi : Int) (h : x.toInt ≤ y.toInt) (hx : InL x a b) (hy : InL y c e) (h0 : decide (lo ≤ a ∧ (b ≤ hi ∨ e ≤ hi)) = true) : InL x lo hi := by
  have h0 := of_decide_eq_true h0
  obtain ⟨x1, x2⟩ := hx
  obtain ⟨y1, y2⟩ := hy
  first | exact ⟨by omega, by omega⟩ | omega
theorem lr_le2 {x y : Int64} (lo hi : Int) (h : x.toInt ≤ y.toInt) (hx : InL x a b) (hy : InL y c e) (h0 : decide ((lo ≤ c ∨ lo ≤ a) ∧ e ≤ hi) = true) : InL y lo hi := by
  have h0 := of_decide_eq_true h0
  obtain ⟨x1, x2⟩ := hx
  obtain ⟨y1, y2⟩ := hy
  first | exact ⟨by omega, by omega⟩ | omega
theorem lr_eq1 {x y : Int64} (lo hi : Int) (h : x.toInt = y.toInt) (hx : InL x a b) (hy : InL y c e) (h0 : decide ((lo ≤ a ∨ lo ≤ c) ∧ (b ≤ hi ∨ e ≤ hi)) = true) : InL x lo hi := by
  have h0 := of_decide_eq_true h0
  obtain ⟨x1, x2⟩ := hx
  obtain ⟨y1, y2⟩ := hy
  first | exact ⟨by omega, by omega⟩ | omega
theorem lr_eq2 {x y : Int64} (lo hi : Int) (h : x.toInt = y.toInt) (hx : InL x a b) (hy : InL y c e) (h0 : decide ((lo ≤ a ∨ lo ≤ c) ∧ (b ≤ hi ∨ e ≤ hi)) = true) : InL y lo hi := by
  have h0 := of_decide_eq_true h0
  obtain ⟨x1, x2⟩ := hx
  obtain ⟨y1, y2⟩ := hy
  first | exact ⟨by omega, by omega⟩ | omega
theorem lr_ne1 {x y : Int64} (lo hi : Int) (h : x.toInt ≠ y.toInt) (hx : InL x a b) (hy : InL y c e) (h0 : decide (c = e ∧ (lo ≤ a ∨ (a = c ∧ lo ≤ a + 1)) ∧ (b ≤ hi ∨ (b = c ∧ b - 1 ≤ hi))) = true) : InL x lo hi := by
  have h0 := of_decide_eq_true h0
  obtain ⟨x1, x2⟩ := hx
  obtain ⟨y1, y2⟩ := hy
  first | exact ⟨by omega, by omega⟩ | omega
theorem ln_lt {x y : Int64} {p : Prop} (h : x.toInt < y.toInt) (hx : InL x a b) (hy : InL y c e) (h0 : decide (e ≤ a) = true) : p := by
  have h0 := of_decide_eq_true h0
  obtain ⟨x1, x2⟩ := hx
  obtain ⟨y1, y2⟩ := hy
  first | exact ⟨by omega, by omega⟩ | omega
theorem ln_le {x y : Int64} {p : Prop} (h : x.toInt ≤ y.toInt) (hx : InL x a b) (hy : InL y c e) (h0 : decide (e < a) = true) : p := by
  have h0 := of_decide_eq_true h0
  obtain ⟨x1, x2⟩ := hx
  obtain ⟨y1, y2⟩ := hy
  first | exact ⟨by omega, by omega⟩ | omega
theorem ln_eq {x y : Int64} {p : Prop} (h : x.toInt = y.toInt) (hx : InL x a b) (hy : InL y c e) (h0 : decide (b < c ∨ e < a) = true) : p := by
  have h0 := of_decide_eq_true h0
  obtain ⟨x1, x2⟩ := hx
  obtain ⟨y1, y2⟩ := hy
  first | exact ⟨by omega, by omega⟩ | omega
theorem ln_ne {x y : Int64} {p : Prop} (h : x.toInt ≠ y.toInt) (hx : InL x a b) (hy : InL y c e) (h0 : decide (a = b ∧ c = e ∧ a = c) = true) : p := by
  have h0 := of_decide_eq_true h0
  obtain ⟨x1, x2⟩ := hx
  obtain ⟨y1, y2⟩ := hy
  first | exact ⟨by omega, by omega⟩ | omega
theorem z_lt (lo hi : Int) (h : x.toInt < 0) (hx : In x a b) (h0 : decide (lo ≤ a ∧ (b ≤ hi ∨ -1 ≤ hi)) = true) : In x lo hi := by
  have h0 := of_decide_eq_true h0
  obtain ⟨x1, x2⟩ := hx
  first | exact ⟨by omega, by omega⟩ | omega
theorem zn_lt {p : Prop} (h : x.toInt < 0) (hx : In x a b) (h0 : decide (0 ≤ a) = true) : p := by
  have h0 := of_decide_eq_true h0
  obtain ⟨x1, x2⟩ := hx
  first | exact ⟨by omega, by omega⟩ | omega
theorem z_ge (lo hi : Int) (h : 0 ≤ x.toInt) (hx : In x a b) (h0 : decide ((lo ≤ a ∨ lo ≤ 0) ∧ b ≤ hi) = true) : In x lo hi := by
  have h0 := of_decide_eq_true h0
  obtain ⟨x1, x2⟩ := hx
  first | exact ⟨by omega, by omega⟩ | omega
theorem zn_ge {p : Prop} (h : 0 ≤ x.toInt) (hx : In x a b) (h0 : decide (b < 0) = true) : p := by
  have h0 := of_decide_eq_true h0
  obtain ⟨x1, x2⟩ := hx
  first | exact ⟨by omega, by omega⟩ | omega
theorem z_gt (lo hi : Int) (h : 0 < x.toInt) (hx : In x a b) (h0 : decide ((lo ≤ a ∨ lo ≤ 1) ∧ b ≤ hi) = true) : In x lo hi := by
  have h0 := of_decide_eq_true h0
  obtain ⟨x1, x2⟩ := hx
  first | exact ⟨by omega, by omega⟩ | omega
theorem zn_gt {p : Prop} (h : 0 < x.toInt) (hx : In x a b) (h0 : decide (b ≤ 0) = true) : p := by
  have h0 := of_decide_eq_true h0
  obtain ⟨x1, x2⟩ := hx
  first | exact ⟨by omega, by omega⟩ | omega
theorem z_le (lo hi : Int) (h : x.toInt ≤ 0) (hx : In x a b) (h0 : decide (lo ≤ a ∧ (b ≤ hi ∨ 0 ≤ hi)) = true) : In x lo hi := by
  have h0 := of_decide_eq_true h0
  obtain ⟨x1, x2⟩ := hx
  first | exact ⟨by omega, by omega⟩ | omega
theorem zn_le {p : Prop} (h : x.toInt ≤ 0) (hx : In x a b) (h0 : decide (0 < a) = true) : p := by
  have h0 := of_decide_eq_true h0
  obtain ⟨x1, x2⟩ := hx
  first | exact ⟨by omega, by omega⟩ | omega
theorem z_eq (lo hi : Int) (h : x.toInt = 0) (hx : In x a b) (h0 : decide ((lo ≤ a ∨ lo ≤ 0) ∧ (b ≤ hi ∨ 0 ≤ hi)) = true) : In x lo hi := by
  have h0 := of_decide_eq_true h0
  obtain ⟨x1, x2⟩ := hx
  first | exact ⟨by omega, by omega⟩ | omega
theorem zn_eq {p : Prop} (h : x.toInt = 0) (hx : In x a b) (h0 : decide (b < 0 ∨ 0 < a) = true) : p := by
  have h0 := of_decide_eq_true h0
  obtain ⟨x1, x2⟩ := hx
  first | exact ⟨by omega, by omega⟩ | omega
theorem z_ne (lo hi : Int) (h : x.toInt ≠ 0) (hx : In x a b) (h0 : decide ((lo ≤ a ∨ (a = 0 ∧ lo ≤ 1)) ∧ (b ≤ hi ∨ (b = 0 ∧ -1 ≤ hi))) = true) : In x lo hi := by
  have h0 := of_decide_eq_true h0
  obtain ⟨x1, x2⟩ := hx
  first | exact ⟨by omega, by omega⟩ | omega
theorem zn_ne {p : Prop} (h : x.toInt ≠ 0) (hx : In x a b) (h0 : decide (a = 0 ∧ b = 0) = true) : p := by
  have h0 := of_decide_eq_true h0
  obtain ⟨x1, x2⟩ := hx
  first | exact ⟨by omega, by omega⟩ | omega
theorem u_i2l {k : Int64} (hk : k = x.toInt64) : k.toInt = x.toInt := by rw [hk]; exact Int32.toInt_toInt64 x
theorem l_i {k : Int64} (hk : k = x.toInt64) (hx : In x a b) : InL k a b := by
  unfold InL
  rw [u_i2l hk]
  exact hx
theorem l_b {k : Int64} (hk : k = x.toInt64) (h : InL k a b) : In x a b := by
  unfold InL at h
  rw [u_i2l hk] at h
  exact h
theorem lw {k : Int64} (c e : Int) (h : InL k a b) (h0 : decide (c ≤ a ∧ b ≤ e) = true) : InL k c e := by
  have h0 := of_decide_eq_true h0
  exact ⟨Int.le_trans h0.1 h.1, Int.le_trans h.2 h0.2⟩
theorem l_c (c : Int) (h : decide (-9223372036854775808 ≤ c ∧ c ≤ 9223372036854775807) = true) : InL (Int64.ofInt c) c c := by
  have h := of_decide_eq_true h
  have e : (Int64.ofInt c).toInt = c := Int64.toInt_ofInt_of_le (by omega) (by omega)
  exact ⟨by omega, by omega⟩
theorem lc_in {k l : Int64} (hz : z = lg_cmp k l) : In z (-1) 1 := by
  rcases lg_cmp_cases k l with ⟨-, g⟩ | ⟨-, g⟩ | ⟨-, g⟩ <;> rw [hz, g] <;> exact ⟨by decide, by decide⟩
theorem lc_lt {k l : Int64} (hz : z = lg_cmp k l) (h : z.toInt < 0) : k.toInt < l.toInt := by
  rcases lg_cmp_cases k l with ⟨g, _⟩ | ⟨_, g⟩ | ⟨_, g⟩
  · exact g
  · rw [hz, g] at h; exact absurd h (by decide)
  · rw [hz, g] at h; exact absurd h (by decide)
theorem lc_ge {k l : Int64} (hz : z = lg_cmp k l) (h : 0 ≤ z.toInt) : l.toInt ≤ k.toInt := by
  rcases lg_cmp_cases k l with ⟨_, g⟩ | ⟨g, _⟩ | ⟨g, _⟩
  · rw [hz, g] at h; exact absurd h (by decide)
  · exact Int.le_of_eq g.symm
  · exact Int.le_of_lt g
theorem lc_gt {k l : Int64} (hz : z = lg_cmp k l) (h : 0 < z.toInt) : l.toInt < k.toInt := by
  rcases lg_cmp_cases k l with ⟨_, g⟩ | ⟨_, g⟩ | ⟨g, _⟩
  · rw [hz, g] at h; exact absurd h (by decide)
  · rw [hz, g] at h; exact absurd h (by decide)
  · exact g
theorem lc_le {k l : Int64} (hz : z = lg_cmp k l) (h : z.toInt ≤ 0) : k.toInt ≤ l.toInt := by
  rcases lg_cmp_cases k l with ⟨g, _⟩ | ⟨g, _⟩ | ⟨_, g⟩
  · exact Int.le_of_lt g
  · exact Int.le_of_eq g
  · rw [hz, g] at h; exact absurd h (by decide)
theorem lc_eq {k l : Int64} (hz : z = lg_cmp k l) (h : z.toInt = 0) : k.toInt = l.toInt := by
  rcases lg_cmp_cases k l with ⟨_, g⟩ | ⟨g, _⟩ | ⟨_, g⟩
  · rw [hz, g] at h; exact absurd h (by decide)
  · exact g
  · rw [hz, g] at h; exact absurd h (by decide)
theorem lc_ne {k l : Int64} (hz : z = lg_cmp k l) (h : z.toInt ≠ 0) : k.toInt ≠ l.toInt := by
  rcases lg_cmp_cases k l with ⟨g, _⟩ | ⟨_, g⟩ | ⟨g, _⟩
  · omega
  · rw [hz, g] at h; exact absurd rfl h
  · omega
theorem nb01 (h : In x 0 1) : narrow .boolean (.int x) = .int x := by
  obtain ⟨h1, h2⟩ := h
  have e : x = 0 ∨ x = 1 := by
    rcases (by omega : x.toInt = 0 ∨ x.toInt = 1) with g | g
    · exact Or.inl (Int32.toInt_inj.mp g)
    · exact Or.inr (Int32.toInt_inj.mp g)
  rcases e with e | e <;> rw [e] <;> rfl
theorem in01 (h : In x 0 1) : x = 0 ∨ x = 1 := by
  obtain ⟨h1, h2⟩ := h
  rcases (by omega : x.toInt = 0 ∨ x.toInt = 1) with g | g
  · exact Or.inl (Int32.toInt_inj.mp g)
  · exact Or.inr (Int32.toInt_inj.mp g)
theorem nar01 (h : In x 0 1) : In (vp_nar .boolean x) 0 1 := by
  rcases in01 h with e | e <;> rw [e] <;> exact ⟨by decide, by decide⟩
theorem sw_eq {v : Int} (h : x.toInt = v) : In x v v := ⟨Int.le_of_eq h.symm, Int.le_of_eq h⟩
theorem sw_ne {v : Int} {p : Prop} (h : x.toInt = v) (hx : In x a b) (h0 : decide (v < a ∨ b < v) = true) : p := by
  have h0 := of_decide_eq_true h0
  obtain ⟨x1, x2⟩ := hx
  omega
theorem sw_no {v u : Int} {p : Prop} (h : x.toInt < v ∨ u < x.toInt) (hx : In x a b) (h0 : decide (v ≤ a ∧ b ≤ u) = true) : p := by
  have h0 := of_decide_eq_true h0
  obtain ⟨x1, x2⟩ := hx
  omega
theorem cp_0 (hx : In x a b) (h0 : decide (0 ≤ a) = true) : 0 ≤ x.toInt := Int.le_trans (of_decide_eq_true h0) hx.1
theorem cp_1 {n : Nat} (hx : In x a b) (hy : In y c e) (h0 : decide (b + e ≤ (n : Int)) = true) : x.toInt + y.toInt ≤ (n : Int) := by
  have h0 := of_decide_eq_true h0
  obtain ⟨x1, x2⟩ := hx
  obtain ⟨y1, y2⟩ := hy
  omega
theorem cp_2 {n : Nat} (hx : In x a b) (hy : In y c e) (h0 : decide (0 ≤ a ∧ 0 ≤ c ∧ b + e ≤ (n : Int)) = true) : x.toNatClampNeg + y.toNatClampNeg ≤ n := by
  have h0 := of_decide_eq_true h0
  obtain ⟨x1, x2⟩ := hx
  obtain ⟨y1, y2⟩ := hy
  show x.toInt.toNat + y.toInt.toNat ≤ n
  omega
theorem in_or (k : Nat) (hz : z = x ||| y) (hx : In x 0 (2 ^ k - 1)) (hy : In y 0 (2 ^ k - 1)) (h0 : decide (k < 31) = true) : In z 0 (2 ^ k - 1) := by
  have h0 := of_decide_eq_true h0
  have key : ∀ w : Int32, In w 0 (2 ^ k - 1) → w.toBitVec.toNat < 2 ^ k := by
    intro w hw
    obtain ⟨w1, w2⟩ := hw
    have w1 : 0 ≤ w.toBitVec.toInt := w1
    have w2 : w.toBitVec.toInt ≤ 2 ^ k - 1 := w2
    have hl : 2 * w.toBitVec.toNat < 2 ^ 32 := by
      rw [BitVec.toInt_eq_toNat_cond] at w1
      split at w1
      · assumption
      · have := w.toBitVec.isLt
        omega
    rw [BitVec.toInt_eq_toNat_of_lt hl] at w2
    have : ((2 ^ k : Nat) : Int) = 2 ^ k := by norm_cast
    omega
  have hb : z.toBitVec.toNat = x.toBitVec.toNat ||| y.toBitVec.toNat := by rw [hz]; rfl
  have hlt : z.toBitVec.toNat < 2 ^ k := by rw [hb]; exact Nat.or_lt_two_pow (key x hx) (key y hy)
  have hk : 2 ^ k ≤ 2 ^ 30 := Nat.pow_le_pow_right (by decide) (by omega)
  have e2 : z.toInt = (z.toBitVec.toNat : Int) := BitVec.toInt_eq_toNat_of_lt (by omega)
  have : ((2 ^ k : Nat) : Int) = 2 ^ k := by norm_cast
  exact ⟨by omega, by omega⟩
theorem inl_or {z x y : Int64} (k : Nat) (hz : z = x ||| y) (hx : InL x 0 (2 ^ k - 1)) (hy : InL y 0 (2 ^ k - 1)) (h0 : decide (k < 63) = true) : InL z 0 (2 ^ k - 1) := by
  have h0 := of_decide_eq_true h0
  have key : ∀ w : Int64, InL w 0 (2 ^ k - 1) → w.toBitVec.toNat < 2 ^ k := by
    intro w hw
    obtain ⟨w1, w2⟩ := hw
    have w1 : 0 ≤ w.toBitVec.toInt := w1
    have w2 : w.toBitVec.toInt ≤ 2 ^ k - 1 := w2
    have hl : 2 * w.toBitVec.toNat < 2 ^ 64 := by
      rw [BitVec.toInt_eq_toNat_cond] at w1
      split at w1
      · assumption
      · have := w.toBitVec.isLt
        omega
    rw [BitVec.toInt_eq_toNat_of_lt hl] at w2
    have : ((2 ^ k : Nat) : Int) = 2 ^ k := by norm_cast
    omega
  have hb : z.toBitVec.toNat = x.toBitVec.toNat ||| y.toBitVec.toNat := by rw [hz]; rfl
  have hlt : z.toBitVec.toNat < 2 ^ k := by rw [hb]; exact Nat.or_lt_two_pow (key x hx) (key y hy)
  have hk : 2 ^ k ≤ 2 ^ 62 := Nat.pow_le_pow_right (by decide) (by omega)
  have e2 : z.toInt = (z.toBitVec.toNat : Int) := BitVec.toInt_eq_toNat_of_lt (by omega)
  have : ((2 ^ k : Nat) : Int) = 2 ^ k := by norm_cast
  exact ⟨by omega, by omega⟩
theorem inl_and2 {z x y : Int64} (hz : z = x &&& y) (hy : InL y c e) (h0 : decide (0 ≤ c) = true) : InL z 0 e := by
  have h0 := of_decide_eq_true h0
  obtain ⟨y1, y2⟩ := hy
  have hb : z.toBitVec = x.toBitVec &&& y.toBitVec := by rw [hz]; rfl
  have hl : z.toBitVec.toNat ≤ y.toBitVec.toNat := by rw [hb, BitVec.toNat_and]; exact Nat.and_le_right
  have ey : 2 * y.toBitVec.toNat < 2 ^ 64 := by
    have hy0 : 0 ≤ y.toBitVec.toInt := Int.le_trans h0 y1
    rw [BitVec.toInt_eq_toNat_cond] at hy0
    split at hy0
    · assumption
    · have := y.toBitVec.isLt
      omega
  have e1 : y.toInt = (y.toBitVec.toNat : Int) := BitVec.toInt_eq_toNat_of_lt ey
  have e2 : z.toInt = (z.toBitVec.toNat : Int) := BitVec.toInt_eq_toNat_of_lt (by omega)
  exact ⟨by omega, by omega⟩
theorem inl_and1 {z x y : Int64} (hz : z = x &&& y) (hx : InL x c e) (h0 : decide (0 ≤ c) = true) : InL z 0 e := inl_and2 (x := y) (y := x) (by rw [hz, Int64.and_comm]) hx h0
theorem in_shr (hz : z = x >>> (y &&& 31)) (hx : In x 0 b) : In z 0 b := by
  obtain ⟨x1, x2⟩ := hx
  have hy : 2 * x.toBitVec.toNat < 2 ^ 32 := by
    have hy0 : 0 ≤ x.toBitVec.toInt := x1
    rw [BitVec.toInt_eq_toNat_cond] at hy0
    split at hy0
    · assumption
    · have := x.toBitVec.isLt
      omega
  have e0 : x.toInt = (x.toBitVec.toNat : Int) := BitVec.toInt_eq_toNat_of_lt hy
  have hm : x.toBitVec.msb = false := by
    rw [BitVec.msb_eq_decide]
    simp
    omega
  have hz2 : z.toBitVec = x.toBitVec.sshiftRight' ((y &&& 31).toBitVec.smod 32#32) := by rw [hz]; rfl
  have hz3 : z.toBitVec.toNat ≤ x.toBitVec.toNat := by
    rw [hz2, BitVec.sshiftRight_eq', BitVec.sshiftRight_eq_of_msb_false hm, BitVec.toNat_ushiftRight]
    exact Nat.shiftRight_le _ _
  have e2 : z.toInt = (z.toBitVec.toNat : Int) := BitVec.toInt_eq_toNat_of_lt (by omega)
  exact ⟨by omega, by omega⟩
theorem and_c (x y : Int32) : x &&& y = y &&& x := Int32.and_comm x y
theorem and_cl (x y : Int64) : x &&& y = y &&& x := Int64.and_comm x y
theorem l_add {x y z : Int64} (lo hi : Int) (hz : z = x + y) (hx : InL x a b) (hy : InL y c e) (h0 : decide (-9223372036854775808 ≤ a + c ∧ b + e ≤ 9223372036854775807 ∧ lo ≤ a + c ∧ b + e ≤ hi) = true) : InL z lo hi := by
  have h0 := of_decide_eq_true h0
  obtain ⟨x1, x2⟩ := hx
  obtain ⟨y1, y2⟩ := hy
  have g : z.toInt = x.toInt + y.toInt := by
    rw [hz, Int64.toInt_add]
    exact Int.bmod_eq_of_le (by omega) (by omega)
  exact ⟨by omega, by omega⟩
theorem l_sub {x y z : Int64} (lo hi : Int) (hz : z = x - y) (hx : InL x a b) (hy : InL y c e) (h0 : decide (-9223372036854775808 ≤ a - e ∧ b - c ≤ 9223372036854775807 ∧ lo ≤ a - e ∧ b - c ≤ hi) = true) : InL z lo hi := by
  have h0 := of_decide_eq_true h0
  obtain ⟨x1, x2⟩ := hx
  obtain ⟨y1, y2⟩ := hy
  have g : z.toInt = x.toInt - y.toInt := by
    rw [hz, Int64.toInt_sub]
    exact Int.bmod_eq_of_le (by omega) (by omega)
  exact ⟨by omega, by omega⟩
theorem l_rem {x z : Int64} {k : Int} (lo hi : Int) (hz : z = x - x / Int64.ofInt k * Int64.ofInt k) (h0 : decide (1 ≤ k ∧ k ≤ 9223372036854775807 ∧ lo ≤ -(k - 1) ∧ k - 1 ≤ hi) = true) : InL z lo hi := by
  have h0 := of_decide_eq_true h0
  have hk : (Int64.ofInt k).toInt = k := Int64.toInt_ofInt_of_le (by omega) (by omega)
  have x1 := Int64.le_toInt x
  have x2 := Int64.toInt_lt x
  have d1 : (x / Int64.ofInt k).toInt = x.toInt.tdiv k := by
    rw [Int64.toInt_div, hk]
    by_cases hk1 : k = 1
    · rw [hk1, Int.tdiv_one]
      exact Int.bmod_eq_of_le (by omega) (by omega)
    · have a1 : (x.toInt.tdiv k).natAbs = x.toInt.natAbs / k.natAbs := Int.natAbs_tdiv x.toInt k
      have a2 : x.toInt.natAbs / k.natAbs ≤ x.toInt.natAbs / 2 := Nat.div_le_div_left (by omega) (by decide)
      exact Int.bmod_eq_of_le (by omega) (by omega)
  have m1 := Int.mul_tdiv_add_tmod x.toInt k
  have t1 : -(k - 1) ≤ x.toInt.tmod k ∧ x.toInt.tmod k ≤ k - 1 := by
    have b1 := Int.natAbs_tmod x.toInt k
    have b2 : x.toInt.natAbs % k.natAbs < k.natAbs := Nat.mod_lt _ (by omega)
    omega
  have d2 : (x / Int64.ofInt k * Int64.ofInt k).toInt = k * x.toInt.tdiv k := by
    rw [Int64.toInt_mul, d1, hk, Int.mul_comm]
    have b3 := Int.natAbs_tmod x.toInt k
    have b4 : x.toInt.natAbs % k.natAbs ≤ x.toInt.natAbs := Nat.mod_le _ _
    have s1 : 0 ≤ x.toInt → 0 ≤ x.toInt.tmod k := fun h => Int.tmod_nonneg k h
    have s2 : x.toInt ≤ 0 → x.toInt.tmod k ≤ 0 := fun h => by
      have := Int.tmod_nonneg k (show 0 ≤ -x.toInt by omega)
      rw [Int.neg_tmod] at this
      omega
    exact Int.bmod_eq_of_le (by omega) (by omega)
  have g : z.toInt = x.toInt.tmod k := by
    rw [hz, Int64.toInt_sub, d2]
    have : x.toInt - k * x.toInt.tdiv k = x.toInt.tmod k := by omega
    rw [this]
    exact Int.bmod_eq_of_le (by omega) (by omega)
  exact ⟨by omega, by omega⟩
theorem in_shrc (k : Nat) {y : Int32} (lo hi : Int) (hz : z = x >>> (y &&& 31)) (hx : In x a b) (hy : (y &&& 31).toBitVec.smod 32#32 = BitVec.ofNat 32 k) (h0 : decide (k < 32 ∧ lo ≤ a / 2 ^ k ∧ b / 2 ^ k ≤ hi) = true) : In z lo hi := by
  have h0 := of_decide_eq_true h0
  obtain ⟨x1, x2⟩ := hx
  have e : z.toInt = x.toInt / 2 ^ k := by
    rw [hz]
    show (x.toBitVec.sshiftRight' ((y &&& 31).toBitVec.smod 32#32)).toInt = _
    rw [hy, BitVec.sshiftRight_eq', BitVec.toInt_sshiftRight, Int.shiftRight_eq_div_pow]
    have : (BitVec.ofNat 32 k).toNat = k := by
      rw [BitVec.toNat_ofNat]
      exact Nat.mod_eq_of_lt (by omega)
    rw [this]
    rfl
  have p : (0 : Int) < 2 ^ k := Int.pow_pos (by decide)
  have m1 : a / 2 ^ k ≤ x.toInt / 2 ^ k := Int.ediv_le_ediv p x1
  have m2 : x.toInt / 2 ^ k ≤ b / 2 ^ k := Int.ediv_le_ediv p x2
  exact ⟨by omega, by omega⟩
theorem tx_i2l {z : Int64} (hz : z = x.toInt64) : z.toInt = x.toInt := by rw [hz]; exact Int32.toInt_toInt64 x
theorem nn_01 (h : Inv s) (hx : In x a b) (h0 : decide (0 ≤ a ∧ b ≤ 1) = true) (hz : z = s.1 110 x.toNatClampNeg) : In z 0 32 := by
  have h0 := of_decide_eq_true h0
  obtain ⟨x1, x2⟩ := hx
  have hk := h.2.2.2.2.2.2.1
  rw [mI_at rfl] at hk
  rw [hz]
  by_cases e : x.toInt = 0
  · have e2 : x.toNatClampNeg = 0 := by show x.toInt.toNat = 0; omega
    rw [e2]; exact hk.1
  · have e2 : x.toNatClampNeg = 1 := by show x.toInt.toNat = 1; omega
    rw [e2]; exact hk.2
theorem ldv_nz {y : Int64} (hy : InL y c e) (h0 : decide (1 ≤ c) = true) : ¬ y = 0 := by
  have h0 := of_decide_eq_true h0
  intro q
  rw [q] at hy
  have h1 := hy.1
  have e0 : (0 : Int64).toInt = 0 := rfl
  omega
theorem l_mulc {x z : Int64} (k lo hi : Int) (hz : z = Int64.ofInt k * x ∨ z = x * Int64.ofInt k) (hx : InL x a b) (h0 : decide (0 ≤ k ∧ k ≤ 9223372036854775807 ∧ -9223372036854775808 ≤ k * a ∧ k * b ≤ 9223372036854775807 ∧ lo ≤ k * a ∧ k * b ≤ hi) = true) : InL z lo hi := by
  have h0 := of_decide_eq_true h0
  obtain ⟨x1, x2⟩ := hx
  have e : (Int64.ofInt k).toInt = k := Int64.toInt_ofInt_of_le (by omega) (by omega)
  have m1 : k * a ≤ k * x.toInt := Int.mul_le_mul_of_nonneg_left x1 h0.1
  have m2 : k * x.toInt ≤ k * b := Int.mul_le_mul_of_nonneg_left x2 h0.1
  have g : z.toInt = k * x.toInt := by
    rcases hz with hz | hz
    · rw [hz, Int64.toInt_mul, e]
      exact Int.bmod_eq_of_le (by omega) (by omega)
    · rw [hz, Int64.toInt_mul, e, Int.mul_comm]
      exact Int.bmod_eq_of_le (by omega) (by omega)
  exact ⟨by omega, by omega⟩
theorem l_shl0 : ∀ j : Fin 62, (Int64.ofInt 1 <<< ((Int32.ofNat j.val).toInt64 &&& 63) : Int64).toInt = 2 ^ j.val := by decide +kernel
theorem l_shl {z : Int64} (k : Nat) (hz : z = Int64.ofInt 1 <<< (y.toInt64 &&& 63)) (hy : In y c e) (h0 : decide (0 ≤ c ∧ e ≤ (k : Int) ∧ k < 62) = true) : InL z 0 (2 ^ k) := by
  have h0 := of_decide_eq_true h0
  obtain ⟨y1, y2⟩ := hy
  have ey : y = Int32.ofNat y.toInt.toNat := Int32.toInt_inj.mp (by rw [Int32.toInt_ofNat_of_lt (by omega)]; omega)
  have h := l_shl0 ⟨y.toInt.toNat, by omega⟩
  have h : (Int64.ofInt 1 <<< ((Int32.ofNat y.toInt.toNat).toInt64 &&& 63) : Int64).toInt = 2 ^ y.toInt.toNat := h
  rw [← ey, ← hz] at h
  have p : (2 : Nat) ^ y.toInt.toNat ≤ 2 ^ k := Nat.pow_le_pow_right (by decide) (by omega)
  have c1 : ((2 ^ y.toInt.toNat : Nat) : Int) = 2 ^ y.toInt.toNat := by norm_cast
  have c2 : ((2 ^ k : Nat) : Int) = 2 ^ k := by norm_cast
  exact ⟨by rw [h]; exact Int.le_of_lt (Int.pow_pos (by decide)), by rw [h, ← c1, ← c2]; exact Int.ofNat_le.mpr p⟩
theorem nz_i (h : x.toInt ≠ (Int32.ofInt 0).toInt) : x.toInt ≠ 0 := h
theorem nz_l {k : Int64} (h : k.toInt ≠ (Int64.ofInt 0).toInt) : k.toInt ≠ 0 := h
theorem nz_r (hx : In x a b) (h0 : decide (0 < a ∨ b < 0) = true) : x.toInt ≠ 0 := by
  have h0 := of_decide_eq_true h0
  obtain ⟨x1, x2⟩ := hx
  omega
theorem in_i2c (hz : z = (x.toUInt32 % 65536).toInt32) : In z 0 65535 := by
  have e : z.toBitVec.toNat = x.toBitVec.toNat % 65536 := by rw [hz]; rfl
  have hl : z.toBitVec.toNat < 65536 := by rw [e]; exact Nat.mod_lt _ (by decide)
  have e2 : z.toInt = (z.toBitVec.toNat : Int) := BitVec.toInt_eq_toNat_of_lt (by omega)
  exact ⟨by omega, by omega⟩
theorem in_neg (lo hi : Int) (hz : z = -x) (hx : In x a b) (h0 : decide (-2147483648 < a ∧ lo ≤ -b ∧ -a ≤ hi) = true) : In z lo hi := by
  have h0 := of_decide_eq_true h0
  obtain ⟨x1, x2⟩ := hx
  have hm := Int32.toInt_lt x
  have e : z.toInt = -x.toInt := by
    rw [hz, Int32.toInt_neg]
    exact Int.bmod_eq_of_le (by omega) (by omega)
  exact ⟨by omega, by omega⟩
theorem lneg_nz {x z : Int64} (hz : z = -x) (h : x.toInt ≠ 0) : z.toInt ≠ 0 := by
  rw [hz, Int64.toInt_neg]
  have h1 := Int64.le_toInt x
  have h2 := Int64.toInt_lt x
  by_cases e : x.toInt = -9223372036854775808
  · rw [e]; decide
  · rw [Int.bmod_eq_of_le (by omega) (by omega)]
    omega
theorem lnz {x : Int64} (h : x.toInt ≠ 0) : ¬ x = 0 := by
  intro e
  rw [e] at h
  exact h rfl
theorem nar_c (x : Int32) : In (vp_nar .char x) 0 65535 := in_i2c (x := x) rfl
theorem mb_in (x : Int32) : ((x.toBitVec.toNat : Nat) : Int) < ((4294967296 : Nat) : Int) := by
  have := x.toBitVec.isLt
  omega
theorem mb_inl (x : Int64) : ((x.toBitVec.toNat : Nat) : Int) < ((18446744073709551616 : Nat) : Int) := by
  have := x.toBitVec.isLt
  omega
theorem mb {k : Nat} (e1 : z = x &&& y) (e2 : y = x - Int32.ofInt 1) (hx : x.toInt ≠ 0) (h : ((x.toBitVec.toNat : Nat) : Int) < ((k + 1 : Nat) : Int)) : ((z.toBitVec.toNat : Nat) : Int) < (k : Int) := by
  have hb : z.toBitVec = x.toBitVec &&& y.toBitVec := by rw [e1]; rfl
  have hl : z.toBitVec.toNat ≤ y.toBitVec.toNat := by rw [hb, BitVec.toNat_and]; exact Nat.and_le_right
  have hy : y.toBitVec = x.toBitVec - 1#32 := by rw [e2]; rfl
  have hn : x.toBitVec.toNat ≠ 0 := fun q => hx (by
    show x.toBitVec.toInt = 0
    rw [BitVec.eq_of_toNat_eq (x := x.toBitVec) (y := 0#32) q]
    rfl)
  have hs : y.toBitVec.toNat = x.toBitVec.toNat - 1 := by
    have hlt := x.toBitVec.isLt
    rw [hy, BitVec.toNat_sub]
    have : (1#32).toNat = 1 := rfl
    rw [this]
    omega
  omega
theorem mbl {k : Nat} {z x y : Int64} (e1 : z = x &&& y) (e2 : y = x - Int64.ofInt 1) (hx : x.toInt ≠ 0) (h : ((x.toBitVec.toNat : Nat) : Int) < ((k + 1 : Nat) : Int)) : ((z.toBitVec.toNat : Nat) : Int) < (k : Int) := by
  have hb : z.toBitVec = x.toBitVec &&& y.toBitVec := by rw [e1]; rfl
  have hl : z.toBitVec.toNat ≤ y.toBitVec.toNat := by rw [hb, BitVec.toNat_and]; exact Nat.and_le_right
  have hy : y.toBitVec = x.toBitVec - 1#64 := by rw [e2]; rfl
  have hn : x.toBitVec.toNat ≠ 0 := fun q => hx (by
    show x.toBitVec.toInt = 0
    rw [BitVec.eq_of_toNat_eq (x := x.toBitVec) (y := 0#64) q]
    rfl)
  have hs : y.toBitVec.toNat = x.toBitVec.toNat - 1 := by
    have hlt := x.toBitVec.isLt
    rw [hy, BitVec.toNat_sub]
    have : (1#64).toNat = 1 := rfl
    rw [this]
    omega
  omega
theorem mh_in (x : Int64) : ((x.toInt.toNat : Nat) : Int) < ((18446744073709551616 : Nat) : Int) := by
  have := Int64.toInt_lt x
  omega
theorem mh {k : Nat} {z x : Int64} (e1 : z = x / Int64.ofInt 2) (hx : InL x a b) (h0 : decide (1 ≤ a) = true) (h : ((x.toInt.toNat : Nat) : Int) < ((k + 1 : Nat) : Int)) : ((z.toInt.toNat : Nat) : Int) < (k : Int) := by
  have h0 := of_decide_eq_true h0
  obtain ⟨x1, x2⟩ := hx
  have e2 : (Int64.ofInt 2).toInt = 2 := rfl
  have hm := Int64.toInt_lt x
  have e : z.toInt = x.toInt / 2 := by
    rw [e1, Int64.toInt_div, e2, Int.tdiv_eq_ediv_of_nonneg (by omega)]
    exact Int.bmod_eq_of_le (by omega) (by omega)
  omega
theorem mh2 {k : Nat} {z x : Int64} (e1 : z = x >>> ((Int32.ofInt 1).toInt64 &&& 63)) (hx : InL x a b) (h0 : decide (1 ≤ a) = true) (h : ((x.toInt.toNat : Nat) : Int) < ((k + 1 : Nat) : Int)) : ((z.toInt.toNat : Nat) : Int) < (k : Int) := by
  have h0 := of_decide_eq_true h0
  obtain ⟨x1, x2⟩ := hx
  have e2 : z.toBitVec = x.toBitVec.sshiftRight 1 := by rw [e1]; rfl
  have e : z.toInt = x.toInt / 2 := by
    show z.toBitVec.toInt = x.toBitVec.toInt / 2
    rw [e2, BitVec.toInt_sshiftRight, Int.shiftRight_eq_div_pow]
    rfl
  omega
/-- a value that grows no faster than a counter -/
theorem rl_in {w : Int32} (C : Int) (hx : In x a b) (hy : In w c e) (h0 : decide (b ≤ c + C) = true) : x.toInt ≤ w.toInt + C := by
  have h0 := of_decide_eq_true h0
  obtain ⟨x1, x2⟩ := hx
  obtain ⟨y1, y2⟩ := hy
  omega
theorem rl_0 {w v u : Int32} {C : Int} (h : x.toInt ≤ w.toInt + C) (ev : v.toInt = w.toInt + u.toInt) (hu : In u 0 e) : x.toInt ≤ v.toInt + C := by
  obtain ⟨y1, y2⟩ := hu
  omega
theorem rl_1 {w v u : Int32} {C : Int} (h : x.toInt ≤ w.toInt + C) (ez : z.toInt = x.toInt + y.toInt) (hy : In y a b) (ev : v.toInt = w.toInt + u.toInt) (hu : In u c e) (h0 : decide (b ≤ c) = true) : z.toInt ≤ v.toInt + C := by
  have h0 := of_decide_eq_true h0
  obtain ⟨x1, x2⟩ := hy
  obtain ⟨y1, y2⟩ := hu
  omega
theorem rl_w {w : Int32} {C : Int} (lo hi : Int) (h : x.toInt ≤ w.toInt + C) (hx : In x a b) (hw : In w c e) (h0 : decide (lo ≤ a ∧ e + C ≤ hi) = true) : In x lo hi := by
  have h0 := of_decide_eq_true h0
  obtain ⟨x1, x2⟩ := hx
  obtain ⟨y1, y2⟩ := hw
  exact ⟨by omega, by omega⟩
/-- a counter that grows -/
theorem m_up {H : Int} {k : Nat} {b : Int} (h : H - x.toInt < ((k + 1 : Nat) : Int)) (e : z.toInt = x.toInt + y.toInt) (hy : In y 1 b) : H - z.toInt < (k : Int) := by
  obtain ⟨y1, y2⟩ := hy
  omega
theorem m_no {H : Int} {p : Prop} (h : H - x.toInt < ((0 : Nat) : Int)) (hx : In x a b) (h0 : decide (b ≤ H) = true) : p := by
  have h0 := of_decide_eq_true h0
  obtain ⟨x1, x2⟩ := hx
  omega
theorem m_in {H : Int} (k : Nat) (hx : In x a b) (h0 : decide (H - a < (k : Int)) = true) : H - x.toInt < (k : Int) := by
  have h0 := of_decide_eq_true h0
  obtain ⟨x1, x2⟩ := hx
  omega
theorem m_dn {H : Int} {k : Nat} {b : Int} (h : x.toInt - H < ((k + 1 : Nat) : Int)) (e : z.toInt = x.toInt + y.toInt) (hy : In y b (-1)) : z.toInt - H < (k : Int) := by
  obtain ⟨y1, y2⟩ := hy
  omega
theorem m_nod {H : Int} {p : Prop} (h : x.toInt - H < ((0 : Nat) : Int)) (hx : In x a b) (h0 : decide (H ≤ a) = true) : p := by
  have h0 := of_decide_eq_true h0
  obtain ⟨x1, x2⟩ := hx
  omega
theorem m_ind {H : Int} (k : Nat) (hx : In x a b) (h0 : decide (b - H < (k : Int)) = true) : x.toInt - H < (k : Int) := by
  have h0 := of_decide_eq_true h0
  obtain ⟨x1, x2⟩ := hx
  omega
end GI
