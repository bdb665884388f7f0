/-! THE LOOP OF COMMAND -/
theorem in_ne3 {z : Int32} {lo hi : Int} (h : In z lo hi) (hh : decide (hi < 3) = true) : z.toInt ≠ 3 := by
  have a := h.2
  have b := of_decide_eq_true hh
  omega
theorem in_at {z : Int32} {c : Int} (h : In z c c) : z.toInt = c := Int.le_antisymm h.2 h.1
theorem tkn_l1 {T : Nat → Int32} {n a p e : Nat} {k v : Int} (h : TKN T n a p e k v) (hk : k = 1) : 0 ≤ v ∧ v ≤ 25 := by
  rcases h.2 with ⟨h1, h2, h3⟩ | ⟨h1, h2, h3, h4, h5⟩ | ⟨q, h1, h2, h3⟩ | ⟨h1, h2, h3, h4, h5⟩ | ⟨h1, h2, h3, h4, h5, h6⟩
  · omega
  · unfold tkL at h2
    omega
  · rcases h3 with ⟨a1, a2, a3⟩ | ⟨a1, a2⟩
    · omega
    · omega
  · omega
  · omega
theorem sg_v {y z : Int32} {v : Int} (e : z = y - Int32.ofInt 97) (q : y.toInt = v + 97) (b : 0 ≤ v ∧ v ≤ 25) : z.toInt = v := by
  rw [t_s97 e (by omega) (by omega)]
  omega
section HQ
variable {s sc u : GS} {y2 y3 y4 z3 m2 z76 w27 val : Int32} {p ix : Nat} {k v : Int}
theorem hq5_s (hf0 : (sc.2.2.1 109 23).toInt = 0) (hm : y4.toInt ≠ 0) (h5 : HQ5 s sc (y2.toInt - 97) y3 y4 w27.toInt.toNat) (hC : C4 y2.toInt) (h4 : sc.2.2.1 109 32 = s.2.2.1 109 32) (ht : TKN (s.1 125) (s.2.2.1 109 22).toInt.toNat w27.toInt.toNat p (u.2.2.1 109 27).toInt.toNat k v) (hw : SHK (y2.toInt - 97) y3.toInt z76.toInt) (hk : k = z76.toInt) (h3 : z76.toInt ≠ 3) (h0 : 0 ≤ y3.toInt) (hz : z3.toInt = y3.toInt + 1) (hix : ix = 5 * (sc.2.2.1 109 32).toNatClampNeg + y3.toNatClampNeg) (hval : val.toInt = v) (h128 : u.1 128 = sc.1 128) : HQ5 s (sI u 128 ix val) (y2.toInt - 97) z3 m2 (u.2.2.1 109 27).toInt.toNat := by
  intro _ _
  obtain ⟨a1, a2⟩ := h5 hf0 hm
  have hc9 := c4_i hC
  have hw := hw hc9 a1
  rw [h4] at hix
  have e3 : y3.toNatClampNeg = y3.toInt.toNat := rfl
  have hle : y3.toInt + 1 ≤ (cmA (y2.toInt - 97) : Int) := by
    by_cases q : y3.toInt < (cmA (y2.toInt - 97) : Int)
    · omega
    · exfalso
      have h8 := (cmK_r (c := y2.toInt - 97) (i := y3.toInt.toNat + 1)).2.2.2 (by omega)
      omega
  refine ⟨by omega, fun a ha => ?_⟩
  have ez : z3.toInt.toNat = y3.toInt.toNat + 1 := by omega
  rw [ez]
  refine cs_more (a2 a ha) ht (by rw [hk, hw]) (fun j hj => ?_) ?_
  · show ((sI u 128 ix val).1 128 (5 * (s.2.2.1 109 32).toNatClampNeg + j)).toInt = (sc.1 128 (5 * (s.2.2.1 109 32).toNatClampNeg + j)).toInt
    rw [sI_q, ug_ne (by omega), h128]
  · show ((sI u 128 ix val).1 128 (5 * (s.2.2.1 109 32).toNatClampNeg + y3.toInt.toNat)).toInt = v
    rw [sI_q, hix, e3, ug_at]
    exact hval
theorem hq6_e (hf0 : (sc.2.2.1 109 23).toInt = 0) (hm : y4.toInt ≠ 0) (h5 : HQ5 s sc (y2.toInt - 97) y3 y4 w27.toInt.toNat) (hC : C4 y2.toInt) (ht : TKN (s.1 125) (s.2.2.1 109 22).toInt.toNat w27.toInt.toNat p (u.2.2.1 109 27).toInt.toNat k v) (hw : SHK (y2.toInt - 97) y3.toInt z76.toInt) (hk : k = z76.toInt) (h3 : z76.toInt = 3) (h0 : 0 ≤ y3.toInt) (h128 : u.1 128 = sc.1 128) : HQ6 s u (y2.toInt - 97) m2 (u.2.2.1 109 27).toInt.toNat := by
  intro _ _ a ha
  obtain ⟨a1, a2⟩ := h5 hf0 hm
  have hw := hw (c4_i hC) a1
  have hi : y3.toInt.toNat = cmA (y2.toInt - 97) := by
    by_cases q : y3.toInt.toNat + 1 ≤ cmA (y2.toInt - 97)
    · exfalso
      have h8 := (cmK_r (c := y2.toInt - 97) (i := y3.toInt.toNat + 1)).2.2.1 q
      omega
    · omega
  exact cse_cg (cs_end hi (a2 a ha) ht (by omega)) (fun j hj => by
    show (u.1 128 (5 * (s.2.2.1 109 32).toNatClampNeg + j)).toInt = (sc.1 128 (5 * (s.2.2.1 109 32).toNatClampNeg + j)).toInt
    rw [h128])
theorem hq7_t (hI : Inv u) (hf0 : (sc.2.2.1 109 23).toInt = 0) (hm : y4.toInt ≠ 0) (h5 : HQ5 s sc (y2.toInt - 97) y3 y4 w27.toInt.toNat) (hC : C4 y2.toInt) (h0 : 0 ≤ y3.toInt) (ht : TKN (s.1 125) (s.2.2.1 109 22).toInt.toNat w27.toInt.toNat (u.2.2.1 109 29).toInt.toNat (u.2.2.1 109 27).toInt.toNat k v) (hn : NTK sc u k v) : HQ7 s u (y2.toInt - 97) := by
  intro hf
  obtain ⟨a1, a2⟩ := h5 hf0 hm
  obtain ⟨b1, b2, b3⟩ := (ntk_f hn hf0).1 hf
  have h9 := inv_F hI (z := u.2.2.1 109 29) 0 1000 rfl rfl
  unfold In at h9
  refine ⟨by rw [b2]; omega, fun a ha => ?_⟩
  rw [b1, b2]
  refine cs_bad (c4_i hC) ha (by omega) (a2 a ha) ht ?_
  have h8 := (cmK_r (c := y2.toInt - 97) (i := y3.toInt.toNat + 1)).2.1
  omega
end HQ
