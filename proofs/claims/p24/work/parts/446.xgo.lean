/-! runs in stretches, and runs split by what a script's int is -/
noncomputable def xgo (n : Nat) : List XS → Option (List XS) := Nat.rec (fun w => some w) (fun _ ih w => match w with
  | [] => some []
  | s :: r => match xstep s with
    | none => none
    | some ss => ih (ss ++ r)) n
theorem XGood_mono {n k : Nat} (h : n ≤ k) : ∀ {s : XS}, XGood n s → XGood k s
  | ([], _, _), _ => trivial
  | ((m, pc, l, st, C, S, f) :: fs, hp, E), g => by
    intro L Z σ b xs ws lv vs cfs hxs hE hH hl hs hf
    exact XRun_mono h (g L Z σ b xs ws lv vs cfs hxs hE hH hl hs (xfr_le h hf))
theorem xgo_good : ∀ {n k : Nat} {w w2 : List XS}, xgo n w = some w2 → (∀ s ∈ w2, XGood k s) → ∀ s ∈ w, XGood (n + k) s := by
  intro n k
  induction n with
  | zero =>
    intro w w2 h g s hs
    have h : some w = some w2 := h
    cases h
    rw [Nat.zero_add]
    exact g s hs
  | succ n ih =>
    intro w w2 h g s hs
    match w, h, hs with
    | [], _, hs => cases hs
    | s0 :: r, h, hs =>
      have h : (match xstep s0 with
        | none => none
        | some ss => xgo n (ss ++ r)) = some w2 := h
      cases hx : xstep s0 with
      | none => rw [hx] at h; cases h
      | some ss =>
        rw [hx] at h
        have g2 := ih h g
        rw [Nat.succ_add]
        rcases List.mem_cons.mp hs with rfl | hs
        · exact xone hx (fun s' hs' => g2 s' (List.mem_append_left _ hs'))
        · exact XGood_mono (Nat.le_succ _) (g2 s (List.mem_append_right _ hs))
def xE0 : XE := [(-2147483648, 2147483647), (-2147483648, 2147483647), (-2147483648, 2147483647), (-2147483648, 2147483647), (-2147483648, 2147483647), (-2147483648, 2147483647), (0, 63), (0, 384)]
noncomputable def xstart : XS := ([(0, 0, [(0, .inr (.inr 2))], [], 600128, 7301098, 0)], (0, xtz 10), xE0)
theorem xand63 (x : Int32) : 0 ≤ (x &&& 63).toInt ∧ (x &&& 63).toInt ≤ 63 := by
  have h : (x &&& 63).toInt = ((x.toBitVec &&& 63#32).toNat : Int) := by
    have e : (x &&& 63).toBitVec = x.toBitVec &&& 63#32 := rfl
    have hl : (x.toBitVec &&& 63#32).toNat ≤ 63 := by rw [BitVec.toNat_and]; exact Nat.and_le_right
    show (x &&& 63).toBitVec.toInt = _
    rw [e, BitVec.toInt_eq_toNat_of_lt (by omega)]
  have hl : (x.toBitVec &&& 63#32).toNat ≤ 63 := by rw [BitVec.toNat_and]; exact Nat.and_le_right
  rw [h]
  omega
