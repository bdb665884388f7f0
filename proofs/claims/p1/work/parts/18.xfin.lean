/-! runs in stretches, and runs split by what a script's int is -/
noncomputable def xgo (n : Nat) : List XS → Option (List XS) := Nat.rec (fun w => some w) (fun _ ih w => match w with
  | [] => some []
  | s :: r => match xstep s with
    | none => none
    | some ss => ih (ss ++ r)) n
theorem XGood_mono {n k : Nat} (h : n ≤ k) : ∀ {s : XS}, XGood n s → XGood k s
  | ([], _, _), _ => trivial
  | ((m, pc, l, st, C, S, f) :: fs, hp, E), g => by
    intro L Z σ b xs ws lv vs cfs hxs hE hH hl hs hf
    exact XRun_mono h (g L Z σ b xs ws lv vs cfs hxs hE hH hl hs (xfr_le h hf))
def XFin (s : XS) : Prop := ∃ n, XGood n s
theorem XFin_all {w : List XS} (h : ∀ s ∈ w, XFin s) : ∃ n, ∀ s ∈ w, XGood n s := by
  induction w with
  | nil => exact ⟨0, fun s hs => by cases hs⟩
  | cons s r ih =>
    obtain ⟨n, hn⟩ := ih (fun s hs => h s (List.mem_cons_of_mem _ hs))
    obtain ⟨k, hk⟩ := h s List.mem_cons_self
    refine ⟨n + k, fun s2 hs => ?_⟩
    rcases List.mem_cons.mp hs with rfl | hs
    · exact XGood_mono (Nat.le_add_left _ _) hk
    · exact XGood_mono (Nat.le_add_right _ _) (hn s2 hs)
theorem xgo_good : ∀ {n k : Nat} {w w2 : List XS}, xgo n w = some w2 → (∀ s ∈ w2, XGood k s) → ∀ s ∈ w, XGood (n + k) s := by
  intro n k
  induction n with
  | zero =>
    intro w w2 h g s hs
    have h : some w = some w2 := h
    cases h
    rw [Nat.zero_add]
    exact g s hs
  | succ n ih =>
    intro w w2 h g s hs
    match w, h, hs with
    | [], _, hs => cases hs
    | s0 :: r, h, hs =>
      have h : (match xstep s0 with
        | none => none
        | some ss => xgo n (ss ++ r)) = some w2 := h
      cases hx : xstep s0 with
      | none => rw [hx] at h; cases h
      | some ss =>
        rw [hx] at h
        have g2 := ih h g
        rw [Nat.succ_add]
        rcases List.mem_cons.mp hs with rfl | hs
        · exact xone hx (fun s' hs' => g2 s' (List.mem_append_left _ hs'))
        · exact XGood_mono (Nat.le_succ _) (g2 s (List.mem_append_right _ hs))
theorem xgo_fin {n : Nat} {w w2 : List XS} (h : xgo n w = some w2) (g : ∀ s ∈ w2, XFin s) : ∀ s ∈ w, XFin s := by
  obtain ⟨k, hk⟩ := XFin_all g
  exact fun s hs => ⟨n + k, xgo_good h hk s hs⟩
theorem xrun_fin {n : Nat} {w : List XS} (h : xrun n w = true) : ∀ s ∈ w, XFin s := fun s hs => ⟨n, xrun_ok h s hs⟩
theorem xsplit {f : XF} {fs : List XF} {h : XHp} {E : XE} (k : Nat) (N : Nat) (hk : E[k]? = some (0, (N : Int))) (g : ∀ v : Nat, v < N + 1 → XFin (f :: fs, h, E.set k ((v : Int), (v : Int)))) : XFin (f :: fs, h, E) := by
  obtain ⟨n, hn⟩ := XFin_all (w := (List.range (N + 1)).map (fun v : Nat => ((f :: fs, h, E.set k ((v : Int), (v : Int))) : XS))) (fun s hs => by
    obtain ⟨v, hv, rfl⟩ := List.mem_map.mp hs
    exact g v (List.mem_range.mp hv))
  refine ⟨n, ?_⟩
  obtain ⟨m, pc, l, st, C, S, f0⟩ := f
  intro L Z σ b xs ws lv vs cfs hxs hE hH hl hs hf
  have h1 := hE.1 k _ hk
  have h2 : (σ k).toInt = (((σ k).toInt.toNat : Nat) : Int) := (Int.toNat_of_nonneg h1.1).symm
  have h3 : (σ k).toInt.toNat < N + 1 := by
    have := h1.2
    simp only at this
    omega
  refine hn _ (List.mem_map.mpr ⟨(σ k).toInt.toNat, List.mem_range.mpr h3, rfl⟩) L Z σ b xs ws lv vs cfs hxs (xer_set hE ⟨?_, ?_⟩) hH hl hs hf
  · show (((σ k).toInt.toNat : Nat) : Int) ≤ _
    omega
  · show _ ≤ (((σ k).toInt.toNat : Nat) : Int)
    omega
def xE0 : XE := [(-2147483648, 2147483647), (-2147483648, 2147483647), (-2147483648, 2147483647), (-2147483648, 2147483647), (-2147483648, 2147483647), (-2147483648, 2147483647), (0, 63), (0, 6)]
noncomputable def xstart : XS := ([(0, 0, [(0, .inr (.inr 2))], [], 600002, 7302232, 0)], (0, xtz 10), xE0)
theorem xand63 (x : Int32) : 0 ≤ (x &&& 63).toInt ∧ (x &&& 63).toInt ≤ 63 := by
  have h : (x &&& 63).toInt = ((x.toBitVec &&& 63#32).toNat : Int) := by
    have e : (x &&& 63).toBitVec = x.toBitVec &&& 63#32 := rfl
    have hl : (x.toBitVec &&& 63#32).toNat ≤ 63 := by rw [BitVec.toNat_and]; exact Nat.and_le_right
    show (x &&& 63).toBitVec.toInt = _
    rw [e, BitVec.toInt_eq_toNat_of_lt (by omega)]
  have hl : (x.toBitVec &&& 63#32).toNat ≤ 63 := by rw [BitVec.toNat_and]; exact Nat.and_le_right
  rw [h]
  omega
/-- the law's body on a script of at most six ints, out of the executor's run -/
theorem xlaw (F : XFin xstart) {b L : Nat} (hL : L ≤ 6) (xs : Nat → Int32) (Z : AmZ) : ∃ n, am_run Z (some (b, L, xs)) RL code 8 ret false (am_wp Z am_leaf 1300) (am_wpW Z am_leaf 1300) (fun _ _ _ _ _ _ _ => False) (fun v _ => v = some (.int 1)) n 0 [(0, .ref b)] [] [] 600002 7302232 := by
  obtain ⟨n, hn⟩ := F
  refine ⟨n, ?_⟩
  let σ : Nat → Int32 := fun k => if k = 6 then xs 0 &&& 63 else if k = 7 then Int32.ofNat L else xs k
  have hX : XX L xs σ := ⟨fun j hj => by
    show xs j = if j = 6 then _ else if j = 7 then _ else xs j
    rw [if_neg (by omega), if_neg (by omega)], hL, rfl⟩
  have hb : ∀ x : Int32, -2147483648 ≤ x.toInt ∧ x.toInt ≤ 2147483647 := fun x => xir_top σ x
  have hE : xer σ xE0 := by
    refine ⟨fun k r hk => ?_, rfl⟩
    match k, hk with
    | 0, hk => cases hk; exact hb _
    | 1, hk => cases hk; exact hb _
    | 2, hk => cases hk; exact hb _
    | 3, hk => cases hk; exact hb _
    | 4, hk => cases hk; exact hb _
    | 5, hk => cases hk; exact hb _
    | 6, hk => cases hk; exact xand63 (xs 0)
    | 7, hk =>
      cases hk
      rw [xlen7 hX]
      exact ⟨Int.natCast_nonneg _, by show (L : Int) ≤ 6; omega⟩
    | k + 8, hk => cases hk
  have h := hn L Z σ b xs [] [(0, .ref b)] [] [] hX hE ⟨rfl, by decide, fun k a e he => by cases he⟩ (fun i x hx => ⟨.ref b, by
    rcases List.mem_cons.mp hx with hx | hx
    · cases hx; exact ⟨List.mem_cons_self, rfl⟩
    · cases hx⟩) trivial trivial
  exact h
