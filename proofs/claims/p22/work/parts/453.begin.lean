/-! THE LAW FROM ITS START TO ITS END -/
theorem st_good : XGood (30 + 64 * 300) xz_S0 := by
  unfold xz_S0
  intro L Z σ b xs ws lv vs cfs hX hE hH hl hs hf
  match cfs, hf with
  | _ :: _, hf => exact hf.elim
  | [], _ =>
  match vs, hs with
  | _ :: _, hs => exact hs.elim
  | [], _ =>
  obtain ⟨v4, m4, x4⟩ := hl 4 (xvi 0) (by simp)
  obtain ⟨v3, m3, x3⟩ := hl 3 (xvr' 198) (by simp)
  obtain ⟨v2, m2, x2⟩ := hl 2 (xvr' 112) (by simp)
  obtain ⟨v1, m1, x1⟩ := hl 1 (xvr' 3) (by simp)
  obtain ⟨v0, m0, x0⟩ := hl 0 (xvr' 2) (by simp)
  obtain ⟨n4, rfl, h4⟩ := (x4 : ∃ n, v4 = .int n ∧ n = Int32.ofInt 0)
  obtain ⟨a3, rfl, h3⟩ := (x3 : ∃ a, v3 = .ref a ∧ (xads ws)[195]? = some a)
  obtain ⟨a2, rfl, h2⟩ := (x2 : ∃ a, v2 = .ref a ∧ (xads ws)[109]? = some a)
  obtain ⟨a1, rfl, h1⟩ := (x1 : ∃ a, v1 = .ref a ∧ (xads ws)[0]? = some a)
  have x0 : v0 = .ref b := x0
  subst x0
  subst h4
  have e3 : sgA ws 195 = a3 := by unfold sgA; rw [h3]; rfl
  have e2 : sgA ws 109 = a2 := by unfold sgA; rw [h2]; rfl
  have e1 : sgA ws 0 = a1 := by unfold sgA; rw [h1]; rfl
  have hL : L ≤ 384 := hX.2.1
  have g := lw_loop (Z := Z) (b := b) (L := L) (xs := xs) hL 64 (sgA ws) (sg ws) (Int32.ofInt 0) 599695 7090963 (st_inv hH) (st_kl hH) (st_rel3 hH) (by decide) (by decide) (by have : (Int32.ofInt 0).toInt = 0 := rfl; omega) (by decide) (by decide)
  rw [← sg_world hH] at g
  refine g lv (fun i v hv => ?_) _ (Nat.le_refl _)
  have hm := xlook_mem hv
  simp only [List.mem_cons, Prod.mk.injEq, List.not_mem_nil, or_false] at hm
  rcases hm with ⟨rfl, rfl⟩ | ⟨rfl, rfl⟩ | ⟨rfl, rfl⟩ | ⟨rfl, rfl⟩ | ⟨rfl, rfl⟩
  · exact m0
  · rw [e1]; exact m1
  · rw [e2]; exact m2
  · rw [e3]; exact m3
  · exact m4
theorem lw_all {b L : Nat} (hL : L ≤ 384) (xs : Nat → Int32) (Z : AmZ) : ∃ n, am_run Z (some (b, L, xs)) RL code 8 ret false (am_wp Z am_leaf 1300) (am_wpW Z am_leaf 1300) (fun _ _ _ _ _ _ _ => False) (fun v _ => v = some (.int 1)) n 0 [(0, .ref b)] [] [] 600128 7301098 := by
  have hn := xgo_good (xsame_ok xz_s0) (k := 30 + 64 * 300) (fun s hs => by rw [List.mem_singleton.mp hs]; exact st_good) xstart List.mem_cons_self
  refine ⟨5284 + (30 + 64 * 300), ?_⟩
  let σ : Nat → Int32 := fun k => if k = 6 then xs 0 &&& 63 else if k = 7 then Int32.ofNat L else xs k
  have hX : XX L xs σ := ⟨fun j hj => by
    show xs j = if j = 6 then _ else if j = 7 then _ else xs j
    rw [if_neg (by omega), if_neg (by omega)], hL, rfl⟩
  have hb : ∀ x : Int32, -2147483648 ≤ x.toInt ∧ x.toInt ≤ 2147483647 := fun x => xir_top σ x
  have hE : xer σ xE0 := by
    refine ⟨fun k r hk => ?_, rfl⟩
    match k, hk with
    | 0, hk => cases hk; exact hb _
    | 1, hk => cases hk; exact hb _
    | 2, hk => cases hk; exact hb _
    | 3, hk => cases hk; exact hb _
    | 4, hk => cases hk; exact hb _
    | 5, hk => cases hk; exact hb _
    | 6, hk => cases hk; exact xand63 (xs 0)
    | 7, hk =>
      cases hk
      rw [xlen7 hX]
      exact ⟨Int.natCast_nonneg _, by show (L : Int) ≤ 384; omega⟩
    | k + 8, hk => cases hk
  have h := hn L Z σ b xs [] [(0, .ref b)] [] [] hX hE ⟨rfl, by decide, fun k a e he => by cases he⟩ (fun i x hx => ⟨.ref b, by
    rcases List.mem_cons.mp hx with hx | hx
    · cases hx; exact ⟨List.mem_cons_self, rfl⟩
    · cases hx⟩) trivial trivial
  exact h
