/-! HOW MANY PARTS -/
noncomputable def cnP (P : Nat → Prop) : Nat → Nat
  | 0 => 0
  | n + 1 => cnP P n + @ite Nat (P n) (Classical.propDecidable _) 1 0
section CNP
variable {P Q : Nat → Prop}
theorem cnP_y {n : Nat} (h : P n) : cnP P (n + 1) = cnP P n + 1 := by
  show cnP P n + @ite Nat (P n) (Classical.propDecidable _) 1 0 = _
  rw [if_pos h]
theorem cnP_n {n : Nat} (h : ¬ P n) : cnP P (n + 1) = cnP P n := by
  show cnP P n + @ite Nat (P n) (Classical.propDecidable _) 1 0 = _
  rw [if_neg h]
  rfl
theorem cnP_le : ∀ n : Nat, (∀ k, k < n → P k → Q k) → cnP P n ≤ cnP Q n
  | 0, _ => Nat.le_refl _
  | n + 1, h => by
    have i := cnP_le n (fun k hk => h k (by omega))
    by_cases c : P n
    · rw [cnP_y c, cnP_y (h n (by omega) c)]
      omega
    · by_cases d : Q n
      · rw [cnP_n c, cnP_y d]; omega
      · rw [cnP_n c, cnP_n d]; exact i
theorem cnP_lt : ∀ n : Nat, (∀ k, k < n → P k → Q k) → ∀ w, w < n → Q w → ¬ P w → cnP P n < cnP Q n
  | 0, _, w, hw, _, _ => absurd hw (Nat.not_lt_zero w)
  | n + 1, h, w, hw, hq, hp => by
    by_cases e : w = n
    · rw [e] at hq hp
      have i := cnP_le n (fun k hk => h k (by omega))
      rw [cnP_n hp, cnP_y hq]
      omega
    · have i := cnP_lt n (fun k hk => h k (by omega)) w (by omega) hq hp
      by_cases c : P n
      · rw [cnP_y c, cnP_y (h n (by omega) c)]
        omega
      · by_cases d : Q n
        · rw [cnP_n c, cnP_y d]; omega
        · rw [cnP_n c, cnP_n d]; exact i
theorem cnP_eq {n : Nat} (h : ∀ k, k < n → (P k ↔ Q k)) : cnP P n = cnP Q n := Nat.le_antisymm (cnP_le n (fun k hk => (h k hk).mp)) (cnP_le n (fun k hk => (h k hk).mpr))
theorem cnP_rm : ∀ (n : Nat) {w : Nat}, w < n → P w → cnP (fun k => P k ∧ k ≠ w) n + 1 = cnP P n
  | 0, w, hw, _ => absurd hw (Nat.not_lt_zero w)
  | n + 1, w, hw, hp => by
    by_cases e : w = n
    · subst e
      rw [cnP_y hp, cnP_n (P := fun k => P k ∧ k ≠ w) (fun h => h.2 rfl), cnP_eq (P := fun k => P k ∧ k ≠ w) (Q := P) (n := w) (fun k hk => ⟨fun h => h.1, fun h => ⟨h, by omega⟩⟩)]
    · have i := cnP_rm n (w := w) (by omega) hp
      by_cases c : P n
      · rw [cnP_y c, cnP_y (P := fun k => P k ∧ k ≠ w) ⟨c, fun h => e h.symm⟩]
        omega
      · rw [cnP_n c, cnP_n (P := fun k => P k ∧ k ≠ w) (fun h => c h.1)]
        exact i
theorem cnP_add {n w : Nat} (hw : w < n) (hp : ¬ P w) : cnP (fun k => P k ∨ k = w) n = cnP P n + 1 := by
  have i := cnP_rm (P := fun k => P k ∨ k = w) n hw (Or.inr rfl)
  have e : cnP (fun k => (P k ∨ k = w) ∧ k ≠ w) n = cnP P n := cnP_eq (fun k _ => ⟨fun h => h.1.elim id (fun z => absurd z h.2), fun h => ⟨Or.inl h, fun z => hp (by rw [← z]; exact h)⟩⟩)
  omega
end CNP
/-- the least of its part -/
def LST (E : Nat → Nat → Prop) (u : Nat) : Prop := ∀ j, j < u → ¬ wlq E u j
section LST
variable {E F : Nat → Nat → Prop}
theorem wl_sym (hs : ∀ a b, E a b → E b a) {u w : Nat} (h : wlq E u w) : wlq E w u := wl_mono (fun a b q => hs b a q) (wl_rev h)
theorem lsp_ex : ∀ u : Nat, ∃ l, l ≤ u ∧ wlq E u l ∧ LST E l := by
  intro u
  induction u using Nat.strongRecOn with
  | ind u ih =>
    by_cases c : LST E u
    · exact ⟨u, Nat.le_refl _, wl_0, c⟩
    · have h : ∃ j, j < u ∧ wlq E u j := Classical.byContradiction fun z => c (fun j hj hw => z ⟨j, hj, hw⟩)
      obtain ⟨j, hj, hw⟩ := h
      obtain ⟨l, h1, h2, h3⟩ := ih j hj
      exact ⟨l, by omega, wl_tr hw h2, h3⟩
theorem lst_u (hs : ∀ a b, E a b → E b a) {k l : Nat} (h : LST E k) (g : LST E l) (w : wlq E k l) : k = l := by
  rcases Nat.lt_trichotomy k l with c | c | c
  · exact absurd (wl_sym hs w) (g k c)
  · exact c
  · exact absurd w (h l c)
theorem lst_sub (hF : ∀ a b, F a b → E a b) {u : Nat} (h : LST E u) : LST F u := fun j hj hw => h j hj (wl_mono hF hw)
/-- one joint less: more parts iff its ends are no longer together -/
theorem cn_bridge {n x y : Nat} (hsE : ∀ a b, E a b → E b a) (hsF : ∀ a b, F a b → F b a) (hF : ∀ a b, F a b → E a b) (hE : ∀ a b, E a b → F a b ∨ (a = x ∧ b = y) ∨ (a = y ∧ b = x)) (hxy : E x y) (hx : x < n) (hy : y < n) : cnP (LST E) n < cnP (LST F) n ↔ ¬ wlq F x y := by
  constructor
  · intro h w
    have q : ∀ a b, wlq E a b → wlq F a b := fun a b h => by
      obtain ⟨j, hj⟩ := h
      revert a
      induction j with
      | zero => intro a hj; rw [show a = b from hj]; exact wl_0
      | succ j ih =>
        intro a hj
        obtain ⟨c, hc, hw⟩ := hj
        have t := ih c hw
        rcases hE a c hc with r | ⟨r1, r2⟩ | ⟨r1, r2⟩
        · exact wl_tr (wl_1 r) t
        · rw [r1]; rw [r2] at t; exact wl_tr w t
        · rw [r1]; rw [r2] at t; exact wl_tr (wl_sym hsF w) t
    have e : cnP (LST E) n = cnP (LST F) n := cnP_eq (fun k _ => ⟨lst_sub hF, fun g j hj hw => g j hj (q _ _ hw)⟩)
    omega
  · intro h
    obtain ⟨lx, a1, a2, a3⟩ := lsp_ex (E := F) x
    obtain ⟨ly, b1, b2, b3⟩ := lsp_ex (E := F) y
    have big : ∀ u w, wlq F u w → wlq E u w := fun u w => wl_mono hF
    rcases Nat.lt_trichotomy lx ly with c | c | c
    · exact cnP_lt n (fun k _ => lst_sub hF) ly (by omega) b3 (fun g => g lx c (wl_tr (wl_sym hsE (big _ _ b2)) (wl_tr (wl_sym hsE (wl_1 hxy)) (big _ _ a2))))
    · exact absurd (wl_tr a2 (by rw [c]; exact wl_sym hsF b2)) h
    · exact cnP_lt n (fun k _ => lst_sub hF) lx (by omega) a3 (fun g => g ly c (wl_tr (wl_sym hsE (big _ _ a2)) (wl_tr (wl_1 hxy) (big _ _ b2))))
/-- a node less -/
theorem cn_cut {n v : Nat} (hsE : ∀ a b, E a b → E b a) (hF : ∀ a b, F a b ↔ (E a b ∧ a ≠ v ∧ b ≠ v)) (hn : ∀ a b, E a b → a < n ∧ b < n) (hv : v < n) : cnP (LST E) n < cnP (fun u => u ≠ v ∧ LST F u) n ↔ ∃ a b, E v a ∧ E v b ∧ a ≠ v ∧ b ≠ v ∧ ¬ wlq F a b := by
  have hsF : ∀ a b, F a b → F b a := fun a b h => by
    have q := (hF a b).mp h
    exact (hF b a).mpr ⟨hsE a b q.1, q.2.2, q.2.1⟩
  have sub : ∀ a b, F a b → E a b := fun a b h => ((hF a b).mp h).1
  have big : ∀ u w, wlq F u w → wlq E u w := fun u w => wl_mono sub
  -- a walk to w: without v, or by a neighbour of v that reaches w without v, or w is v
  have tail : ∀ (j a w : Nat), w ≠ v → wkq E j a w → wlq F a w ∨ ∃ c, E v c ∧ c ≠ v ∧ wlq F c w := by
    intro j
    induction j with
    | zero => intro a w hw h; rw [show a = w from h]; exact Or.inl wl_0
    | succ j ih =>
      intro a w hw h
      obtain ⟨c, hc, h2⟩ := h
      rcases ih c w hw h2 with q | q
      · by_cases ca : a = v
        · by_cases cc : c = v
          · rw [ca, ← cc]; exact Or.inl q
          · rw [ca] at hc; exact Or.inr ⟨c, hc, cc, q⟩
        · by_cases cc : c = v
          · rw [cc] at q
            obtain ⟨i, hi⟩ := q
            cases i with
            | zero => exact absurd (show v = w from hi).symm hw
            | succ i =>
              obtain ⟨x, hx, -⟩ := hi
              exact absurd rfl ((hF v x).mp hx).2.1
          · exact Or.inl (wl_tr (wl_1 ((hF a c).mpr ⟨hc, ca, cc⟩)) q)
      · exact Or.inr q
  -- from a node other than v, to v: by a neighbour
  have toV : ∀ u, u ≠ v → wlq E u v → ∃ c, E v c ∧ c ≠ v ∧ wlq F c u := fun u hu h => by
    obtain ⟨j, hj⟩ := wl_sym hsE h
    rcases tail j v u hu hj with q | q
    · obtain ⟨i, hi⟩ := q
      cases i with
      | zero => exact absurd (show v = u from hi).symm hu
      | succ i =>
        obtain ⟨x, hx, -⟩ := hi
        exact absurd rfl ((hF v x).mp hx).2.1
    · exact q
  constructor
  · intro h
    refine Classical.byContradiction fun no => ?_
    have one : ∀ a b, E v a → E v b → a ≠ v → b ≠ v → wlq F a b := fun a b h1 h2 h3 h4 => Classical.byContradiction fun z => no ⟨a, b, h1, h2, h3, h4, z⟩
    -- nodes apart from v keep their part
    have keep : ∀ u, u ≠ v → ¬ wlq E u v → LST F u → LST E u := fun u hu hne g j hj hw => by
      obtain ⟨i, hi⟩ := hw
      by_cases cj : j = v
      · rw [cj] at hi; exact hne ⟨i, hi⟩
      · rcases tail i u j cj hi with q | ⟨c, c1, c2, c3⟩
        · exact g j hj q
        · exact hne (wl_tr ⟨i, hi⟩ (wl_tr (wl_sym hsE (big _ _ c3)) (wl_sym hsE (wl_1 c1))))
    by_cases nb : ∃ a, E v a ∧ a ≠ v
    · obtain ⟨a, a1, a2⟩ := nb
      obtain ⟨l, l1, l2, l3⟩ := lsp_ex (E := F) a
      have lv : l ≠ v := fun z => by
        rw [z] at l2
        obtain ⟨i, hi⟩ := wl_sym hsF l2
        cases i with
        | zero => exact a2 (show v = a from hi).symm
        | succ i =>
          obtain ⟨x, hx, -⟩ := hi
          exact absurd rfl ((hF v x).mp hx).2.1
      have ln : l < n := by have := (hn v a a1).2; omega
      have lE : wlq E l v := wl_tr (wl_sym hsE (big _ _ l2)) (wl_sym hsE (wl_1 a1))
      -- all that hang together with v, but v, lie in l's part
      have all : ∀ u, u ≠ v → wlq E u v → wlq F l u := fun u hu hw => by
        obtain ⟨c, c1, c2, c3⟩ := toV u hu hw
        exact wl_tr (wl_sym hsF l2) (wl_tr (one a c a1 c1 a2 c2) c3)
      have uni : ∀ u, u ≠ v → LST F u → wlq E u v → u = l := fun u hu g hw => (lst_u hsF l3 g (all u hu hw)).symm
      by_cases c : l < v
      · have hle : cnP (fun u => u ≠ v ∧ LST F u) n ≤ cnP (LST E) n := cnP_le n (fun u _ ⟨hu, g⟩ => by
          by_cases hw : wlq E u v
          · have e := uni u hu g hw
            rw [e]
            intro j hj hj2
            have hjv : j ≠ v := by omega
            exact l3 j hj (all j hjv (wl_tr (wl_sym hsE hj2) lE))
          · exact keep u hu hw g)
        omega
      · have cv : v < l := by omega
        have vL : LST E v := fun j hj hw => by
          have q := all j (by omega) (wl_sym hsE hw)
          exact l3 j (by omega) q
        have e1 := cnP_rm (P := LST E) n hv vL
        have e2 := cnP_rm (P := fun u => u ≠ v ∧ LST F u) n ln ⟨lv, l3⟩
        have hle : cnP (fun u => (u ≠ v ∧ LST F u) ∧ u ≠ l) n ≤ cnP (fun k => LST E k ∧ k ≠ v) n := cnP_le n (fun u _ ⟨⟨hu, g⟩, hl⟩ => by
          by_cases hw : wlq E u v
          · exact absurd (uni u hu g hw) hl
          · exact ⟨keep u hu hw g, hu⟩)
        omega
    · have hle : cnP (fun u => u ≠ v ∧ LST F u) n ≤ cnP (LST E) n := cnP_le n (fun u _ ⟨hu, g⟩ => keep u hu (fun hw => by
          obtain ⟨c, c1, c2, -⟩ := toV u hu hw
          exact nb ⟨c, c1, c2⟩) g)
      omega
  · rintro ⟨a, b, h1, h2, h3, h4, h5⟩
    obtain ⟨la, a1, a2, a3⟩ := lsp_ex (E := F) a
    obtain ⟨lb, b1, b2, b3⟩ := lsp_ex (E := F) b
    have nev : ∀ {c l : Nat}, c ≠ v → wlq F c l → l ≠ v := fun {c l} hc w z => by
      rw [z] at w
      obtain ⟨i, hi⟩ := wl_sym hsF w
      cases i with
      | zero => exact hc (show v = c from hi).symm
      | succ i =>
        obtain ⟨x, hx, -⟩ := hi
        exact absurd rfl ((hF v x).mp hx).2.1
    have lav := nev h3 a2
    have lbv := nev h4 b2
    have ne : la ≠ lb := fun z => h5 (wl_tr a2 (by rw [z]; exact wl_sym hsF b2))
    have an : la < n := by have := (hn v a h1).2; omega
    have bn : lb < n := by have := (hn v b h2).2; omega
    have av : wlq E v la := wl_tr (wl_1 h1) (big _ _ a2)
    have bv : wlq E v lb := wl_tr (wl_1 h2) (big _ _ b2)
    have up : ∀ k, k ≠ v → LST E k → (k ≠ v ∧ LST F k) := fun k hk g => ⟨hk, lst_sub sub g⟩
    by_cases vL : LST E v
    · have na : ¬ LST E la := fun g => lav (lst_u hsE vL g av).symm
      have nb : ¬ LST E lb := fun g => lbv (lst_u hsE vL g bv).symm
      have e1 := cnP_rm (P := LST E) n hv vL
      have e2 := cnP_add (P := fun k => LST E k ∧ k ≠ v) an (fun h => na h.1)
      have lt := cnP_lt (P := fun k => (LST E k ∧ k ≠ v) ∨ k = la) (Q := fun u => u ≠ v ∧ LST F u) n (fun k _ hk => by
        rcases hk with hk | hk
        · exact up k hk.2 hk.1
        · rw [hk]; exact ⟨lav, a3⟩) lb bn ⟨lbv, b3⟩ (fun hk => by
        rcases hk with hk | hk
        · exact nb hk.1
        · exact ne hk.symm)
      omega
    · have sb : ∀ k, k < n → LST E k → (k ≠ v ∧ LST F k) := fun k _ g => up k (fun z => vL (by rw [← z]; exact g)) g
      by_cases c : LST E la
      · have nb : ¬ LST E lb := fun g => ne (lst_u hsE c g (wl_tr (wl_sym hsE av) bv))
        exact cnP_lt n sb lb bn ⟨lbv, b3⟩ nb
      · exact cnP_lt n sb la an ⟨lav, a3⟩ c
end LST
section K327
variable {Z : AmZ} {d : Nat} {ws : va_W} {X : AmX}
theorem k_327m {x0 : Int32} (hd : 2 ≤ d) (hx : x0.toInt ≠ 0) : GC Z d 327 [.int x0] ws 0 0 (fun v u => ∃ z : Int32, v = some (.int z) ∧ u = ws ∧ In z 0 31 ∧ bt x0 z.toNatClampNeg = true ∧ ∀ j : Nat, bt x0 j = true → z.toNatClampNeg ≤ j) X := by
  intro post xp hP hX
  obtain ⟨w, hw, hb, -⟩ := low32 hx
  have ct : ∀ (k : Nat) (y : Int32), 0 ≤ y.toInt → y.toInt ≤ (w : Int) → (∀ j : Nat, (j : Int) < y.toInt → bt x0 j = false) → (w : Int) - y.toInt < (k : Int) → GG Z (d - 1) 327 post (gx xp) (10 + k * 20) 2 (fun j => xlook j [(0, .int x0), (1, .int y)]) [] ws 0 0 := by
    intro k
    induction k with
    | zero => intro y h0 h1 hn hm; omega
    | succ k ih =>
      intro y h0 h1 hn hm
      refine gg_w (M := 10 + k * 20 + 20) (by omega) ?_
      refine g_iload_n 3 (gd rfl) rfl rfl ?_
      refine g_iload_n 4 (gd rfl) rfl rfl ?_
      refine g_calls (As := [.int x0, .int y]) (r := []) 7 (gd rfl) rfl rfl rfl rfl rfl (Nat.le_of_ble_eq_true rfl) (Nat.zero_le _) (Nat.zero_le _) (x_311 (by omega)) (fun v u h => ?_)
      obtain ⟨rfl, h⟩ := h
      have hk : y.toInt = (y.toNatClampNeg : Int) := by
        show y.toInt = ((y.toInt.toNat : Nat) : Int)
        omega
      rcases h with ⟨hh, rfl⟩ | ⟨hh, rfl⟩
      · show GG _ _ _ _ _ _ _ _ [.int (Int32.ofInt 1)] _ _ _
        refine g_if_ne 10 16 (gd rfl) rfl rfl (fun c => ?_) (fun c => ?_)
        · refine g_iload_n 17 (gd rfl) rfl rfl ?_
          refine g_ireturn (gd rfl) rfl rfl (hP _ _ ⟨y, rfl, rfl, ⟨h0, by omega⟩, (has_bit hk (by omega)).mp hh, fun j hj => ?_⟩)
          refine Nat.le_of_not_lt fun c2 => ?_
          rw [hn j (by omega)] at hj
          cases hj
        · exact zn_eq c (in_c 1 rfl) rfl
      · show GG _ _ _ _ _ _ _ _ [.int (Int32.ofInt 0)] _ _ _
        refine g_if_ne 10 16 (gd rfl) rfl rfl (fun c => ?_) (fun c => ?_)
        · exact zn_ne c (in_c 0 rfl) rfl
        · have hne : y.toInt ≠ (w : Int) := fun e => hh ((has_bit e hw).mpr hb)
          refine g_iinc 13 (gd rfl) rfl rfl (Nat.le_of_ble_eq_true rfl) (fun z e => ?_)
          refine g_goto 2 (gd rfl) rfl ?_
          have ez := t_add (a := 0) (b := 31) e ⟨h0, by omega⟩ (in_c 1 rfl) rfl
          have h01 : (Int32.ofInt 1).toInt = 1 := rfl
          refine gg_w (by omega) (gg_f (gf_cons rfl (gf_cons rfl gf_nil)) (ih z (by omega) (by omega) (fun j hj => ?_) (by omega)))
          by_cases c3 : (j : Int) < y.toInt
          · exact hn j c3
          · cases e3 : bt x0 j with
            | false => rfl
            | true => exact absurd ((has_bit (x := x0) (y := y) (k := j) (by omega) (by omega)).mpr e3) hh
  refine g_enter2 (k := 327) (N := 1000) (by omega) rfl (Nat.le_of_ble_eq_true rfl) ?_
  refine g_iconst 0 1 (gd rfl) rfl rfl ?_
  refine g_istore_n 2 (gd rfl) rfl (Nat.le_of_ble_eq_true rfl) ?_
  have h00 : (Int32.ofInt 0).toInt = 0 := rfl
  exact gg_w (by omega) (gg_f (gf_cons rfl (gf_cons rfl gf_nil)) (ct 33 (Int32.ofInt 0) (by omega) (by omega) (fun j hj => absurd hj (by omega)) (by omega)))
end K327
/-! weakParts of the reference -/
def WPP (s : GS) (x n : Int) (u : Nat) : Prop := (u : Int) ≠ n ∧ LST (CLE s 1 x n) u
theorem wp_y {s : GS} {x n : Int} {f : Nat → Int32} {i : Nat} {z : Int32} {c d : Int} (hc : CCQ s 1 x n f) (h : c = (cnP (WPP s x n) i : Int)) (hi : (i : Int) < nmx s) (hx : (i : Int) ≠ n) (hz : z.toNatClampNeg = i) (hm : ∀ j : Nat, bt (f i) j = true → z.toNatClampNeg ≤ j) (hd : d = c + 1) : d = (cnP (WPP s x n) (i + 1) : Int) := by
  have p : WPP s x n i := ⟨hx, fun j hj hw => by have := hm j ((hc i j hi hx).mpr hw); omega⟩
  rw [cnP_y p]
  omega
theorem wp_n {s : GS} {x n : Int} {f : Nat → Int32} {i : Nat} {z : Int32} {c d : Int} (hc : CCQ s 1 x n f) (h : c = (cnP (WPP s x n) i : Int)) (hi : (i : Int) < nmx s) (hx : (i : Int) ≠ n) (hz : z.toNatClampNeg ≠ i) (hb : bt (f i) z.toNatClampNeg = true) (hm : ∀ j : Nat, bt (f i) j = true → z.toNatClampNeg ≤ j) (hd : d = c) : d = (cnP (WPP s x n) (i + 1) : Int) := by
  have q := hm i ((hc i i hi hx).mpr wl_0)
  have p : ¬ WPP s x n i := fun h2 => h2.2 z.toNatClampNeg (by omega) ((hc i _ hi hx).mp hb)
  rw [cnP_n p, hd]
  exact h
theorem wp_x {s : GS} {x n : Int} {i : Nat} {c d : Int} (h : c = (cnP (WPP s x n) i : Int)) (hx : (i : Int) = n) (hd : d = c) : d = (cnP (WPP s x n) (i + 1) : Int) := by
  rw [cnP_n (fun h2 : WPP s x n i => h2.1 hx), hd]
  exact h
def QW (L : FM) : Bool := qI L.1 112 && (qI L.1 113 && (qI L.1 114 && (qF L.2.2.1 109 19 && qF L.2.2.1 109 20)))
theorem wpn_cg {s t : GS} {L : FM} {x n z : Int} (h : z = (cnP (WPP t x n) (t.2.2.1 109 20).toInt.toNat : Int)) (hF : Fr L s t) (hk : QW L = true) : z = (cnP (WPP s x n) (s.2.2.1 109 20).toInt.toNat : Int) := by
  simp only [QW, Bool.and_eq_true] at hk
  obtain ⟨a, b, c, d, e⟩ := hk
  have q : WPP t x n = WPP s x n := by
    funext u
    unfold WPP LST CLE CLA bs
    rw [hF.1 112 a, hF.1 113 b, hF.1 114 c, hF.2.2.1 109 19 d]
  rw [q, hF.2.2.1 109 20 e] at h
  exact h
/-! cuts -/
def CUF (g : GVW) (v : Nat) (a b : Nat) : Prop := PE g 1 a b ∧ a ≠ v ∧ b ≠ v
def CUT (g : GVW) (v : Nat) : Prop := ∃ a b, PE g 1 v a ∧ PE g 1 v b ∧ a ≠ v ∧ b ≠ v ∧ ¬ wlq (CUF g v) a b
theorem pe_s {g : GVW} : ∀ a b, PE g 1 a b → PE g 1 b a := fun a b h => h.elim (fun q => Or.inr ⟨by decide, q⟩) (fun q => Or.inl q.2)
theorem cut_e {g h : GVW} (q : GEW g h) {v : Nat} (k : CUT g v) : CUT h v := by
  unfold CUT CUF PE at k ⊢
  rw [ajg_e q] at k
  exact k
theorem cle_v {s : GS} (hI : Inv s) {v : Nat} : ∀ a b, CLE s 1 (-1) (v : Int) a b ↔ CUF (gvZ s) v a b := by
  intro a b
  have key : CLE s 1 (-1) (v : Int) a b ↔ (CLE s 1 (-1) (-1) a b ∧ a ≠ v ∧ b ≠ v) := by
    constructor
    · rintro ⟨p, hp, hc, he⟩
      have r := arc_n hI hp hc.1
      have r1 := r.1.1.1
      have r2 := r.2.1.1.1
      have c1 : (s.1 113 (bs s + p)).toNatClampNeg = (s.1 113 (bs s + p)).toInt.toNat := rfl
      have c2 : (s.1 114 (bs s + p)).toNatClampNeg = (s.1 114 (bs s + p)).toInt.toNat := rfl
      have n1 := hc.2.2.1
      have n2 := hc.2.2.2
      refine ⟨⟨p, hp, ⟨hc.1, hc.2.1, by omega, by omega⟩, he⟩, ?_⟩
      rcases he with ⟨e1, e2⟩ | ⟨-, e1, e2⟩
      · exact ⟨by omega, by omega⟩
      · exact ⟨by omega, by omega⟩
    · rintro ⟨⟨p, hp, hc, he⟩, ha, hb⟩
      have r := arc_n hI hp hc.1
      have r1 := r.1.1.1
      have r2 := r.2.1.1.1
      have c1 : (s.1 113 (bs s + p)).toNatClampNeg = (s.1 113 (bs s + p)).toInt.toNat := rfl
      have c2 : (s.1 114 (bs s + p)).toNatClampNeg = (s.1 114 (bs s + p)).toInt.toNat := rfl
      refine ⟨p, hp, ⟨hc.1, hc.2.1, ?_, ?_⟩, he⟩
      · rcases he with ⟨e1, e2⟩ | ⟨-, e1, e2⟩ <;> omega
      · rcases he with ⟨e1, e2⟩ | ⟨-, e1, e2⟩ <;> omega
  rw [key, cle_pe hI a b]
  exact Iff.rfl
theorem cut_r {s : GS} (hI : Inv s) {v n : Nat} (hn : (n : Int) = nmx s) (hv : v < n) : cnP (WPP s (-1) (-1)) n < cnP (WPP s (-1) (v : Int)) n ↔ CUT (gvZ s) v := by
  have hE : ∀ a b, CLE s 1 (-1) (-1) a b → a < n ∧ b < n := fun a b ⟨p, hp, hc, he⟩ => by
    have r := arc_n hI hp hc.1
    have n1 := (nat_jn r.1.1 r.1.2).2
    have n2 := (nat_jn r.2.1.1 r.2.1.2).2
    have hn2 : (n : Int) = (s.2.2.1 109 20).toInt := hn
    rcases he with ⟨e1, e2⟩ | ⟨-, e1, e2⟩
    · rw [e1] at n1; rw [e2] at n2
      exact ⟨by omega, by omega⟩
    · rw [e2] at n1; rw [e1] at n2
      exact ⟨by omega, by omega⟩
  have e1 : cnP (WPP s (-1) (-1)) n = cnP (LST (PE (gvZ s) 1)) n := cnP_eq (fun u _ => by
    unfold WPP LST
    constructor
    · intro h j hj hw
      exact h.2 j hj ((wl_iff (cle_pe hI)).mpr hw)
    · intro h
      exact ⟨by omega, fun j hj hw => h j hj ((wl_iff (cle_pe hI)).mp hw)⟩)
  have e2 : cnP (WPP s (-1) (v : Int)) n = cnP (fun u => u ≠ v ∧ LST (CUF (gvZ s) v) u) n := cnP_eq (fun u _ => by
    unfold WPP LST
    constructor
    · intro h
      exact ⟨fun z => h.1 (by rw [z]), fun j hj hw => h.2 j hj ((wl_iff (cle_v hI)).mpr hw)⟩
    · intro h
      exact ⟨fun z => h.1 (by omega), fun j hj hw => h.2 j hj ((wl_iff (cle_v hI)).mp hw)⟩)
  rw [e1, e2]
  exact cn_cut (E := PE (gvZ s) 1) (F := CUF (gvZ s) v) pe_s (fun a b => Iff.rfl) (fun a b h => hE a b ((cle_pe hI a b).mpr h)) hv
/-- the class: beside, together -/
theorem cut_c {g : GVW} {near : Nat → Int32} {v be ng sd on al tg no rs : Int32} (hN : ∀ u w, FEQ near (Int32.ofInt (-1)) u w ↔ (u ≠ w ∧ PE g 1 u w)) (iv : In v 0 31) (e1 : be = near v.toNatClampNeg) (e2 : ng = -be) (e3 : sd = be &&& ng) (e4 : on = Int32.ofInt 1 <<< (v &&& 31)) (e5 : al = on ^^^ Int32.ofInt (-1)) (hf : FLD near sd al tg) (e6 : no = tg ^^^ Int32.ofInt (-1)) (e7 : rs = be &&& no) : rs.toInt ≠ 0 ↔ CUT g v.toNatClampNeg := by
  have v32 : v.toNatClampNeg < 32 := by
    show v.toInt.toNat < 32
    have := iv.2
    omega
  have hb : ∀ w, bt be w = true ↔ (v.toNatClampNeg ≠ w ∧ PE g 1 v.toNatClampNeg w) := fun w => by
    rw [← hN, e1]
    exact ⟨fun q => ⟨v32, q, bt_m1 (bt_lt q)⟩, fun q => q.2.1⟩
  have hal : ∀ w, w < 32 → (bt al w = true ↔ w ≠ v.toNatClampNeg) := fun w hw => by
    rw [bt_not e5 hw, bt_one e4 iv]
    simp
  have hE : ∀ u w, u ≠ v.toNatClampNeg → (FEQ near al u w ↔ (u ≠ w ∧ CUF g v.toNatClampNeg u w)) := fun u w hu => by
    constructor
    · rintro ⟨a, b, c⟩
      have q := (hN u w).mp ⟨a, b, bt_m1 (bt_lt b)⟩
      exact ⟨q.1, q.2, hu, (hal w (bt_lt b)).mp c⟩
    · rintro ⟨a, b, -, c⟩
      have q := (hN u w).mpr ⟨a, b⟩
      exact ⟨q.1, q.2.1, (hal w (bt_lt q.2.1)).mpr c⟩
  have wk : ∀ u w, u ≠ v.toNatClampNeg → (wlq (FEQ near al) u w ↔ wlq (CUF g v.toNatClampNeg) u w) := fun u w hu => by
    constructor
    · rintro ⟨j, hj⟩
      revert u
      induction j with
      | zero => intro u hu hj; rw [show u = w from hj]; exact wl_0
      | succ j ih =>
        intro u hu hj
        obtain ⟨x, hx, hw⟩ := hj
        have q := ((hE u x hu).mp hx).2
        exact wl_tr (wl_1 q) (ih x q.2.2 hw)
    · intro h
      obtain ⟨j, hj⟩ := wl_loop h
      clear h
      revert u
      induction j with
      | zero => intro u hu hj; rw [show u = w from hj]; exact wl_0
      | succ j ih =>
        intro u hu hj
        obtain ⟨x, hx, hw⟩ := hj
        exact wl_tr (wl_1 ((hE u x hu).mpr hx)) (ih x hx.2.2.2 hw)
  have sym : ∀ a b, CUF g v.toNatClampNeg a b → CUF g v.toNatClampNeg b a := fun a b h => ⟨pe_s a b h.1, h.2.2, h.2.1⟩
  have out : rs.toInt ≠ 0 ↔ ∃ b, bt be b = true ∧ bt tg b = false := by
    constructor
    · intro h
      obtain ⟨k, -, hk, -⟩ := low32 h
      have hk : bt rs k = true := hk
      exact ⟨k, bt_and1 e7 hk, bt_andn e6 e7 hk⟩
    · rintro ⟨b, h1, h2⟩
      refine bt_nz (k := b) ?_
      rw [bt_and e7, h1, bt_not e6 (bt_lt h1), h2]
      rfl
  rw [out]
  by_cases z : be.toInt = 0
  · constructor
    · rintro ⟨b, h1, -⟩
      exact absurd z (bt_nz h1)
    · rintro ⟨a, b, h1, -, h3, -⟩
      exact absurd z (bt_nz ((hb a).mpr ⟨fun e => h3 e.symm, h1⟩))
  · obtain ⟨k, k1, k2, k3, -⟩ := low32x z
    have k2 : bt be k = true := k2
    have sd1 : ∀ x, bt sd x = true ↔ x = k := fun x => by
      have e : sd = Int32.ofBitVec (BitVec.twoPow 32 k) := by
        unfold lowB at k3
        rw [e3, e2]; exact k3
      rw [e]
      show (BitVec.twoPow 32 k).getLsbD x = true ↔ _
      rw [BitVec.getLsbD_twoPow]
      simp only [k1, decide_true, Bool.true_and, decide_eq_true_eq]
      exact ⟨Eq.symm, Eq.symm⟩
    have hk := (hb k).mp k2
    have hkv : k ≠ v.toNatClampNeg := fun e => hk.1 e.symm
    have tgk : ∀ w, bt tg w = true ↔ wlq (CUF g v.toNatClampNeg) k w := fun w => by
      rw [hf w, ← wk k w hkv]
      exact ⟨fun ⟨x, h1, h2⟩ => by rw [(sd1 x).mp h1] at h2; exact h2, fun h => ⟨k, (sd1 k).mpr rfl, h⟩⟩
    constructor
    · rintro ⟨b, h1, h2⟩
      have q := (hb b).mp h1
      refine ⟨k, b, hk.2, q.2, hkv, fun e => q.1 e.symm, fun h => ?_⟩
      rw [(tgk b).mpr h] at h2
      cases h2
    · rintro ⟨a, b, h1, h2, h3, h4, h5⟩
      have qa := (hb a).mpr ⟨fun e => h3 e.symm, h1⟩
      have qb := (hb b).mpr ⟨fun e => h4 e.symm, h2⟩
      cases ta : bt tg a with
      | false => exact ⟨a, qa, ta⟩
      | true =>
        cases tb : bt tg b with
        | false => exact ⟨b, qb, tb⟩
        | true => exact absurd (wl_tr (wl_sym sym ((tgk a).mp ta)) ((tgk b).mp tb)) h5
def CUR (s t : GS) (x z : Int32) : Prop := ((t.2.2.1 109 0).toInt = 1 ∧ ¬ (0 ≤ x.toInt ∧ x.toInt < (s.2.2.1 109 20).toInt)) ∨ ((t.2.2.1 109 0).toInt = 0 ∧ (0 ≤ x.toInt ∧ x.toInt < (s.2.2.1 109 20).toInt) ∧ (z.toInt ≠ 0 ↔ CUT (gvZ s) x.toNatClampNeg))
/-! bridges -/
def BRE (g : GVW) (p : Nat) (u w : Nat) : Prop := ∃ q : Nat, q < 160 ∧ q ≠ p ∧ ((ARE g 0 q = (u : Int) ∧ ARE g 1 q = (w : Int)) ∨ (ARE g 0 q = (w : Int) ∧ ARE g 1 q = (u : Int)))
def BRG (g : GVW) (p : Nat) : Prop := ∃ x y : Nat, ARE g 0 p = (x : Int) ∧ ARE g 1 p = (y : Int) ∧ ¬ wlq (BRE g p) x y
theorem bre_s {g : GVW} {p : Nat} : ∀ a b, BRE g p a b → BRE g p b a := fun a b ⟨q, h1, h2, h3⟩ => ⟨q, h1, h2, h3.elim Or.inr Or.inl⟩
theorem bre_pe {g : GVW} {p : Nat} : ∀ a b, BRE g p a b → PE g 1 a b := fun a b ⟨q, h1, h2, h3⟩ => h3.elim (fun h => Or.inl ⟨q, h1, h.1, h.2⟩) (fun h => Or.inr ⟨by decide, q, h1, h.1, h.2⟩)
theorem pe_bre {g : GVW} {p x y : Nat} (hx : ARE g 0 p = (x : Int)) (hy : ARE g 1 p = (y : Int)) : ∀ a b, PE g 1 a b → BRE g p a b ∨ (a = x ∧ b = y) ∨ (a = y ∧ b = x) := fun a b h => by
  rcases h with ⟨q, h1, h2, h3⟩ | ⟨-, q, h1, h2, h3⟩
  · by_cases c : q = p
    · rw [c] at h2 h3
      exact Or.inr (Or.inl ⟨by omega, by omega⟩)
    · exact Or.inl ⟨q, h1, c, Or.inl ⟨h2, h3⟩⟩
  · by_cases c : q = p
    · rw [c] at h2 h3
      exact Or.inr (Or.inr ⟨by omega, by omega⟩)
    · exact Or.inl ⟨q, h1, c, Or.inr ⟨h2, h3⟩⟩
theorem brg_e {g h : GVW} (q : GEW g h) {p : Nat} (hp : p < 160) (k : BRG g p) : BRG h p := by
  obtain ⟨x, y, h1, h2, h3⟩ := k
  have e : BRE h p = BRE g p := by
    funext u w
    refine propext ⟨fun ⟨r, a, b, c⟩ => ⟨r, a, b, by rw [are_e q a, are_e q a]; exact c⟩, fun ⟨r, a, b, c⟩ => ⟨r, a, b, by rw [← are_e q a, ← are_e q a]; exact c⟩⟩
  exact ⟨x, y, by rw [← are_e q hp]; exact h1, by rw [← are_e q hp]; exact h2, by rw [e]; exact h3⟩
/-- the last time at a -/
theorem wl_last {E : Nat → Nat → Prop} {a b : Nat} (hab : a ≠ b) : ∀ (j u : Nat), wkq E j u b → wlq (fun u w => E u w ∧ w ≠ a) u b ∨ ∃ c, E a c ∧ c ≠ a ∧ wlq (fun u w => E u w ∧ w ≠ a) c b := by
  have first : wlq (fun u w => E u w ∧ w ≠ a) a b → ∃ c, E a c ∧ c ≠ a ∧ wlq (fun u w => E u w ∧ w ≠ a) c b := by
    rintro ⟨i, hi⟩
    cases i with
    | zero => exact absurd (show a = b from hi) hab
    | succ i =>
      obtain ⟨c, hc, hw⟩ := hi
      exact ⟨c, hc.1, hc.2, i, hw⟩
  intro j
  induction j with
  | zero => intro u h; rw [show u = b from h]; exact Or.inl wl_0
  | succ j ih =>
    intro u h
    obtain ⟨x, hx, hw⟩ := h
    rcases ih x hw with q | q
    · by_cases c : x = a
      · rw [c] at q; exact Or.inr (first q)
      · exact Or.inl (wl_tr (wl_1 (E := fun u w => E u w ∧ w ≠ a) ⟨hx, c⟩) q)
    · exact Or.inr q
/-- the class's round -/
theorem brg_c {g : GVW} {near : Nat → Int32} {p : Nat} {x y n0 o1 o2 sd o3 al rd : Int32} (hN : ∀ u w, FEQ near (Int32.ofInt (-1)) u w ↔ (u ≠ w ∧ PE g 1 u w)) (ix : In x 0 31) (iy : In y 0 31) (hx : ARE g 0 p = x.toInt) (hy : ARE g 1 p = y.toInt) (hne : x.toInt ≠ y.toInt) (hno : ¬ BRE g p x.toNatClampNeg y.toNatClampNeg) (e1 : n0 = near x.toNatClampNeg) (e2 : o1 = Int32.ofInt 1 <<< (y &&& 31)) (e3 : o2 = o1 ^^^ Int32.ofInt (-1)) (e4 : sd = n0 &&& o2) (e5 : o3 = Int32.ofInt 1 <<< (x &&& 31)) (e6 : al = o3 ^^^ Int32.ofInt (-1)) (hf : FLD near sd al rd) : bt rd y.toNatClampNeg = false ↔ BRG g p := by
  have xc : (x.toNatClampNeg : Int) = x.toInt := by
    show ((x.toInt.toNat : Nat) : Int) = _
    have := ix.1
    omega
  have yc : (y.toNatClampNeg : Int) = y.toInt := by
    show ((y.toInt.toNat : Nat) : Int) = _
    have := iy.1
    omega
  have x32 : x.toNatClampNeg < 32 := by have := ix.2; omega
  have y32 : y.toNatClampNeg < 32 := by have := iy.2; omega
  obtain ⟨X, hX⟩ : ∃ X : Nat, x.toNatClampNeg = X := ⟨_, rfl⟩
  obtain ⟨Y, hY⟩ : ∃ Y : Nat, y.toNatClampNeg = Y := ⟨_, rfl⟩
  rw [hX] at xc x32 hno e1
  rw [hY] at yc y32 hno ⊢
  have hXY : X ≠ Y := by omega
  have hPB := pe_bre (g := g) (p := p) (x := X) (y := Y) (by omega) (by omega)
  have hal : ∀ w, w < 32 → (bt al w = true ↔ w ≠ X) := fun w hw => by
    rw [bt_not e6 hw, bt_one e5 ix, hX]
    simp
  have hsd : ∀ w, bt sd w = true ↔ (X ≠ w ∧ PE g 1 X w ∧ w ≠ Y) := fun w => by
    by_cases hw : w < 32
    · rw [bt_and e4, Bool.and_eq_true, bt_not e3 hw, bt_one e2 iy, hY, e1]
      have q := hN X w
      constructor
      · rintro ⟨a, b⟩
        have r := q.mp ⟨x32, a, bt_m1 hw⟩
        exact ⟨r.1, r.2, by simpa using b⟩
      · rintro ⟨a, b, c⟩
        exact ⟨(q.mpr ⟨a, b⟩).2.1, by simpa using c⟩
    · constructor
      · intro h; exact absurd (bt_lt h) hw
      · rintro ⟨a, b, -⟩
        exact absurd (bt_lt ((hN X w).mpr ⟨a, b⟩).2.1) hw
  have key : bt rd Y = true ↔ wlq (BRE g p) X Y := by
    rw [hf Y]
    constructor
    · rintro ⟨c, hc, j, hj⟩
      obtain ⟨c1, c2, c3⟩ := (hsd c).mp hc
      have go : ∀ (j u : Nat), u ≠ X → wkq (FEQ near al) j u Y → wlq (BRE g p) u Y := by
        intro j
        induction j with
        | zero => intro u hu h; rw [show u = Y from h]; exact wl_0
        | succ j ih =>
          intro u hu h
          obtain ⟨w, hw, h2⟩ := h
          have r := (hN u w).mp ⟨hw.1, hw.2.1, bt_m1 (bt_lt hw.2.1)⟩
          have wX := (hal w (bt_lt hw.2.1)).mp hw.2.2
          rcases hPB u w r.2 with q | ⟨q, -⟩ | ⟨-, q⟩
          · exact wl_tr (wl_1 q) (ih w wX h2)
          · exact absurd q hu
          · exact absurd q wX
      rcases hPB X c c2 with q | ⟨-, q⟩ | ⟨q, -⟩
      · exact wl_tr (wl_1 q) (go j c (fun e => c1 e.symm) hj)
      · exact absurd q c3
      · exact absurd q hXY
    · intro h
      obtain ⟨j, hj⟩ := h
      have st : ∃ c, BRE g p X c ∧ c ≠ X ∧ wlq (fun u w => BRE g p u w ∧ w ≠ X) c Y := by
        rcases wl_last hXY j X hj with q | q
        · obtain ⟨i, hi⟩ := q
          cases i with
          | zero => exact absurd (show X = Y from hi) hXY
          | succ i =>
            obtain ⟨c, hc, hw⟩ := hi
            exact ⟨c, hc.1, hc.2, i, hw⟩
        · exact q
      obtain ⟨c, c1, c2, c3⟩ := st
      refine ⟨c, (hsd c).mpr ⟨fun e => c2 e.symm, bre_pe X c c1, fun e => hno (by rw [← e]; exact c1)⟩, ?_⟩
      refine wl_mono (fun u w q => ?_) (wl_loop c3)
      have r := (hN u w).mpr ⟨q.1, bre_pe u w q.2.1⟩
      exact ⟨r.1, r.2.1, (hal w (bt_lt r.2.1)).mpr q.2.2⟩
  have kf : bt rd Y = false ↔ ¬ wlq (BRE g p) X Y := by
    rw [← key]
    cases bt rd Y <;> simp
  rw [kf]
  constructor
  · intro h
    exact ⟨X, Y, by omega, by omega, h⟩
  · rintro ⟨x', y', h1, h2, h3⟩
    have ex : x' = X := by omega
    have ey : y' = Y := by omega
    rw [ex, ey] at h3
    exact h3
theorem brg_0 {g : GVW} {p x y : Nat} (hx : ARE g 0 p = (x : Int)) (hy : ARE g 1 p = (y : Int)) (h : wlq (BRE g p) x y) : ¬ BRG g p := by
  rintro ⟨x', y', h1, h2, h3⟩
  have ex : x' = x := by omega
  have ey : y' = y := by omega
  rw [ex, ey] at h3
  exact h3 h
