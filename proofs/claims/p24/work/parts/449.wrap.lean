/-! THE LAW AND ITS WRAPPERS: rows -/
/-- where a throw (e 0: an illegal argument, 1: an illegal state) at pc of the wrapper m goes on -/
noncomputable def hxc (m pc e : Nat) : Option Nat := match xh m with
  | [] => none
  | q :: r => cond (Nat.ble q.1 pc && Nat.blt pc q.2.1 && !(Nat.beq q.2.2.2 0)) (match xlook q.2.2.2 xq with
      | some (t, _) => cond (Nat.beq t e) (some q.2.2.1) (cond (Nat.beq t 0 && Nat.beq e 1) (match r with
        | q2 :: _ => cond (Nat.ble q2.1 pc && Nat.blt pc q2.2.1 && !(Nat.beq q2.2.2.2 0)) (match xlook q2.2.2.2 xq with
          | some (t2, _) => cond (Nat.beq t2 1) (some q2.2.2.1) none
          | none => none) none
        | [] => none) none)
      | none => none) none
theorem hxc_ok {m pc e hp : Nat} {K : AmK} {lv : List (Nat × Value)} {C S : Nat} {u : va_W} (hm : m < xm_n) (h1 : xk m = 1) (he : e < 2) (h : hxc m pc e = some hp) (hK : ∀ q, K hp lv [.ref q] u C S) : am_hx (xcls (xo m)) (xh m) K pc lv C S (if e = 0 then am_IA else am_IS) u := by
  have hRL : xcls (xo m) = RL := xwr_all hm h1
  unfold hxc at h
  cases hq : xh m with
  | nil => rw [hq] at h; cases h
  | cons q r =>
    rw [hq] at h
    obtain ⟨hb, h⟩ := xcond h
    simp only [Bool.and_eq_true] at hb
    split at h
    · rename_i t p hlq
      cases hte : Nat.beq t e with
      | true =>
        rw [hte] at h
        have hte := Nat.eq_of_beq_eq_true hte
        subst hte
        have h := Option.some.inj h
        subst h
        refine ⟨[], ⟨q.1, q.2.1, q.2.2.1, q.2.2.2⟩, tableOf r, rfl, ?_, ?_, ?_, ?_, fun z hz => by (cases hz), hK⟩
        · exact xcov hb.1.1 hb.1.2
        · exact xne0 hb.2
        · rw [hRL]; exact xq_w hlq
        · exact xcast_all he
      | false =>
        rw [hte] at h
        obtain ⟨hb2, h⟩ := xcond (h : cond _ _ none = _)
        rw [Bool.and_eq_true] at hb2
        have t0 := Nat.eq_of_beq_eq_true hb2.1
        have e1 := Nat.eq_of_beq_eq_true hb2.2
        subst t0; subst e1
        cases r with
        | cons q2 r2 =>
          obtain ⟨hb3, h⟩ := xcond h
          simp only [Bool.and_eq_true] at hb3
          split at h
          · rename_i t2 p2 hlq2
            obtain ⟨hb4, h⟩ := xcond h
            have ht2 := Nat.eq_of_beq_eq_true hb4
            subst ht2
            have h := Option.some.inj h
            subst h
            refine ⟨[⟨q.1, q.2.1, q.2.2.1, q.2.2.2⟩], ⟨q2.1, q2.2.1, q2.2.2.1, q2.2.2.2⟩, tableOf r2, rfl, ?_, ?_, ?_, ?_, fun z hz => ?_, hK⟩
            · exact xcov hb3.1.1 hb3.1.2
            · exact xne0 hb3.2
            · rw [hRL]; exact xq_w hlq2
            · exact xcast_all he
            · rw [List.mem_singleton.mp hz]
              refine ⟨xne0 hb.2, rfl, ?_⟩
              rw [hRL]; exact xq_w hlq
          · cases h
        | nil => cases h
    · cases h
/-- the rest of a wrapper's run: a throw goes to its handlers -/
noncomputable def gw (k : Nat) : GX := (none, am_no, am_hx (xcls (xo k)) (xh k))
/-- the rest of the law's run -/
def gl (Z : AmZ) (b L : Nat) (xs : Nat → Int32) : GX := (some (b, L, xs), am_wpW Z am_leaf 1300, fun _ _ _ _ _ _ _ => False)
/-- what a wrapper promises -/
def WC (Z : AmZ) (d k : Nat) (as : List Value) (ws : va_W) (mc ms : Nat) (P : AmR) : Prop := ∀ post : AmR, (∀ v u, P v u → post v u) → ∀ xp, am_wpW Z am_leaf d (xy k) as ws mc ms post xp
section WR
variable {Z : AmZ} {d m N pc : Nat} {ret : AmR} {xp : GX} {f : Nat → Option Value} {st r : List Value} {ws : va_W} {C S : Nat}
theorem w_enter {k : Nat} {as : List Value} {mc ms : Nat} {X : AmX} (hk : (Nat.blt 0 k && Nat.blt k xm_n && Nat.beq (xk k) 1) = true) (hlen : (lg_sl as).length ≤ xn k) (h : GG Z d k ret (gw k) N 0 (fun j => xlook j (lv_args 0 as)) [] ws mc ms) : am_wpW Z am_leaf (d + 1) (xy k) as ws mc ms ret X := by
  simp only [Bool.and_eq_true] at hk
  have h0 : 0 < k := Nat.le_of_ble_eq_true hk.1.1
  have h1 : k < xm_n := Nat.le_of_ble_eq_true hk.1.2
  have h2 := Nat.eq_of_beq_eq_true hk.2
  obtain ⟨c1, c2, c3, -, -, c6, -, -, -, -, -⟩ := xm_w h0 h1
  refine ⟨xc k, xn k, xr k, xh k, N, c6 (by rw [h2]; decide), c1, hlen, c2, ?_⟩
  have g := h (lv_args 0 as) (fun i v hv => xlook_mem hv) N (Nat.le_refl N)
  have e : xin k = false := xwi_all h1 h2
  rw [e] at g
  unfold gw at g
  rw [← c3] at g
  exact g
theorem g_callW {i k nn p0 : Nat} {As : List Value} {mc ms b L : Nat} {xs : Nat → Int32} {P : AmR} (p : Nat) (hd : GD m pc (.invokestatic i) 3) (hp : pc + 3 = p) (hl : xlD (xo m) i = some (k, nn, p0, 0)) (hk : (Nat.blt 0 k && Nat.blt k 1000 && Nat.beq (xsta k) 1) = true) (hst : st = As.reverse ++ r) (hn : As.length = nn) (hr : (r.map fun v => v.category).sum ≤ 8) (hC : mc ≤ C) (hS : ms ≤ S)
    (hc : WC Z 1300 k As ws mc ms P) (h : ∀ v u, P v u → GG Z d m ret (gl Z b L xs) N p f (v.toList ++ r) u (C - mc) (S - ms)) : GG Z d m ret (gl Z b L xs) (N + 1) pc f st ws C S := by
  simp only [Bool.and_eq_true] at hk
  obtain ⟨⟨k1, k2⟩, k4⟩ := hk
  have k1 := Nat.lt_of_lt_of_le Nat.zero_lt_one (Nat.le_of_ble_eq_true k1)
  have k2 : k < 1000 := Nat.le_of_ble_eq_true k2
  have k4 := Nat.eq_of_beq_eq_true k4
  obtain ⟨l1, l2, l3, -⟩ := xl_w hd.1 hl k2
  obtain ⟨-, -, c3, c4, -, -, c7, -, c9, -, -⟩ := xm_w k1 l1
  refine g_st fun lv hlv n hn2 => ?_
  unfold am_stp
  rw [hd.2]
  subst hp
  refine Or.inr ⟨xy k, As, r, mc, ms, hst, ⟨c4.1, c4.2, by rw [l2, hn]⟩, c7 k4, c9, hr, hC, hS, ?_⟩
  exact Or.inr (Or.inl ⟨l3 rfl, hc _ (fun v u hv => h v u hv lv hlv n hn2) (fun _ _ => False)⟩)
/-- a call inside a wrapper: a throw goes to a handler -/
theorem g_callvH {i k nn p0 b q : Nat} {As fs : List Value} {mc ms : Nat} {P : AmR} {Y : AmX} (p : Nat) (hd : GD m pc (.invokevirtual i) 3) (hp : pc + 3 = p) (hl : xlD (xo m) i = some (k, nn, p0, 0)) (hm : Nat.beq (xk m) 1 = true) (hk : (Nat.blt 0 k && Nat.blt k 1000 && Nat.beq (xk k) 0 && Nat.beq (xsta k) 0 && !(xin k)) = true) (hst : st = As.reverse ++ .ref b :: r) (hn : As.length = nn) (hq : ws[q]? = some (b, .inr (xo k, fs))) (hr : (r.map fun v => v.category).sum ≤ 8) (hC : mc ≤ C) (hS : ms ≤ S)
    (hc : GC Z d k (.ref b :: As) ws mc ms P Y) (hY : ∀ e u, Y e u → ∃ t hp, t < 2 ∧ e = (if t = 0 then am_IA else am_IS) ∧ hxc m pc t = some hp ∧ ∀ a, GG Z d m ret (gw m) N hp f [.ref a] u (C - mc) (S - ms)) (h : ∀ v u, P v u → GG Z d m ret (gw m) N p f (v.toList ++ r) u (C - mc) (S - ms)) : GG Z d m ret (gw m) (N + 1) pc f st ws C S := by
  simp only [Bool.and_eq_true] at hk
  obtain ⟨⟨⟨⟨k1, k2⟩, k3⟩, k4⟩, k5⟩ := hk
  have k1 := Nat.lt_of_lt_of_le Nat.zero_lt_one (Nat.le_of_ble_eq_true k1)
  have k2 : k < 1000 := Nat.le_of_ble_eq_true k2
  have k3 := Nat.eq_of_beq_eq_true k3
  have k4 := Nat.eq_of_beq_eq_true k4
  obtain ⟨l1, l2, l3, -⟩ := xl_w hd.1 hl k2
  obtain ⟨-, -, c3, c4, -, -, -, c8, c9, c10, -⟩ := xm_w k1 l1
  refine g_st fun lv hlv n hn2 => ?_
  unfold am_stp
  rw [hd.2]
  subst hp
  have hxo : xo k < 13 := xins_all k1 l1 k4
  obtain ⟨T, NN, hT⟩ : ∃ T NN, vwCl[xo k]? = some ((xy k).cls, T, NN) := by
    have e : (xo k) < vwCl.length := by
      have : vwCl.length = 13 := by decide +kernel
      omega
    obtain ⟨⟨Cn, T, NN⟩, hv⟩ : ∃ q, vwCl[xo k]? = some q := ⟨_, List.getElem?_eq_getElem e⟩
    refine ⟨T, NN, ?_⟩
    rw [hv, c3, ← (xcls_all hv).1]
  refine Or.inl ⟨xy k, b, As, r, mc, ms, q, xo k, fs, T, NN, hst, ⟨c4.1, c4.2, by rw [l2, hn]⟩, l3 rfl, c8 (by rw [k4]; decide), c10 k4 (by cases hx : xin k with
    | true => rw [hx] at k5; cases k5
    | false => rfl), c9, hq, hT, hr, hC, hS, ?_⟩
  refine hc _ _ (fun v u hv => h v u hv lv hlv n hn2) (fun e u hy => ?_)
  obtain ⟨t, hp, ht, rfl, hx, hg⟩ := hY e u hy
  exact hxc_ok hd.1 (Nat.eq_of_beq_eq_true hm) ht hx (fun a => hg a lv hlv n hn2)
/-- the script -/
theorem g_sld {b L : Nat} {xs : Nat → Int32} {j : Int32} {cW : AmC} {hx : AmH} (p : Nat) (hd : GD m pc (.iaload) 1) (hp : pc + 1 = p) (hj : vp_in j L) (h : ∀ z, z = xs j.toNatClampNeg → GG Z d m ret (some (b, L, xs), cW, hx) N p f (.int z :: r) ws C S) : GG Z d m ret (some (b, L, xs), cW, hx) (N + 1) pc f (.int j :: .ref b :: r) ws C S := by
  refine g_st fun lv hlv n hn2 => ?_
  unfold am_stp
  rw [hd.2]
  subst hp
  exact Or.inl ⟨b, L, xs, j, r, rfl, rfl, hj, h _ rfl lv hlv n hn2⟩
theorem g_slen {b L : Nat} {xs : Nat → Int32} {cW : AmC} {hx : AmH} (p : Nat) (hd : GD m pc (.arraylength) 1) (hp : pc + 1 = p) (h : GG Z d m ret (some (b, L, xs), cW, hx) N p f (.int (Int32.ofNat L) :: r) ws C S) : GG Z d m ret (some (b, L, xs), cW, hx) (N + 1) pc f (.ref b :: r) ws C S := by
  refine g_st fun lv hlv n hn2 => ?_
  unfold am_stp
  rw [hd.2]
  subst hp
  exact Or.inl ⟨b, L, xs, r, rfl, rfl, h lv hlv n hn2⟩
/-- the law's row of one long: the world's last cell -/
theorem g_ouS {A : Nat → Nat} {s : GS} {ex : va_W} {x : Int64} (p : Nat) (hd : GD m pc (.lastore) 1) (hp : pc + 1 = p) (h : GG Z d m ret xp N p f r (WW Z A (sL s 195 0 x) ++ ex) C S) : GG Z d m ret xp (N + 1) pc f (.long x :: .int (Int32.ofInt 0) :: .ref (A 195) :: r) (WW Z A s ++ ex) C S :=
  g_lastore (q := 195) (n := 1) p hd hp rfl (in_ix (in_c 0 rfl) rfl) h
theorem g_ouL {A : Nat → Nat} {s : GS} {ex : va_W} (p : Nat) (hd : GD m pc (.laload) 1) (hp : pc + 1 = p) (h : GG Z d m ret xp N p f (.long (s.2.1 195 0) :: r) (WW Z A s ++ ex) C S) : GG Z d m ret xp (N + 1) pc f (.int (Int32.ofInt 0) :: .ref (A 195) :: r) (WW Z A s ++ ex) C S :=
  g_laload (q := 195) (n := 1) p hd hp rfl (in_ix (in_c 0 rfl) rfl) (fun z e => by subst e; exact h)
/-- a call of the law's own: it doesn't throw -/
theorem g_callvL {i k nn p0 b q bb L : Nat} {xs : Nat → Int32} {As fs : List Value} {mc ms : Nat} {P : AmR} {Y : AmX} (p : Nat) (hd : GD m pc (.invokevirtual i) 3) (hp : pc + 3 = p) (hl : xlD (xo m) i = some (k, nn, p0, 0)) (hk : (Nat.blt 0 k && Nat.blt k 1000 && Nat.beq (xk k) 0 && Nat.beq (xsta k) 0 && !(xin k)) = true) (hst : st = As.reverse ++ .ref b :: r) (hn : As.length = nn) (hq : ws[q]? = some (b, .inr (xo k, fs))) (hr : (r.map fun v => v.category).sum ≤ 8) (hC : mc ≤ C) (hS : ms ≤ S)
    (hc : GC Z d k (.ref b :: As) ws mc ms P Y) (hY : ∀ e u, Y e u → False) (h : ∀ v u, P v u → GG Z d m ret (gl Z bb L xs) N p f (v.toList ++ r) u (C - mc) (S - ms)) : GG Z d m ret (gl Z bb L xs) (N + 1) pc f st ws C S := by
  simp only [Bool.and_eq_true] at hk
  obtain ⟨⟨⟨⟨k1, k2⟩, k3⟩, k4⟩, k5⟩ := hk
  have k1 := Nat.lt_of_lt_of_le Nat.zero_lt_one (Nat.le_of_ble_eq_true k1)
  have k2 : k < 1000 := Nat.le_of_ble_eq_true k2
  have k3 := Nat.eq_of_beq_eq_true k3
  have k4 := Nat.eq_of_beq_eq_true k4
  obtain ⟨l1, l2, l3, -⟩ := xl_w hd.1 hl k2
  obtain ⟨-, -, c3, c4, -, -, -, c8, c9, c10, -⟩ := xm_w k1 l1
  refine g_st fun lv hlv n hn2 => ?_
  unfold am_stp
  rw [hd.2]
  subst hp
  have hxo : xo k < 13 := xins_all k1 l1 k4
  obtain ⟨T, NN, hT⟩ : ∃ T NN, vwCl[xo k]? = some ((xy k).cls, T, NN) := by
    have e : (xo k) < vwCl.length := by
      have : vwCl.length = 13 := by decide +kernel
      omega
    obtain ⟨⟨Cn, T, NN⟩, hv⟩ : ∃ q, vwCl[xo k]? = some q := ⟨_, List.getElem?_eq_getElem e⟩
    refine ⟨T, NN, ?_⟩
    rw [hv, c3, ← (xcls_all hv).1]
  refine Or.inl ⟨xy k, b, As, r, mc, ms, q, xo k, fs, T, NN, hst, ⟨c4.1, c4.2, by rw [l2, hn]⟩, l3 rfl, c8 (by rw [k4]; decide), c10 k4 (by cases hx : xin k with
    | true => rw [hx] at k5; cases k5
    | false => rfl), c9, hq, hT, hr, hC, hS, ?_⟩
  exact hc _ _ (fun v u hv => h v u hv lv hlv n hn2) (fun e u hy => (hY e u hy).elim)
theorem g_sldL {b L : Nat} {xs : Nat → Int32} {j : Int32} (p : Nat) (hd : GD m pc (.iaload) 1) (hp : pc + 1 = p) (hj : vp_in j L) (h : ∀ z, GG Z d m ret (gl Z b L xs) N p f (.int z :: r) ws C S) : GG Z d m ret (gl Z b L xs) (N + 1) pc f (.int j :: .ref b :: r) ws C S := g_sld p hd hp hj (fun z _ => h z)
theorem g_slenL {b L : Nat} {xs : Nat → Int32} (p : Nat) (hd : GD m pc (.arraylength) 1) (hp : pc + 1 = p) (h : GG Z d m ret (gl Z b L xs) N p f (.int (Int32.ofNat L) :: r) ws C S) : GG Z d m ret (gl Z b L xs) (N + 1) pc f (.ref b :: r) ws C S := g_slen p hd hp h
/-- both texts have one length -/
def REL (s : GS) : Prop := s.2.2.1 46 1 = s.2.2.1 109 22
theorem rel_fr {s t : GS} {F : FM} (h : REL s) (hF : Fr F s t) (hk : (qF F.2.2.1 46 1 && qF F.2.2.1 109 22) = true) : REL t := by
  rw [Bool.and_eq_true] at hk
  unfold REL
  rw [hF.2.2.1 _ _ hk.1, hF.2.2.1 _ _ hk.2]
  exact h
theorem sx_in {i z : Int32} {c : Int} {L : Nat} (e : z = i + Int32.ofInt c) (h0 : 0 ≤ i.toInt) (h : i.toInt + 6 ≤ (L : Int)) (hL : L ≤ 384) (hc : decide (0 ≤ c ∧ c ≤ 5) = true) : vp_in z L := by
  have hc := of_decide_eq_true hc
  have a : In i 0 384 := ⟨h0, by omega⟩
  have b : In (Int32.ofInt c) 0 5 := by
    have q := in_c c (decide_eq_true (by omega))
    exact ⟨Int.le_trans hc.1 q.1, Int.le_trans q.2 hc.2⟩
  have b2 : (Int32.ofInt c).toInt ≤ 5 := b.2
  have t := t_add e a b rfl
  have g : 0 ≤ z.toInt := by have := b.1; omega
  exact vp_in_iff.mpr ⟨g, by omega⟩
theorem fr_195 {s t : GS} {F : FM} {x : Int64} (h : Fr F s t) : Fr (F.1, 195 :: F.2.1, F.2.2) s (sL t 195 0 x) := by
  refine fr_sL (by simp [qI]) ⟨h.1, fun q hq => h.2.1 q ?_, h.2.2.1, h.2.2.2⟩
  unfold qI at hq ⊢
  rw [List.any_cons] at hq
  cases hb : F.2.1.any (fun e => Nat.beq e q) with
  | false => rfl
  | true => rw [hb, Bool.or_true] at hq; cases hq
theorem fr_195' {s t : GS} {F : FM} (h : Fr F s t) : Fr (F.1, 195 :: F.2.1, F.2.2) s t := by
  refine ⟨h.1, fun q hq => h.2.1 q ?_, h.2.2.1, h.2.2.2⟩
  unfold qI at hq ⊢
  rw [List.any_cons] at hq
  cases hb : F.2.1.any (fun e => Nat.beq e q) with
  | false => rfl
  | true => rw [hb, Bool.or_true] at hq; cases hq
theorem inv_195 {t : GS} {x : Int64} (h : Inv t) : Inv (sL t 195 0 x) := inv_sL h rfl (l_rng x)
theorem kl_195 {t : GS} {x : Int64} (h : KL t) : KL (sL t 195 0 x) := kl_fr (L := ([], [195], [], [])) h (fr_sL rfl fr_rf) rfl
end WR
