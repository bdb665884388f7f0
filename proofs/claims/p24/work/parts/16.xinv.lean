section XK
variable {L n : Nat} {ss : List XS} {m pc i : Nat} {l : List (Nat × XV)} {st r : List XV} {C S : Nat} {fs : List XF} {h : XHp} {E : XE}
variable {Z : AmZ} {σ : Nat → Int32} {b : Nat} {xs : Nat → Int32} {ws : va_W} {lv : List (Nat × Value)} {vs vr : List Value} {cfs : List XG}
theorem xtk (vs : List Value) (n : Nat) : ((vs.take n).reverse).reverse ++ vs.drop n = vs := by rw [List.reverse_reverse, List.take_append_drop]
theorem xinvV (hm : m < xm_n) (hx : (match xlD (xo m) i with
      | some (k, n, _, w) => match st.drop n with
        | .inr (.inr (a + 3)) :: r => match xoc h a with
          | some (ci, _) => cond (Nat.beq ci (xo k) && Nat.beq w 0 && Nat.blt k 1000 && Nat.beq (xk k) 0 && Nat.beq (xsta k) 0 && !(xin k) && Nat.blt 0 k) (xcall m pc l r (.inr (.inr (a + 3)) :: (st.take n).reverse) C S fs h E k 0) none
          | none => none
        | _ => none
      | none => none) = some ss) (G : ∀ s' ∈ ss, XGood n s') (hxs : XX L xs σ) (hE : xer σ E) (hH : xhr σ b Z ws h) (hl : xlr σ b (xads ws) lv l) (hs : xsr σ b (xads ws) vs st) (hf : xfr σ b (xads ws) n cfs fs) :
    ∃ (y : MethodName) (b1 : Nat) (As r : List Value) (mc1 ms1 q ci : Nat) (fs : List Value) (T : u_T) (N : Nat), vs = As.reverse ++ Value.ref b1 :: r ∧ am_plain y As.length ∧ Cond.methodLink (xcls (xo m)) i y ∈ am_T ∧ Cond.instanceMethod y ∈ am_T ∧ Cond.selects y.cls y y ∈ am_T ∧ Cond.initialized y.cls ∈ am_T ∧ ws[q]? = some (b1, .inr (ci, fs)) ∧ vwCl[ci]? = some (y.cls, T, N) ∧ (r.map fun v => v.category).sum ≤ 8 ∧ mc1 ≤ C ∧ ms1 ≤ S ∧ am_wp Z am_leaf (1300 - cfs.length) y (.ref b1 :: As) ws mc1 ms1 (fun v u => XR L Z b xs m cfs n (pc + 3) lv (v.toList ++ r) u (C - mc1) (S - ms1)) (xHof m (xCC L Z b xs cfs).2 (XR L Z b xs m cfs n) pc lv (C - mc1) (S - ms1)) := by
  split at hx
  · rename_i k nn p9 w hlk
    split at hx
    · rename_i a r9 hdr
      split at hx
      · rename_i ci fv hha
        replace hha := xoc_w hha
        obtain ⟨hb, hx⟩ := xcond hx
        simp only [Bool.and_eq_true] at hb
        obtain ⟨⟨⟨⟨⟨⟨b1, b2⟩, b3⟩, b4⟩, b5⟩, b6⟩, b7⟩ := hb
        have b1 := Nat.eq_of_beq_eq_true b1
        have b2 := Nat.eq_of_beq_eq_true b2
        have b3 : k < 1000 := Nat.le_of_ble_eq_true b3
        have b4 := Nat.eq_of_beq_eq_true b4
        have b5 := Nat.eq_of_beq_eq_true b5
        have b6 : xin k = false := by simpa using b6
        have b7 : 0 < k := Nat.le_of_ble_eq_true b7
        obtain ⟨t1, t2⟩ := xsr_take hs nn
        rw [hdr] at t2
        obtain ⟨v1, vr, e1, hv1, hr⟩ := xsr_c t2
        obtain ⟨a1, rfl, ha⟩ := hv1
        obtain ⟨fs1, he, hfs⟩ := xhr_o hH ha hha
        obtain ⟨k1, k2, k3, -⟩ := xl_w hm hlk b3
        obtain ⟨c1, c2, c3, c4, c5, -, -, c8, c9, c10, -⟩ := xm_w b7 k1
        have hav : xsr σ b (xads ws) (.ref a1 :: (vs.take nn).reverse) (.inr (.inr (a + 3)) :: (st.take nn).reverse) := ⟨⟨a1, rfl, ha⟩, xsr_rev t1⟩
        obtain ⟨g1, g2, g3, g4, g5, g6⟩ := xcall_ok hx G hxs hE hH hl hr hav hf
        have hw := xwp b7 k1 b4 g4 g5 g6
        have hlen : (vs.take nn).reverse.length = nn := by
          have e2 : (vs.drop nn).length = vr.length + 1 := by rw [e1]; rfl
          rw [List.length_drop] at e2
          rw [List.length_reverse, List.length_take]
          omega
        obtain ⟨q, hq⟩ : ∃ q, vwCl[ci]? = some q := ⟨_, List.getElem?_eq_getElem (show ci < vwCl.length by rw [b1]; exact xins_all b7 k1 b5)⟩
        obtain ⟨Cn, T, N⟩ := q
        have hCn : Cn = (xy k).cls := by rw [(xcls_all hq).1, b1, c3]
        refine ⟨xy k, a1, (vs.take nn).reverse, vr, (xbud k).1, (xbud k).2, a, ci, fs1, T, N, ?_, ?_, k3 b2, c8 (by rw [b5]; decide), c10 b5 b6, c9, he, by rw [← hCn]; exact hq, g3, g1, g2, ?_⟩
        · rw [← e1]; exact (xtk vs nn).symm
        · rw [hlen]; exact ⟨c4.1, c4.2, k2⟩
        · exact am_wp_mono am_leaf_mono _ _ _ _ _ _ _ _ _ _ (fun _ _ z => z) (fun E u z => z.2) hw
      · cases hx
    · cases hx
  · cases hx
theorem xinvI (hm : m < xm_n) (hx : (match xlD (xo m) i with
      | some (k, n, _, _) => match st.drop n with
        | .inr (.inr (a + 1)) :: r => cond (Nat.beq k 1000) (cond (Nat.ble (xcat r) 8 && Nat.beq n 0) (some [((m, pc + 3, l, r, C, S, 0) :: fs, h, E)]) none) (cond (Nat.blt k 1000 && xin k && Nat.beq (xk k) 0 && Nat.beq (xsta k) 0 && Nat.blt 0 k) (xcall m pc l r (.inr (.inr (a + 1)) :: (st.take n).reverse) C S fs h E k 1) none)
        | _ => none
      | none => none) = some ss) (G : ∀ s' ∈ ss, XGood n s') (hxs : XX L xs σ) (hE : xer σ E) (hH : xhr σ b Z ws h) (hl : xlr σ b (xads ws) lv l) (hs : xsr σ b (xads ws) vs st) (hf : xfr σ b (xads ws) n cfs fs) :
    (∃ a r, vs = Value.ref a :: r ∧ (r.map fun v => v.category).sum ≤ 8 ∧ Cond.methodLink (xcls (xo m)) i objectInit ∈ am_T ∧ XR L Z b xs m cfs n (pc + 3) lv r ws C S) ∨ ∃ (y : MethodName) (b1 : Nat) (As r : List Value) (mc1 ms1 : Nat), vs = As.reverse ++ Value.ref b1 :: r ∧ am_plain y As.length ∧ y.name = "<init>" ∧ Cond.instanceMethod y ∈ am_T ∧ Cond.initialized y.cls ∈ am_T ∧ (r.map fun v => v.category).sum ≤ 8 ∧ mc1 ≤ C ∧ ms1 ≤ S ∧ (∃ bytes maxL, Cond.code y bytes maxL none ∈ am_T) ∧ (Cond.methodLink (xcls (xo m)) i y ∈ am_T ∨ ∃ host, Cond.methodLinkNest (xcls (xo m)) i y host ∈ lw_tbl) ∧ am_wp Z am_leaf (1300 - cfs.length) y (.ref b1 :: As) ws mc1 ms1 (fun v u => XR L Z b xs m cfs n (pc + 3) lv (v.toList ++ r) u (C - mc1) (S - ms1)) (fun _ _ => False) := by
  split at hx
  · rename_i k nn p9 w hlk
    split at hx
    · rename_i a r9 hdr
      obtain ⟨t1, t2⟩ := xsr_take hs nn
      rw [hdr] at t2
      obtain ⟨v1, vr, e1, hv1, hr⟩ := xsr_c t2
      obtain ⟨a1, rfl, hv1⟩ := xvr_a hv1
      cases hk : Nat.beq k 1000 with
      | true =>
        rw [hk] at hx
        obtain ⟨hb, hx⟩ := xcond (hx : cond _ _ none = _)
        rw [Bool.and_eq_true] at hb
        cases hx
        have hn := Nat.eq_of_beq_eq_true hb.2
        subst hn
        have e1 : vs = .ref a1 :: vr := e1
        exact Or.inl ⟨a1, vr, e1, by rw [xsr_cat hr]; exact Nat.le_of_ble_eq_true hb.1, xl_s hm hlk (Or.inl ⟨Nat.eq_of_beq_eq_true hk, rfl⟩), xg (G _ List.mem_cons_self) hxs hE hH hl hr hf⟩
      | false =>
        rw [hk] at hx
        obtain ⟨hb, hx⟩ := xcond (hx : cond _ _ none = _)
        simp only [Bool.and_eq_true] at hb
        obtain ⟨⟨⟨⟨b3, b6⟩, b4⟩, b5⟩, b7⟩ := hb
        have b3 : k < 1000 := Nat.le_of_ble_eq_true b3
        have b4 := Nat.eq_of_beq_eq_true b4
        have b5 := Nat.eq_of_beq_eq_true b5
        have b7 : 0 < k := Nat.le_of_ble_eq_true b7
        obtain ⟨k1, k2, k3, k4⟩ := xl_w hm hlk b3
        obtain ⟨c1, c2, c3, c4, c5, -, -, c8, c9, c10, c11⟩ := xm_w b7 k1
        have hav : xsr σ b (xads ws) (.ref a1 :: (vs.take nn).reverse) (.inr (.inr (a + 1)) :: (st.take nn).reverse) := ⟨hv1, xsr_rev t1⟩
        obtain ⟨g1, g2, g3, g4, g5, g6⟩ := xcall_ok hx G hxs hE hH hl hr hav hf
        have hw := xwp b7 k1 b4 g4 g5 g6
        have hlen : (vs.take nn).reverse.length = nn := by
          have e2 : (vs.drop nn).length = vr.length + 1 := by rw [e1]; rfl
          rw [List.length_drop] at e2
          rw [List.length_reverse, List.length_take]
          omega
        have hin : (xy k).name = "<init>" := of_decide_eq_true (by rw [← c11]; exact b6)
        refine Or.inr ⟨xy k, a1, (vs.take nn).reverse, vr, (xbud k).1, (xbud k).2, ?_, ?_, hin, c8 (by rw [b5]; decide), c9, g3, g1, g2, ⟨xc k, xn k, ?_⟩, ?_, ?_⟩
        · rw [← e1]; exact (xtk vs nn).symm
        · rw [hlen]; exact ⟨c4.1, c4.2, k2⟩
        · have hc := c5 b4
          rw [am_initret hin hc] at hc; exact hc
        · by_cases hw0 : w = 0
          · exact Or.inl (k3 hw0)
          · exact Or.inr ⟨_, k4 hw0⟩
        · exact am_wp_mono am_leaf_mono _ _ _ _ _ _ _ _ _ _ (fun _ _ z => z) (fun E u z => absurd z.1 (by decide)) hw
    · cases hx
  · cases hx
/-- a throw that reaches the waiting frames -/
theorem xunw_ok {e : Nat} (he : e < 2) {E2 : XE} (hxs : XX L xs σ) (hE : xer σ E2) (hH : xhr σ b Z ws h) : ∀ {fs fs2 : List XF} {cfs : List XG}, xunw e fs = some fs2 → XGood n (fs2, h, E2) → xfr σ b (xads ws) n cfs fs → (xCC L Z b xs cfs).2 (if e = 0 then am_IA else am_IS) ws
  | [], fs2, cfs, hx, G, hf => by cases hx
  | (m, pc, l, st, C, S, f) :: fs, fs2, [], hx, G, hf => hf.elim
  | (m, pc, l, st, C, S, f) :: fs, fs2, (m1, pc1, lv, vr, C1, S1, nf, f1) :: cs, hx, G, hf => by
    obtain ⟨rfl, rfl, rfl, rfl, rfl, hn, hl, hr, hf⟩ := hf
    unfold xunw at hx
    obtain ⟨hf1, hx⟩ := xcond hx
    rw [Bool.and_eq_true] at hf1
    have hf0 : f1 = 0 := Nat.eq_of_beq_eq_true hf1.1
    have hm1 : m1 < xm_n := Nat.le_of_ble_eq_true hf1.2
    refine ⟨hf0, ?_⟩
    have hand : ∀ (q : Nat × Nat × Nat × Nat), fs2 = (m1, q.2.2.1, l, [.inr (.inr 1)], C1, S1, 0) :: fs → ∀ a, XRun L Z b xs m1 cs.length (xCC L Z b xs cs).1 (xCC L Z b xs cs).2 nf q.2.2.1 lv [.ref a] ws C1 S1 := by
      intro q e1 a
      rw [e1] at G
      exact XRun_mono hn (xg G hxs hE hH hl ⟨⟨a, rfl⟩, trivial⟩ hf)
    unfold xHof
    split at hx
    · rename_i hk0
      simp only [hk0]
      exact xunw_ok he hxs hE hH hx G hf
    · rename_i q r hk1 hq
      simp only [hk1]
      have hRL : xcls (xo m1) = RL := xwr_all hm1 hk1
      obtain ⟨hb, hx⟩ := xcond hx
      simp only [Bool.and_eq_true] at hb
      split at hx
      · rename_i t p hlq
        cases hte : Nat.beq t e with
        | true =>
          rw [hte] at hx
          have hte := Nat.eq_of_beq_eq_true hte
          subst hte
          refine ⟨[], ⟨q.1, q.2.1, q.2.2.1, q.2.2.2⟩, tableOf r, by rw [hq]; rfl, ?_, ?_, ?_, ?_, fun z hz => by (cases hz), hand q (Option.some.inj hx).symm⟩
          · exact xcov hb.1.1 hb.1.2
          · exact xne0 hb.2
          · rw [hRL]; exact xq_w hlq
          · exact xcast_all he
        | false =>
          rw [hte] at hx
          obtain ⟨hb2, hx⟩ := xcond (hx : cond _ _ none = _)
          rw [Bool.and_eq_true] at hb2
          have t0 := Nat.eq_of_beq_eq_true hb2.1
          have e1 := Nat.eq_of_beq_eq_true hb2.2
          subst t0; subst e1
          cases r with
          | cons q2 r2 =>
            obtain ⟨hb3, hx⟩ := xcond hx
            simp only [Bool.and_eq_true] at hb3
            split at hx
            · rename_i t2 p2 hlq2
              obtain ⟨hb4, hx⟩ := xcond hx
              have ht2 := Nat.eq_of_beq_eq_true hb4
              subst ht2
              refine ⟨[⟨q.1, q.2.1, q.2.2.1, q.2.2.2⟩], ⟨q2.1, q2.2.1, q2.2.2.1, q2.2.2.2⟩, tableOf r2, by rw [hq]; rfl, ?_, ?_, ?_, ?_, fun z hz => ?_, hand q2 (Option.some.inj hx).symm⟩
              · exact xcov hb3.1.1 hb3.1.2
              · exact xne0 hb3.2
              · rw [hRL]; exact xq_w hlq2
              · exact xcast_all he
              · rw [List.mem_singleton.mp hz]
                refine ⟨xne0 hb.2, rfl, ?_⟩
                rw [hRL]; exact xq_w hlq
            · cases hx
          | nil => cases hx
      · cases hx
    · cases hx
theorem xretK {v : Option Value} {x : Option XV} {m2 pc2 : Nat} {l2 : List (Nat × XV)} {st2 : List XV} {C2 S2 f2 : Nat} {fs2 : List XF} {cfs : List XG} (G : XGood n ((m2, pc2 + 3, l2, x.toList ++ st2, C2, S2, 0) :: fs2, h, E)) (hv : xsr σ b (xads ws) v.toList x.toList) (hxs : XX L xs σ) (hE : xer σ E) (hH : xhr σ b Z ws h) (hf : xfr σ b (xads ws) (n + 1) cfs ((m2, pc2, l2, st2, C2, S2, f2) :: fs2)) : (xCC L Z b xs cfs).1 v ws := by
  match cfs, hf with
  | [], hf => exact hf.elim
  | (m1, pc1, lv1, vr1, C1, S1, nf, f1) :: cs, hf =>
    obtain ⟨rfl, rfl, rfl, rfl, rfl, hn, hl, hr, hf⟩ := hf
    exact XRun_mono (Nat.le_of_succ_le hn) (xg G hxs hE hH hl (xsr_append hv hr) (xfr_le (Nat.le_succ n) hf))
theorem xlf1 : Cond.static yX11_allow ∈ am_T := am_at 1322 (by decide +kernel) (by decide +kernel)
theorem xlf2 : Cond.static yX11_ready ∈ am_T := am_at 1388 (by decide +kernel) (by decide +kernel)
theorem xlf3 : am_plain yX11_allow 1 := by refine ⟨by decide +kernel, by decide +kernel, by decide +kernel⟩
theorem xlf4 : am_plain yX11_ready 1 := by refine ⟨by decide +kernel, by decide +kernel, by decide +kernel⟩
theorem xleaf_ok {e : Nat} (he : e < 2) {g : XI} {g1 : Int32} (hx : xleaf m pc l g r C S fs h E e = some ss) (G : ∀ s' ∈ ss, XGood n s') (hxs : XX L xs σ) (hE : xer σ E) (hg : xir σ g1 g) (hH : xhr σ b Z ws h) (hl : xlr σ b (xads ws) lv l) (hr : xsr σ b (xads ws) vr r) (hf : xfr σ b (xads ws) n cfs fs) :
    (vr.map fun v => v.category).sum ≤ 8 ∧ 1 ≤ C ∧ 6 ≤ S ∧ cfs.length ≤ 1000 ∧ am_thr (if e = 0 then am_IA else am_IS) [.int g1] ws 1 6 (fun v u => XR L Z b xs m cfs n (pc + 3) lv (v.toList ++ vr) u (C - 1) (S - 6)) (xHof m (xCC L Z b xs cfs).2 (XR L Z b xs m cfs n) pc lv (C - 1) (S - 6)) := by
  obtain ⟨hb, hx⟩ := xcond hx
  simp only [Bool.and_eq_true] at hb
  obtain ⟨⟨⟨b1, b2⟩, b3⟩, b4⟩ := hb
  refine ⟨by rw [xsr_cat hr]; exact Nat.le_of_ble_eq_true b3, Nat.le_of_ble_eq_true b1, Nat.le_of_ble_eq_true b2, by rw [xfr_len hf]; exact Nat.le_of_ble_eq_true b4, g1, rfl, ?_⟩
  split at hx
  · rename_i fs2 hu
    cases hx
    obtain ⟨q, hq, h1, h2⟩ := xbr_ok (k := 0) (y := .inl 0) hE 0 hg (show xir σ 0 (.inl 0) from rfl)
    have g9 := G _ (List.mem_map.mpr ⟨q, hq, rfl⟩)
    refine ⟨fun z => ?_, fun z => ?_⟩
    · have hq1 : q.1 = false := by
        cases hq1 : q.1 with
        | false => rfl
        | true => exact absurd (h1.mp hq1) z
      rw [hq1] at g9
      exact xg g9 hxs h2 hH hl hr hf
    · rw [h1.mpr z] at g9
      exact ⟨Nat.le_refl _, Nat.le_refl _, (xunw_ok (cfs := (m, pc, lv, vr, C - 1, S - 6, n, 0) :: cfs) he hxs h2 hH hu g9 ⟨rfl, rfl, rfl, rfl, rfl, Nat.le_refl n, hl, hr, hf⟩).2⟩
  · cases hx
theorem xcopy_ok (hw : Cond.methodLink (xcls (xo m)) i arraycopyName ∈ am_T) (hx : xcopy m pc l st C S fs h E = some ss) (G : ∀ s' ∈ ss, XGood n s') (hxs : XX L xs σ) (hE : xer σ E) (hH : xhr σ b Z ws h) (hl : xlr σ b (xads ws) lv l) (hs : xsr σ b (xads ws) vs st) (hf : xfr σ b (xads ws) n cfs fs) : am_arraycopy Z (xcls (xo m)) i (fun r u => XR L Z b xs m cfs n (pc + 3) lv r u C S) vs ws := by
  unfold xcopy at hx
  split at hx
  · rename_i nn dp a sp a0 r9
    split at hx
    · rename_i t0 n0 d0 m0 hh0
      replace hh0 := xac_w hh0
      split at hx
      · rename_i t1 n1 d1 m1 hh1
        replace hh1 := xac_w hh1
        obtain ⟨hb, hx⟩ := xcond hx
        simp only [Bool.and_eq_true] at hb
        obtain ⟨⟨⟨b1, b2⟩, b3⟩, b4⟩ := hb
        cases hx
        have b1 := Nat.eq_of_beq_eq_true b1
        have b2 : t0 < 2 := Nat.le_of_ble_eq_true b2
        obtain ⟨b5, b6, b7, b8⟩ := of_decide_eq_true b3
        obtain ⟨x1, v1, rfl, hx1, hs⟩ := xsr_i hs
        obtain ⟨x2, v2, rfl, hx2, hs⟩ := xsr_i hs
        obtain ⟨x3, v3, rfl, hx3, hs⟩ := xsr_c hs
        obtain ⟨x4, v4, rfl, hx4, hs⟩ := xsr_i hs
        obtain ⟨x5, v5, rfl, hx5, hs9⟩ := xsr_c hs
        obtain ⟨a1, rfl, ha1⟩ := hx3
        obtain ⟨a2, rfl, ha2⟩ := hx5
        have hx1 : x1 = nn := hx1
        have hx2 : x2 = dp := hx2
        have hx4 : x4 = sp := hx4
        subst hx1; subst hx2; subst hx4; subst b6; subst b7; subst b1
        have hn1 : x1.toNatClampNeg = n1 := by
          show x1.toInt.toNat = n1
          rw [b5]; rfl
        have z0 : (0 : Int32).toNatClampNeg = 0 := rfl
        have hn0 : ¬ x1 < 0 := xpos (by rw [b5]; omega)
        refine ⟨x1, 0, a1, 0, a2, v5, a0, a, n0, n1, rfl, hw, by rw [xsr_cat hs9]; exact Nat.le_of_ble_eq_true b4, by decide, by decide, hn0, by rw [hn1, z0]; omega, by rw [hn1, z0]; omega, ?_⟩
        match t0, b2, hh0, hh1 with
        | 0, _, hh0, hh1 =>
          obtain ⟨f, he0, hc0, hf0⟩ := xhr_0 hH ha2 hh0
          obtain ⟨g, he1, hc1, hf1⟩ := xhr_0 hH ha1 hh1
          refine Or.inl ⟨f, g, he0, he1, ?_⟩
          refine xg (G _ List.mem_cons_self) hxs hE (xhr_set hH he1 ⟨_, rfl, Nat.le_trans b8 hc0, fun j hj => ?_⟩) (by rw [xads_eq he1]; exact hl) (by rw [xads_eq he1]; exact hs9) (by rw [xads_eq he1]; exact hf)
          rw [pk_cpy_in (by rw [z0]; omega) (by rw [z0, hn1]; omega), z0]
          simp only [Nat.zero_add, Nat.sub_zero]
          exact hf0 j (by omega)
        | 1, _, hh0, hh1 =>
          obtain ⟨f, he0, hc0, hf0⟩ := xhr_1 hH ha2 hh0
          obtain ⟨g, he1, hc1, hf1⟩ := xhr_1 hH ha1 hh1
          refine Or.inr ⟨f, g, he0, he1, ?_⟩
          refine xg (G _ List.mem_cons_self) hxs hE (xhr_set hH he1 ⟨_, rfl, Nat.le_trans b8 hc0, fun j hj => ?_⟩) (by rw [xads_eq he1]; exact hl) (by rw [xads_eq he1]; exact hs9) (by rw [xads_eq he1]; exact hf)
          rw [pk_cpy_in (by rw [z0]; omega) (by rw [z0, hn1]; omega), z0]
          simp only [Nat.zero_add, Nat.sub_zero]
          exact hf0 j (by omega)
        | t + 2, b2, _, _ => exact absurd b2 (by omega)
      · cases hx
    · cases hx
  · cases hx
theorem xinvS (hm : m < xm_n) (hx : (match xlD (xo m) i with
      | some (k, n, _, w) => cond (Nat.ble n st.length && Nat.blt 0 k) (cond (Nat.beq k 1001) (xcopy m pc l st C S fs h E) (cond (Nat.beq k 1002 || Nat.beq k 1003) (match st with
        | .inl g :: r => xleaf m pc l g r C S fs h E (k - 1002)
        | _ => none) (cond (Nat.blt k 1000 && Nat.beq (xsta k) 1 && (Nat.beq (xk k) 0 || (Nat.beq (xk k) 1 && Nat.beq m 0 && Nat.beq w 0 && Nat.beq fs.length 0))) (xcall m pc l (st.drop n) (st.take n).reverse C S fs h E k (cond (Nat.beq w 0 && Nat.beq (xk k) 0) 0 1)) none))) none
      | none => none) = some ss) (G : ∀ s' ∈ ss, XGood n s') (hxs : XX L xs σ) (hE : xer σ E) (hH : xhr σ b Z ws h) (hl : xlr σ b (xads ws) lv l) (hs : xsr σ b (xads ws) vs st) (hf : xfr σ b (xads ws) n cfs fs) :
    am_arraycopy Z (xcls (xo m)) i (fun r u => XR L Z b xs m cfs n (pc + 3) lv r u C S) vs ws ∨ ∃ (y : MethodName) (As r : List Value) (mc1 ms1 : Nat), vs = As.reverse ++ r ∧ am_plain y As.length ∧ Cond.static y ∈ am_T ∧ Cond.initialized y.cls ∈ am_T ∧ (r.map fun v => v.category).sum ≤ 8 ∧ mc1 ≤ C ∧ ms1 ≤ S ∧ ((Cond.methodLink (xcls (xo m)) i y ∈ am_T ∧ am_wp Z am_leaf (1300 - cfs.length) y As ws mc1 ms1 (fun v u => XR L Z b xs m cfs n (pc + 3) lv (v.toList ++ r) u (C - mc1) (S - ms1)) (xHof m (xCC L Z b xs cfs).2 (XR L Z b xs m cfs n) pc lv (C - mc1) (S - ms1))) ∨ (Cond.methodLink (xcls (xo m)) i y ∈ am_T ∧ (if m = 0 then am_wpW Z am_leaf 1300 else am_no) y As ws mc1 ms1 (fun v u => XR L Z b xs m cfs n (pc + 3) lv (v.toList ++ r) u (C - mc1) (S - ms1)) (fun _ _ => False)) ∨ ∃ host, Cond.methodLinkNest (xcls (xo m)) i y host ∈ lw_tbl ∧ am_wp Z am_leaf (1300 - cfs.length) y As ws mc1 ms1 (fun v u => XR L Z b xs m cfs n (pc + 3) lv (v.toList ++ r) u (C - mc1) (S - ms1)) (fun _ _ => False)) := by
  split at hx
  · rename_i k nn p9 w hlk
    obtain ⟨hb, hx⟩ := xcond hx
    rw [Bool.and_eq_true] at hb
    have h0 : 0 < k := Nat.le_of_ble_eq_true hb.2
    cases h1 : Nat.beq k 1001 with
    | true =>
      rw [h1] at hx
      exact Or.inl (xcopy_ok (xl_s hm hlk (Or.inr (Or.inl ⟨Nat.eq_of_beq_eq_true h1, rfl⟩))) hx G hxs hE hH hl hs hf)
    | false =>
      rw [h1] at hx
      simp only [cond] at hx
      refine Or.inr ?_
      cases h2 : (Nat.beq k 1002 || Nat.beq k 1003) with
      | true =>
        rw [h2] at hx
        simp only at hx
        split at hx
        · rename_i g r9
          obtain ⟨g1, vr, rfl, hg, hr⟩ := xsr_i hs
          rw [Bool.or_eq_true] at h2
          have he : k - 1002 < 2 := by
            rcases h2 with z | z <;> have z := Nat.eq_of_beq_eq_true z <;> omega
          obtain ⟨q1, q2, q3, q4, q5⟩ := xleaf_ok he hx G hxs hE hg hH hl hr hf
          obtain ⟨d, hd2⟩ : ∃ d, 1300 - cfs.length = d + 1 := ⟨1299 - cfs.length, by omega⟩
          rcases h2 with z | z
          · have z := Nat.eq_of_beq_eq_true z
            subst z
            refine ⟨yX11_allow, [.int g1], vr, 1, 6, rfl, xlf3, xlf1, am_ini11, q1, q2, q3, Or.inl ⟨xl_s hm hlk (Or.inr (Or.inr (Or.inl ⟨rfl, rfl⟩))), ?_⟩⟩
            rw [hd2]
            exact Or.inl ⟨by omega, Or.inl ⟨rfl, q5⟩⟩
          · have z := Nat.eq_of_beq_eq_true z
            subst z
            refine ⟨yX11_ready, [.int g1], vr, 1, 6, rfl, xlf4, xlf2, am_ini11, q1, q2, q3, Or.inl ⟨xl_s hm hlk (Or.inr (Or.inr (Or.inr ⟨rfl, rfl⟩))), ?_⟩⟩
            rw [hd2]
            exact Or.inl ⟨by omega, Or.inr ⟨rfl, q5⟩⟩
        · cases hx
      | false =>
        rw [h2] at hx
        obtain ⟨hb2, hx⟩ := xcond (hx : cond _ _ none = _)
        simp only [Bool.and_eq_true] at hb2
        obtain ⟨⟨b3, b5⟩, b4⟩ := hb2
        have b3 : k < 1000 := Nat.le_of_ble_eq_true b3
        have b5 := Nat.eq_of_beq_eq_true b5
        obtain ⟨k1, k2, k3, k4⟩ := xl_w hm hlk b3
        obtain ⟨c1, c2, c3, c4, c5, c6, c7, -, c9, -, c11⟩ := xm_w h0 k1
        obtain ⟨t1, t2⟩ := xsr_take hs nn
        obtain ⟨g1, g2, g3, g4, g5, g6⟩ := xcall_ok hx G hxs hE hH hl t2 (xsr_rev t1) hf
        have hlen : (vs.take nn).reverse.length = nn := by
          rw [List.length_reverse, List.length_take, xsr_len hs]
          have := Nat.le_of_ble_eq_true hb.1
          omega
        refine ⟨xy k, (vs.take nn).reverse, vs.drop nn, (xbud k).1, (xbud k).2, (xtk vs nn).symm, ?_, c7 b5, c9, g3, g1, g2, ?_⟩
        · rw [hlen]; exact ⟨c4.1, c4.2, k2⟩
        · cases hk0 : Nat.beq (xk k) 0 with
          | true =>
            have hk0' := Nat.eq_of_beq_eq_true hk0
            have hw := xwp h0 k1 hk0' g4 g5 g6
            by_cases hw0 : w = 0
            · exact Or.inl ⟨k3 hw0, am_wp_mono am_leaf_mono _ _ _ _ _ _ _ _ _ _ (fun _ _ z => z) (fun E u z => z.2) hw⟩
            · refine Or.inr (Or.inr ⟨_, k4 hw0, am_wp_mono am_leaf_mono _ _ _ _ _ _ _ _ _ _ (fun _ _ z => z) (fun E u z => ?_) hw⟩)
              have hwb : Nat.beq w 0 = false := by
                cases hh : Nat.beq w 0 with
                | false => rfl
                | true => exact absurd (Nat.eq_of_beq_eq_true hh) hw0
              rw [hwb] at z
              have z1 : (1 : Nat) = 0 := z.1
              cases z1
          | false =>
            rw [hk0, Bool.false_or, Bool.and_eq_true, Bool.and_eq_true, Bool.and_eq_true] at b4
            have hk1 := Nat.eq_of_beq_eq_true b4.1.1.1
            have hm0 := Nat.eq_of_beq_eq_true b4.1.1.2
            have hw0 := Nat.eq_of_beq_eq_true b4.1.2
            have hcf : cfs = [] := List.length_eq_zero_iff.mp (by rw [xfr_len hf]; exact Nat.eq_of_beq_eq_true b4.2)
            subst hcf
            refine Or.inr (Or.inl ⟨k3 hw0, ?_⟩)
            rw [if_pos hm0]
            refine ⟨xc k, xn k, xr k, xh k, n, c6 (by rw [hk1]; decide), c1, g4, c2, ?_⟩
            unfold XR XRun at g6
            rw [if_neg (Nat.pos_iff_ne_zero.mp h0), if_neg (Nat.pos_iff_ne_zero.mp h0)] at g6
            have eH : ∀ X, xHof k X = am_hx (xcls (xo k)) (xh k) := by
              intro X
              unfold xHof
              simp only [hk1]
            have hin : xin k = false := xwi_all k1 hk1
            rw [eH, ← c3, hin] at g6
            exact g6
  · cases hx
theorem xretI {x : XI} {v1 : Int32} (hx : cond (xrok E (xr m) x) (match fs with
      | [] => cond (decide (xiv E x = (1, 1)) && Nat.beq m 0) (some []) none
      | (m2, pc2, l2, st2, C2, S2, _) :: fs2 => some [((m2, pc2 + 3, l2, .inl x :: st2, C2, S2, 0) :: fs2, h, E)]) none = some ss) (G : ∀ s' ∈ ss, XGood n s') (hxs : XX L xs σ) (hE : xer σ E) (hH : xhr σ b Z ws h) (hv : xir σ v1 x) (hf : xfr σ b (xads ws) (n + 1) cfs fs) : ∃ (v : Int32) (ty : FieldType), [Value.int v1] = [Value.int v] ∧ xr m = some ty ∧ narrow ty (.int v) = .int v ∧ (xCC L Z b xs cfs).1 (some (.int v)) ws := by
  obtain ⟨hb, hx⟩ := xcond hx
  have hr := xiv_ok hE hv
  obtain ⟨ty, hty, hnar⟩ : ∃ ty, xr m = some ty ∧ narrow ty (.int v1) = .int v1 := by
    cases hxr : xr m with
    | none => rw [hxr] at hb; cases hb
    | some ty =>
      rw [hxr] at hb
      cases ty with
      | int => exact ⟨_, rfl, rfl⟩
      | boolean =>
        refine ⟨_, rfl, ?_⟩
        have h2 := of_decide_eq_true (hb : decide (0 ≤ (xiv E x).1 ∧ (xiv E x).2 ≤ 1) = true)
        have h3 : v1.toInt = 0 ∨ v1.toInt = 1 := by omega
        rcases h3 with h3 | h3
        · have : v1 = 0 := Int32.toInt_inj.mp h3
          rw [this]; rfl
        · have : v1 = 1 := Int32.toInt_inj.mp h3
          rw [this]; rfl
      | _ => cases hb
  refine ⟨v1, ty, rfl, hty, hnar, ?_⟩
  match fs, cfs, hx, hf with
  | [], [], hx, _ =>
    obtain ⟨hb2, -⟩ := xcond hx
    rw [Bool.and_eq_true] at hb2
    have e := of_decide_eq_true hb2.1
    rw [e] at hr
    have : v1 = 1 := Int32.toInt_inj.mp (show v1.toInt = 1 by have h1 := hr.1; have h2 := hr.2; simp only at h1 h2; omega)
    rw [this]; exact (rfl : some (Value.int 1) = some (Value.int 1))
  | [], _ :: _, _, hf => exact hf.elim
  | (m2, pc2, l2, st2, C2, S2, f2) :: fs2, cfs, hx, hf =>
    cases hx
    exact xretK (x := some (.inl x)) (G _ List.mem_cons_self) ⟨⟨v1, rfl, hv⟩, trivial⟩ hxs hE hH hf
end XK
