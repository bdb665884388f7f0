section XH
variable {σ : Nat → Int32} {b : Nat} {Z : AmZ} {ws : va_W} {h : XHp}
theorem xhr_at (hH : xhr σ b Z ws h) {k a : Nat} (ha : (xads ws)[k]? = some a) {c : XC} (hc : xhg h k = some c) : ∃ e, ws[k]? = some (a, e) ∧ xcr σ b (xads ws) Z e c := by
  obtain ⟨e, he⟩ := xads_at ha
  obtain ⟨c2, h1, h2⟩ := hH.2.2 k a e he
  cases hc.symm.trans h1
  exact ⟨e, he, h2⟩
theorem xhr_o (hH : xhr σ b Z ws h) {k a ci : Nat} {fv : XT XV 7} (ha : (xads ws)[k]? = some a) (hc : xhg h k = some (.inr (ci, fv))) : ∃ fs, ws[k]? = some (a, .inr (ci, fs)) ∧ xor σ b (xads ws) ci fs fv := by
  obtain ⟨e, he, fs, rfl, h2⟩ := xhr_at hH ha hc
  exact ⟨fs, he, h2⟩
theorem xhr_0 (hH : xhr σ b Z ws h) {k a n : Nat} {d : XV} {ms : XA} (ha : (xads ws)[k]? = some a) (hc : xhg h k = some (.inl (0, n, d, ms))) : ∃ f : Nat → Int32, ws[k]? = some (a, .inl (Z.1, n, .inl f)) ∧ n ≤ xcap ms ∧ ∀ j, j < n → xvr σ b (xads ws) (.int (f j)) (xget d ms j) := by
  obtain ⟨e, he, f, rfl, h2⟩ := xhr_at hH ha hc
  exact ⟨f, he, h2⟩
theorem xhr_1 (hH : xhr σ b Z ws h) {k a n : Nat} {d : XV} {ms : XA} (ha : (xads ws)[k]? = some a) (hc : xhg h k = some (.inl (1, n, d, ms))) : ∃ f : Nat → Int64, ws[k]? = some (a, .inl (Z.2.1, n, .inr (.inl f))) ∧ n ≤ xcap ms ∧ ∀ j, j < n → xvr σ b (xads ws) (.long (f j)) (xget d ms j) := by
  obtain ⟨e, he, f, rfl, h2⟩ := xhr_at hH ha hc
  exact ⟨f, he, h2⟩
theorem xhr_2 (hH : xhr σ b Z ws h) {k a n : Nat} {d : XV} {ms : XA} (ha : (xads ws)[k]? = some a) (hc : xhg h k = some (.inl (2, n, d, ms))) : ∃ f : Nat → Int32, ws[k]? = some (a, .inl (Z.2.2.1, n, .inl f)) ∧ n ≤ xcap ms ∧ ∀ j, j < n → xvr σ b (xads ws) (.int (f j)) (xget d ms j) := by
  obtain ⟨e, he, f, rfl, h2⟩ := xhr_at hH ha hc
  exact ⟨f, he, h2⟩
theorem xhr_3 (hH : xhr σ b Z ws h) {k a n : Nat} {d : XV} {ms : XA} (ha : (xads ws)[k]? = some a) (hc : xhg h k = some (.inl (3, n, d, ms))) : ∃ f : Nat → Int32, ws[k]? = some (a, .inl (Z.2.2.2.1, n, .inl f)) ∧ n ≤ xcap ms ∧ ∀ j, j < n → xvr σ b (xads ws) (.int (f j)) (xget d ms j) := by
  obtain ⟨e, he, f, rfl, h2⟩ := xhr_at hH ha hc
  exact ⟨f, he, h2⟩
theorem xhr_len (hH : xhr σ b Z ws h) {k a tg n : Nat} {d : XV} {ms : XA} (ha : (xads ws)[k]? = some a) (hc : xhg h k = some (.inl (tg, n, d, ms))) : ∃ (cA : ClassId) (x : vp_A) (t : Nat) (ty : FieldType), ws[k]? = some (a, .inl (cA, x)) ∧ (am_tys Z)[t]? = some (cA, ty) ∧ n = x.1 := by
  match tg, hc with
  | 0, hc => obtain ⟨f, he, -⟩ := xhr_0 hH ha hc; exact ⟨_, _, 0, _, he, rfl, rfl⟩
  | 1, hc => obtain ⟨f, he, -⟩ := xhr_1 hH ha hc; exact ⟨_, _, 1, _, he, rfl, rfl⟩
  | 2, hc => obtain ⟨f, he, -⟩ := xhr_2 hH ha hc; exact ⟨_, _, 2, _, he, rfl, rfl⟩
  | 3, hc => obtain ⟨f, he, -⟩ := xhr_3 hH ha hc; exact ⟨_, _, 3, _, he, rfl, rfl⟩
  | tg + 4, hc => obtain ⟨e, -, hx⟩ := xhr_at hH ha hc; exact hx.elim
theorem xhr_set (hH : xhr σ b Z ws h) {k a : Nat} {e e2 : va_E} {c2 : XC} (he : ws[k]? = some (a, e)) (hc : xcr σ b (xads ws) Z e2 c2) : xhr σ b Z (ws.set k (a, e2)) (xhs h k c2) := by
  have hlt : k < ws.length := (List.getElem?_eq_some_iff.mp he).1
  have hlt2 : k < 1024 := by have := hH.1; have := hH.2.1; omega
  refine ⟨by rw [List.length_set]; exact hH.1, hH.2.1, fun i a1 e1 hi => ?_⟩
  have hi3 : i < 1024 := by
    have h1 := (List.getElem?_eq_some_iff.mp hi).1
    rw [List.length_set] at h1
    have := hH.1; have := hH.2.1; omega
  rw [xads_eq he]
  have eg : xhg (xhs h k c2) i = if i = k then some c2 else xhg h i := xtget_lt (d := 10) h.2 hi3 hlt2 c2
  rw [eg]
  rw [List.getElem?_set] at hi
  split at hi
  · rename_i hik
    subst hik
    cases hi
    rw [if_pos rfl]
    exact ⟨c2, rfl, hc⟩
  · rename_i hik
    rw [if_neg (fun z => hik z.symm)]
    exact hH.2.2 i a1 e1 hi
theorem xget_put {n : Nat} {d : XV} {t : XA} {j i : Nat} (v : XV) (hn : n ≤ xcap t) (hi : i < n) (hj : j < n) : xget d (xput n d t j v) i = if i = j then v else xget d t i := by
  match t, hn with
  | .inr (.inl t), hn =>
    have hn : n ≤ 64 := hn
    show (xtget 6 (xtset 6 t j v) i).getD d = _
    rw [xtget_lt t (by omega : i < 2 ^ 6) (by omega : j < 2 ^ 6)]
    split <;> rfl
  | .inr (.inr (.inl t)), hn =>
    have hn : n ≤ 2048 := hn
    show (xtget 11 (xtset 11 t j v) i).getD d = _
    rw [xtget_lt t (by omega : i < 2 ^ 11) (by omega : j < 2 ^ 11)]
    split <;> rfl
  | .inr (.inr (.inr t)), hn =>
    have hn : n ≤ 262144 := hn
    show (xtget 18 (xtset 18 t j v) i).getD d = _
    rw [xtget_lt t (by omega : i < 2 ^ 18) (by omega : j < 2 ^ 18)]
    split <;> rfl
  | .inl u, hn =>
    have hn : n ≤ 262144 := hn
    unfold xput
    simp only
    cases hb : decide (d = v) with
    | true =>
      have e := of_decide_eq_true hb
      simp only [cond]
      show d = if i = j then v else d
      split
      · exact e
      · rfl
    | false =>
      simp only [cond]
      cases h1 : Nat.ble n 64 with
      | true =>
        have h1 := Nat.le_of_ble_eq_true h1
        show (xtget 6 (xtset 6 (xtz 6) j v) i).getD d = if i = j then v else d
        rw [xtget_lt _ (by omega : i < 2 ^ 6) (by omega : j < 2 ^ 6), xtget_z]
        split <;> rfl
      | false =>
        cases h2 : Nat.ble n 2048 with
        | true =>
          have h2 := Nat.le_of_ble_eq_true h2
          show (xtget 11 (xtset 11 (xtz 11) j v) i).getD d = if i = j then v else d
          rw [xtget_lt _ (by omega : i < 2 ^ 11) (by omega : j < 2 ^ 11), xtget_z]
          split <;> rfl
        | false =>
          show (xtget 18 (xtset 18 (xtz 18) j v) i).getD d = if i = j then v else d
          rw [xtget_lt _ (by omega : i < 2 ^ 18) (by omega : j < 2 ^ 18), xtget_z]
          split <;> rfl
theorem xcap_put {n : Nat} {d : XV} {t : XA} {j : Nat} (v : XV) (hn : n ≤ xcap t) : n ≤ xcap (xput n d t j v) := by
  match t, hn with
  | .inr (.inl t), hn => exact hn
  | .inr (.inr (.inl t)), hn => exact hn
  | .inr (.inr (.inr t)), hn => exact hn
  | .inl u, hn =>
    unfold xput
    simp only
    cases hb : decide (d = v) with
    | true => exact hn
    | false =>
      simp only [cond]
      cases h1 : Nat.ble n 64 with
      | true => exact Nat.le_of_ble_eq_true h1
      | false =>
        cases h2 : Nat.ble n 2048 with
        | true => exact Nat.le_of_ble_eq_true h2
        | false => exact hn
theorem xhr_set0 (hH : xhr σ b Z ws h) {k a n : Nat} {f : Nat → Int32} {d : XV} {ms : XA} {j : Nat} {x : Int32} {v : XV} (he : ws[k]? = some (a, .inl (Z.1, n, .inl f))) (hcap : n ≤ xcap ms) (hf : ∀ i, i < n → xvr σ b (xads ws) (.int (f i)) (xget d ms i)) (hj : j < n) (hv : xvr σ b (xads ws) (.int x) v) : xhr σ b Z (ws.set k (a, .inl (Z.1, n, .inl (upd f j x)))) (xhs h k (.inl (0, n, d, xput n d ms j v))) := by
  refine xhr_set hH he ⟨_, rfl, xcap_put v hcap, fun i hi => ?_⟩
  rw [xget_put v hcap hi hj]
  by_cases hij : i = j
  · rw [if_pos hij, hij, pk_us]; exact hv
  · rw [if_neg hij, pk_un hij]; exact hf i hi
theorem xhr_set1 (hH : xhr σ b Z ws h) {k a n : Nat} {f : Nat → Int64} {d : XV} {ms : XA} {j : Nat} {x : Int64} {v : XV} (he : ws[k]? = some (a, .inl (Z.2.1, n, .inr (.inl f)))) (hcap : n ≤ xcap ms) (hf : ∀ i, i < n → xvr σ b (xads ws) (.long (f i)) (xget d ms i)) (hj : j < n) (hv : xvr σ b (xads ws) (.long x) v) : xhr σ b Z (ws.set k (a, .inl (Z.2.1, n, .inr (.inl (vp_updL f j x))))) (xhs h k (.inl (1, n, d, xput n d ms j v))) := by
  refine xhr_set hH he ⟨_, rfl, xcap_put v hcap, fun i hi => ?_⟩
  rw [xget_put v hcap hi hj]
  by_cases hij : i = j
  · rw [if_pos hij, hij, pk_uLs]; exact hv
  · rw [if_neg hij, pk_uLn hij]; exact hf i hi
theorem xhr_set2 (hH : xhr σ b Z ws h) {k a n : Nat} {f : Nat → Int32} {d : XV} {ms : XA} {j : Nat} {x : Int32} {v : XV} (he : ws[k]? = some (a, .inl (Z.2.2.1, n, .inl f))) (hcap : n ≤ xcap ms) (hf : ∀ i, i < n → xvr σ b (xads ws) (.int (f i)) (xget d ms i)) (hj : j < n) (hv : xvr σ b (xads ws) (.int x) v) : xhr σ b Z (ws.set k (a, .inl (Z.2.2.1, n, .inl (upd f j x)))) (xhs h k (.inl (2, n, d, xput n d ms j v))) := by
  refine xhr_set hH he ⟨_, rfl, xcap_put v hcap, fun i hi => ?_⟩
  rw [xget_put v hcap hi hj]
  by_cases hij : i = j
  · rw [if_pos hij, hij, pk_us]; exact hv
  · rw [if_neg hij, pk_un hij]; exact hf i hi
theorem xhr_set3 (hH : xhr σ b Z ws h) {k a n : Nat} {f : Nat → Int32} {d : XV} {ms : XA} {j : Nat} {x : Int32} {v : XV} (he : ws[k]? = some (a, .inl (Z.2.2.2.1, n, .inl f))) (hcap : n ≤ xcap ms) (hf : ∀ i, i < n → xvr σ b (xads ws) (.int (f i)) (xget d ms i)) (hj : j < n) (hv : xvr σ b (xads ws) (.int x) v) : xhr σ b Z (ws.set k (a, .inl (Z.2.2.2.1, n, .inl (upd f j x)))) (xhs h k (.inl (3, n, d, xput n d ms j v))) := by
  refine xhr_set hH he ⟨_, rfl, xcap_put v hcap, fun i hi => ?_⟩
  rw [xget_put v hcap hi hj]
  by_cases hij : i = j
  · rw [if_pos hij, hij, pk_us]; exact hv
  · rw [if_neg hij, pk_un hij]; exact hf i hi
theorem xhr_app (hH : xhr σ b Z ws h) {q : Nat} {e : va_E} {c : XC} (hlt : h.1 < 1024) (hc : xcr σ b (xads ws) Z e c) : xhr σ b Z (ws ++ [(q, e)]) (xhp h c) := by
  refine ⟨by rw [List.length_append, List.length_singleton, hH.1]; rfl, hlt, fun i a1 e1 hi => ?_⟩
  rw [xads_push]
  have hi9 := (List.getElem?_eq_some_iff.mp hi).1
  rw [List.length_append, List.length_singleton] at hi9
  have h1 := hH.1
  have eg : xhg (xhp h c) i = if i = h.1 then some c else xhg h i := xtget_lt (d := 10) h.2 (show i < 2 ^ 10 by omega) (show h.1 < 2 ^ 10 by omega) c
  rw [eg]
  by_cases hlt2 : i < ws.length
  · rw [List.getElem?_append_left hlt2] at hi
    obtain ⟨c2, h2, h3⟩ := hH.2.2 i a1 e1 hi
    rw [if_neg (by omega)]
    exact ⟨c2, h2, xcr_app q h3⟩
  · have hi2 : i = ws.length := by omega
    subst hi2
    simp at hi
    obtain ⟨rfl, rfl⟩ := hi
    rw [if_pos h1]
    exact ⟨c, rfl, xcr_app q hc⟩
theorem xnew_ref (hH : xhr σ b Z ws h) {q : Nat} {e : va_E} : xvr σ b (xads (ws ++ [(q, e)])) (.ref q) (.inr (.inr (h.1 + 3))) := by
  refine ⟨q, rfl, ?_⟩
  rw [xads_push, ← hH.1]
  have : ws.length = (xads ws).length := by simp [xads]
  rw [this]
  simp
theorem xarr_0 {ads : List Nat} {n : Nat} (hn : n ≤ 262144) : xcr σ b ads Z (.inl (Z.1, n, .inl (fun _ => 0))) (.inl (0, n, xarr0 0, .inl ())) := ⟨_, rfl, hn, fun _ _ => ⟨0, rfl, rfl⟩⟩
theorem xarr_1 {ads : List Nat} {n : Nat} (hn : n ≤ 262144) : xcr σ b ads Z (.inl (Z.2.1, n, .inr (.inl (fun _ => 0)))) (.inl (1, n, xarr0 1, .inl ())) := ⟨_, rfl, hn, fun _ _ => ⟨0, rfl, rfl⟩⟩
theorem xarr_2 {ads : List Nat} {n : Nat} (hn : n ≤ 262144) : xcr σ b ads Z (.inl (Z.2.2.1, n, .inl (fun _ => 0))) (.inl (2, n, xarr0 2, .inl ())) := ⟨_, rfl, hn, fun _ _ => ⟨0, rfl, rfl⟩⟩
theorem xarr_3 {ads : List Nat} {n : Nat} (hn : n ≤ 262144) : xcr σ b ads Z (.inl (Z.2.2.2.1, n, .inl (fun _ => 0))) (.inl (3, n, xarr0 3, .inl ())) := ⟨_, rfl, hn, fun _ _ => ⟨0, rfl, rfl⟩⟩
end XH
-- ---- the tables
theorem xi_okw {cc : ByteArray} {l : XIs} (h : xi_ok cc l = true) {pc : Nat} {i : Instr} {len : Nat} (hl : xlook pc l = some (i, len)) : decode cc pc = .ok (i, len) := by
  have h1 := List.all_eq_true.mp h (pc, i, len) (xlook_mem hl)
  have h2 := of_decide_eq_true h1
  exact h2
theorem xi_w {m pc : Nat} {i : Instr} {len : Nat} (h : cond (Nat.blt m xm_n) (xlook pc (xi m pc)) none = some (i, len)) : m < xm_n ∧ decode (xc m) pc = .ok (i, len) := by
  obtain ⟨h1, h2⟩ := xcond h
  have hm : m < xm_n := Nat.le_of_ble_eq_true h1
  have ha : xi_ok (xc m) (xi m pc) = true := xi_all hm pc
  exact ⟨hm, xi_okw ha h2⟩
theorem xo_w {m : Nat} (hm : m < xm_n) : xo m < 21 := of_decide_eq_true (List.all_eq_true.mp xo_all m (List.mem_range.mpr hm))
theorem xa_w {m i : Nat} (hm : m < xm_n) {v : Int32} {p : Nat} (h : xlook i (xa (xo m)) = some (v, p)) : Cond.constant (xcls (xo m)) i v ∈ am_T := xps_T (xps_ok (xa_all (xo_w hm)) _ (xlook_mem h))
theorem xb_w {m i : Nat} (hm : m < xm_n) {v : Int64} {p : Nat} (h : xlook i (xb (xo m)) = some (v, p)) : Cond.constantLong (xcls (xo m)) i v ∈ am_T := xps_T (xps_ok (xb_all (xo_w hm)) _ (xlook_mem h))
theorem xf_w {m i : Nat} (hm : m < xm_n) {ci k p : Nat} (h : xfD (xo m) i = some (ci, k, p)) : ∃ Cn T N, vwCl[ci]? = some (Cn, T, N) ∧ k < N ∧ Cond.fieldLink (xcls (xo m)) i (T k).1 (T k).2.1 (T k).2.2.1 ∈ am_T := by
  obtain ⟨h1, h2⟩ := xps_ok (xf_all (xo_w hm)) _ (xfD_mem (xo_w hm) h)
  unfold xf_ck at h2
  rw [Bool.and_eq_true] at h2
  have h3 := xps_T ⟨h1, h2.1⟩
  have h4 := h2.2
  unfold xf_wd at h3
  unfold xf_nk at h4
  cases hv : vwCl[ci]? with
  | none => simp only [hv] at h4; cases h4
  | some q =>
    obtain ⟨Cn, T, N⟩ := q
    simp only [hv] at h3 h4
    exact ⟨Cn, T, N, rfl, of_decide_eq_true h4, h3⟩
theorem xt_ck_ok {T : u_T} : ∀ {k : Nat} {l : List (Nat × Nat)}, xt_ck T k l = true → ∀ {j : Nat} {q : Nat × Nat}, l[j]? = some q → (T (k + j)).2.2.2 = decide (q.2 = 1) ∧ (match q.1 with
    | 0 => am_t T (k + j) = .int
    | 1 => am_t T (k + j) = .long
    | 2 => am_t T (k + j) = .boolean
    | _ => (∃ n, am_t T (k + j) = .object n) ∨ ∃ t, am_t T (k + j) = .array t)
  | k, [], _, j, q, hq => by simp at hq
  | k, p :: l, h, j, q, hq => by
    unfold xt_ck at h
    simp only [Bool.and_eq_true] at h
    cases j with
    | zero =>
      cases hq
      refine ⟨of_decide_eq_true h.1.1, ?_⟩
      have h2 := h.1.2
      rw [Nat.add_zero]
      obtain ⟨a, c⟩ := p
      match a, h2 with
      | 0, h2 => exact of_decide_eq_true (p := am_t T k = .int) h2
      | 1, h2 => exact of_decide_eq_true (p := am_t T k = .long) h2
      | 2, h2 => exact of_decide_eq_true (p := am_t T k = .boolean) h2
      | a + 3, h2 =>
        show (∃ n, am_t T k = .object n) ∨ ∃ t, am_t T k = .array t
        have h3 : (match am_t T k with
          | .object _ => true
          | .array _ => true
          | _ => false) = true := h2
        cases hx : am_t T k with
        | object n => exact Or.inl ⟨n, rfl⟩
        | array t => exact Or.inr ⟨t, rfl⟩
        | _ => rw [hx] at h3; cases h3
    | succ j =>
      have := xt_ck_ok (k := k + 1) h.2 (j := j) hq
      rw [show k + 1 + j = k + (j + 1) by omega] at this
      exact this
theorem xt_all {ci : Nat} {Cn : String} {T : u_T} {N : Nat} (h : vwCl[ci]? = some (Cn, T, N)) : xt_ck T 0 (xt ci) = true ∧ (xt ci).length = N := by
  match ci, h with
  | 0, h => cases h; exact xt_ok0
  | 1, h => cases h; exact xt_ok1
  | 2, h => cases h; exact xt_ok2
  | 3, h => cases h; exact xt_ok3
  | 4, h => cases h; exact xt_ok4
  | 5, h => cases h; exact xt_ok5
  | 6, h => cases h; exact xt_ok6
  | 7, h => cases h; exact xt_ok7
  | 8, h => cases h; exact xt_ok8
  | 9, h => cases h; exact xt_ok9
  | 10, h => cases h; exact xt_ok10
  | 11, h => cases h; exact xt_ok11
  | 12, h => cases h; exact xt_ok12
  | k + 13, h => simp [vwCl] at h
theorem xcls_all {ci : Nat} {Cn : String} {T : u_T} {N : Nat} (h : vwCl[ci]? = some (Cn, T, N)) : Cn = xcls ci ∧ ci < 13 := by
  match ci, h with
  | 0, h => cases h; exact ⟨by decide +kernel, by decide⟩
  | 1, h => cases h; exact ⟨by decide +kernel, by decide⟩
  | 2, h => cases h; exact ⟨by decide +kernel, by decide⟩
  | 3, h => cases h; exact ⟨by decide +kernel, by decide⟩
  | 4, h => cases h; exact ⟨by decide +kernel, by decide⟩
  | 5, h => cases h; exact ⟨by decide +kernel, by decide⟩
  | 6, h => cases h; exact ⟨by decide +kernel, by decide⟩
  | 7, h => cases h; exact ⟨by decide +kernel, by decide⟩
  | 8, h => cases h; exact ⟨by decide +kernel, by decide⟩
  | 9, h => cases h; exact ⟨by decide +kernel, by decide⟩
  | 10, h => cases h; exact ⟨by decide +kernel, by decide⟩
  | 11, h => cases h; exact ⟨by decide +kernel, by decide⟩
  | 12, h => cases h; exact ⟨by decide +kernel, by decide⟩
  | k + 13, h => simp [vwCl] at h
noncomputable def xdcl (ci : Nat) : Bool := match vwCl[ci]? with
  | some (_, T, N) => (List.range N).all (fun k => decide ((T k).1 = xcls ci))
  | none => true
set_option maxRecDepth 100000 in
theorem xdcl_ok : (List.range 13).all xdcl = true := by decide +kernel
theorem xdcl_all {ci : Nat} {Cn : String} {T : u_T} {N k : Nat} (h : vwCl[ci]? = some (Cn, T, N)) (hk : k < N) : (T k).1 = xcls ci := by
  have h1 := List.all_eq_true.mp xdcl_ok ci (List.mem_range.mpr (xcls_all h).2)
  unfold xdcl at h1
  simp only [h] at h1
  exact of_decide_eq_true (List.all_eq_true.mp h1 k (List.mem_range.mpr hk))
theorem xt_le : (List.range 13).all (fun c => decide ((xt c).length ≤ 128)) = true := by decide +kernel
theorem xt_le_all {ci : Nat} {Cn : String} {T : u_T} {N : Nat} (h : vwCl[ci]? = some (Cn, T, N)) : (xt ci).length ≤ 128 := of_decide_eq_true (List.all_eq_true.mp xt_le ci (List.mem_range.mpr (xcls_all h).2))
theorem xtL_xt {ci : Nat} {Cn : String} {T : u_T} {N k : Nat} {q : Nat × Nat} (hcl : vwCl[ci]? = some (Cn, T, N)) (hk : k < N) (h : xtget 7 (xtL (xt ci)) k = some q) : (xt ci)[k]? = some q := by
  have h1 := xt_le_all hcl
  have h2 := (xt_all hcl).2
  rw [xtL_get h1 (by omega)] at h
  exact h
theorem xor_len {σ : Nat → Int32} {b : Nat} {ads : List Nat} {ci : Nat} {fs : List Value} {t : XT XV 7} {Cn : String} {T : u_T} {N : Nat} (h : xor σ b ads ci fs t) (hcl : vwCl[ci]? = some (Cn, T, N)) : fs.length = N := h.1.trans (xt_all hcl).2
theorem xor_get {σ : Nat → Int32} {b : Nat} {ads : List Nat} {ci : Nat} {fs : List Value} {t : XT XV 7} {Cn : String} {T : u_T} {N k : Nat} {x : XV} (h : xor σ b ads ci fs t) (hcl : vwCl[ci]? = some (Cn, T, N)) (hk : k < N) (hx : xtget 7 t k = some x) : ∃ v, fs[k]? = some v ∧ xvr σ b ads v x := by
  have h1 := xt_le_all hcl
  have h2 := (xt_all hcl).2
  have h3 := xor_len h hcl
  have hv : fs[k]? = some (fs[k]'(by omega)) := List.getElem?_eq_getElem _
  obtain ⟨y, h4, h5⟩ := h.2 k _ (by omega) hv
  cases h4.symm.trans hx
  exact ⟨_, hv, h5⟩
theorem xhr_seto {σ : Nat → Int32} {b : Nat} {Z : AmZ} {ws : va_W} {h : XHp} (hH : xhr σ b Z ws h) {k a ci j : Nat} {fs : List Value} {fv : XT XV 7} {v : Value} {x : XV} {Cn : String} {T : u_T} {N : Nat} (he : ws[k]? = some (a, .inr (ci, fs))) (hf : xor σ b (xads ws) ci fs fv) (hcl : vwCl[ci]? = some (Cn, T, N)) (hj : j < N) (hv : xvr σ b (xads ws) v x) : xhr σ b Z (ws.set k (a, .inr (ci, fs.set j v))) (xhs h k (.inr (ci, xtset 7 fv j x))) := by
  refine xhr_set hH he ⟨_, rfl, by rw [List.length_set]; exact hf.1, fun i w hi hw => ?_⟩
  have h1 := xt_le_all hcl
  have h2 := (xt_all hcl).2
  rw [xtget_lt fv (show i < 2 ^ 7 by omega) (show j < 2 ^ 7 by omega)]
  rw [List.getElem?_set] at hw
  split at hw
  · rename_i hij
    subst hij
    split at hw
    · cases hw
      rw [if_pos rfl]
      exact ⟨x, rfl, hv⟩
    · cases hw
  · rename_i hij
    rw [if_neg (fun z => hij z.symm)]
    exact hf.2 i w hi hw
theorem xt_w {σ : Nat → Int32} {b : Nat} {ads : List Nat} {ci : Nat} {Cn : String} {T : u_T} {N k ty fin : Nat} {v : Value} {x : XV} (hcl : vwCl[ci]? = some (Cn, T, N)) (hty : (xt ci)[k]? = some (ty, fin)) (hv : xvr σ b ads v x) (hf : xfit ty x = true) : narrow (am_t T k) v = v ∧ fits (am_t T k) v = true ∧ (T k).2.2.2 = decide (fin = 1) := by
  obtain ⟨h1, h2⟩ := xt_ck_ok (xt_all hcl).1 hty
  rw [Nat.zero_add] at h1 h2
  refine ⟨?_, ?_, h1⟩
  all_goals
    match ty, x, h2, hf, hv with
    | 0, .inl _, h2, _, ⟨n, e, _⟩ => rw [(h2 : am_t T k = .int), e]; rfl
    | 1, .inr (.inl _), h2, _, ⟨n, e, _⟩ => rw [(h2 : am_t T k = .long), e]; rfl
    | 2, .inl (.inl c), h2, hf, ⟨n, e, hn⟩ =>
      rw [(h2 : am_t T k = .boolean), e, (hn : n = c)]
      rcases (of_decide_eq_true hf : c = 0 ∨ c = 1) with h0 | h0 <;> rw [h0] <;> rfl
    | 3, .inr (.inr j), h2, _, hv =>
      have hr : v = .null ∨ ∃ a, v = .ref a := by
        cases j with
        | zero => exact Or.inl hv
        | succ j => obtain ⟨a, e, -⟩ := xvr_a hv; exact Or.inr ⟨a, e⟩
      rcases (h2 : (∃ n, am_t T k = .object n) ∨ ∃ t, am_t T k = .array t) with ⟨n, e⟩ | ⟨n, e⟩ <;> rcases hr with e2 | ⟨a, e2⟩ <;> rw [e, e2] <;> rfl
theorem xfin_ok {m : Nat} {ci : Nat} {Cn : String} {T : u_T} {N k fin : Nat} (h : (T k).2.2.2 = decide (fin = 1)) (z : (T k).2.2.2 = true) (hb : (!(Nat.beq fin 1) || (xin m && Nat.beq ci (xo m))) = true) (hcl : vwCl[ci]? = some (Cn, T, N)) (hk : k < N) : xin m = true ∧ (T k).1 = xcls (xo m) := by
  rw [h] at z
  have e := of_decide_eq_true z
  rw [e, Nat.beq_refl, Bool.not_true, Bool.false_or, Bool.and_eq_true] at hb
  exact ⟨hb.1, by rw [xdcl_all hcl hk, Nat.eq_of_beq_eq_true hb.2]⟩
theorem xdf_v {σ : Nat → Int32} {b : Nat} {ads : List Nat} {T : u_T} {k : Nat} {q : Nat × Nat} (h2 : match q.1 with
    | 0 => am_t T k = .int
    | 1 => am_t T k = .long
    | 2 => am_t T k = .boolean
    | _ => (∃ n, am_t T k = .object n) ∨ ∃ t, am_t T k = .array t) (h3 : q.1 < 4) : xvr σ b ads (defaultValue (am_t T k)) (xdef q.1) := by
  obtain ⟨a, c⟩ := q
  match a, h2, h3 with
  | 0, h2, _ => rw [(h2 : am_t T k = .int)]; exact ⟨0, rfl, rfl⟩
  | 1, h2, _ => rw [(h2 : am_t T k = .long)]; exact ⟨0, rfl, rfl⟩
  | 2, h2, _ => rw [(h2 : am_t T k = .boolean)]; exact ⟨0, rfl, rfl⟩
  | 3, h2, _ =>
    rcases (h2 : (∃ n, am_t T k = .object n) ∨ ∃ t, am_t T k = .array t) with ⟨n, e⟩ | ⟨n, e⟩ <;> rw [e] <;> exact rfl
  | a + 4, _, h3 => exact absurd h3 (by simp only; omega)
theorem xt_lt : (List.range 13).all (fun c => (xt c).all (fun q => decide (q.1 < 4))) = true := by decide +kernel
theorem xdf_o {σ : Nat → Int32} {b : Nat} {ads : List Nat} {Z : AmZ} {ci : Nat} {Cn : String} {T : u_T} {N : Nat} (hcl : vwCl[ci]? = some (Cn, T, N)) : xcr σ b ads Z (.inr (ci, am_new T N)) (.inr (ci, xtL ((xt ci).map (fun q => xdef q.1)))) := by
  obtain ⟨h1, h2⟩ := xt_all hcl
  have h0 := xt_le_all hcl
  refine ⟨_, rfl, by simp [am_new, h2], fun j v hj hv => ?_⟩
  have hjN : j < N := by
    have := (List.getElem?_eq_some_iff.mp hv).1
    simpa [am_new] using this
  have hq : (xt ci)[j]? = some ((xt ci)[j]'(by omega)) := List.getElem?_eq_getElem _
  rw [xtL_get (by rw [List.length_map]; exact h0) hj, List.getElem?_map, hq]
  have hv2 : v = defaultValue (am_t T j) := by
    simp [am_new, hjN] at hv
    exact hv.symm
  obtain ⟨-, h4⟩ := xt_ck_ok h1 hq
  rw [Nat.zero_add] at h4
  rw [hv2]
  exact ⟨_, rfl, xdf_v h4 (of_decide_eq_true (List.all_eq_true.mp (List.all_eq_true.mp xt_lt ci (List.mem_range.mpr (xcls_all hcl).2)) _ (List.mem_of_getElem? hq)))⟩
theorem xw_w {m i : Nat} (hm : m < xm_n) {ci p : Nat} (h : xlook i (xw (xo m)) = some (ci, p)) : ∃ Cn T N, vwCl[ci]? = some (Cn, T, N) ∧ Cond.classLink (xcls (xo m)) i Cn ∈ am_T ∧ (xt ci).length = N := by
  obtain ⟨h1, h2⟩ := xps_ok (xw_all (xo_w hm)) _ (xlook_mem h)
  unfold xw_ck at h2
  rw [Bool.and_eq_true] at h2
  have h3 := xps_T ⟨h1, h2.1⟩
  unfold xw_wd at h3
  cases hv : vwCl[ci]? with
  | none => have h4 := h2.2; simp only [hv] at h4; cases h4
  | some q =>
    obtain ⟨Cn, T, N⟩ := q
    simp only [hv] at h3
    exact ⟨Cn, T, N, rfl, h3, (xt_all hv).2⟩
theorem xins_ok : (List.range' 1 439).all (fun k => decide (xsta k = 0 → xo k < 13)) = true := by decide +kernel
theorem xins_all {k : Nat} (h0 : 0 < k) (hk : k < xm_n) (hs : xsta k = 0) : xo k < 13 := of_decide_eq_true (List.all_eq_true.mp xins_ok k (List.mem_range'_1.mpr ⟨h0, hk⟩)) hs
theorem xwr_ok : (List.range 440).all (fun k => decide (xk k = 1 → xo k = 13)) = true := by decide +kernel
theorem xcls13 : xcls 13 = RL := by decide +kernel
theorem xwr_all {k : Nat} (hk : k < xm_n) (h1 : xk k = 1) : xcls (xo k) = RL := by rw [of_decide_eq_true (List.all_eq_true.mp xwr_ok k (List.mem_range.mpr hk)) h1]; exact xcls13
theorem xcov {a e pc h c : Nat} (h1 : Nat.ble a pc = true) (h2 : Nat.blt pc e = true) : covers (⟨a, e, h, c⟩ : ExceptionTableEntry) pc = true := by
  have h1 := Nat.le_of_ble_eq_true h1
  have h2 : pc < e := Nat.le_of_ble_eq_true h2
  simp [covers, h1, h2]
theorem xne0 {c : Nat} (h : (!(Nat.beq c 0)) = true) : c ≠ 0 := fun z => by rw [z] at h; cases h
theorem xcast_all {e : Nat} (he : e < 2) : Cond.castable (if e = 0 then am_IA else am_IS) (if e = 0 then am_IA else am_IS) ∈ lw_tbl := by
  match e, he with
  | 0, _ => exact List.mem_of_getElem? (i := 1326) (by decide +kernel)
  | 1, _ => exact List.mem_of_getElem? (i := 1392) (by decide +kernel)
  | e + 2, he => exact absurd he (by omega)
theorem xwi_ok : (List.range 440).all (fun k => decide (xk k = 1 → xin k = false)) = true := by decide +kernel
theorem xwi_all {k : Nat} (hk : k < xm_n) (h1 : xk k = 1) : xin k = false := of_decide_eq_true (List.all_eq_true.mp xwi_ok k (List.mem_range.mpr hk)) h1
theorem xq_w {i t p : Nat} (h : xlook i xq = some (t, p)) : Cond.classLink RL i (if t = 0 then am_IA else am_IS) ∈ am_T := xps_T ⟨List.mem_of_getElem? (of_decide_eq_true (List.all_eq_true.mp xq_ok _ (xlook_mem h))), rfl⟩
