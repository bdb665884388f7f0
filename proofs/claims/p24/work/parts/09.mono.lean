/-! more fuel, weaker ends: am_run and am_wp are monotone -/
theorem am_mono {Z : AmZ} {scr : AmS} {own : String} {cc : ByteArray} {nL : Nat} {rt : Option FieldType} {ini : Bool} {call callW : AmC} {xh xh' : AmH} {ret ret' : AmR} {K K' : AmK} (hK : ∀ pc lv st ws C S, K pc lv st ws C S → K' pc lv st ws C S) (hret : ∀ v u, ret v u → ret' v u)
    (hcall : ∀ y as ws mc ms post post' xp xp', (∀ v u, post v u → post' v u) → (∀ E u, xp E u → xp' E u) → call y as ws mc ms post xp → call y as ws mc ms post' xp') (hcallW : ∀ y as ws mc ms post post' xp xp', (∀ v u, post v u → post' v u) → (∀ E u, xp E u → xp' E u) → callW y as ws mc ms post xp → callW y as ws mc ms post' xp') (hxh : ∀ pc lv C S E u, xh K pc lv C S E u → xh' K' pc lv C S E u)
    {pc : Nat} {lv : List (Nat × Value)} {st : List Value} {ws : va_W} {C S : Nat} (h : am_stp Z scr own cc nL rt ini call callW xh ret K pc lv st ws C S) : am_stp Z scr own cc nL rt ini call callW xh' ret' K' pc lv st ws C S := by
  unfold am_stp at h
  unfold am_stp
  split at h
  · rename_i hd
    exact hK _ _ _ _ _ _ h
  · rename_i hd
    exact hK _ _ _ _ _ _ h
  · rename_i hd
    exact hK _ _ _ _ _ _ h
  · rename_i hd
    exact hK _ _ _ _ _ _ h
  · rename_i hd
    rcases h with ⟨v, hw, h⟩ | ⟨k, tx, e1, h⟩
    · exact Or.inl ⟨v, hw, hK _ _ _ _ _ _ h⟩
    · exact Or.inr ⟨k, tx, e1, hK _ _ _ _ _ _ h⟩
  · rename_i hd
    obtain ⟨x, r, e0, h⟩ := h; exact ⟨x, r, e0, hK _ _ _ _ _ _ h⟩
  · rename_i hd
    rcases h with ⟨hw, h⟩ | ⟨hw, h⟩
    · exact Or.inl ⟨hw, hK _ _ _ _ _ _ h⟩
    · exact Or.inr ⟨hw, fun v hv => hK _ _ _ _ _ _ (h v hv)⟩
  · rename_i hd
    obtain ⟨v, hw, h⟩ := h; exact ⟨v, hw, hK _ _ _ _ _ _ h⟩
  · rename_i hd
    obtain ⟨v, hw, h⟩ := h; exact ⟨v, hw, hK _ _ _ _ _ _ h⟩
  · rename_i hd
    obtain ⟨x, hm, h⟩ := h; exact ⟨x, hm, hK _ _ _ _ _ _ h⟩
  · rename_i hd
    obtain ⟨x, hm, h⟩ := h; exact ⟨x, hm, hK _ _ _ _ _ _ h⟩
  · rename_i hd
    obtain ⟨x, r, e0, hn, h⟩ := h; exact ⟨x, r, e0, hn, hK _ _ _ _ _ _ h⟩
  · rename_i hd
    obtain ⟨x, r, e0, hn, h⟩ := h; exact ⟨x, r, e0, hn, hK _ _ _ _ _ _ h⟩
  · rename_i hd
    obtain ⟨x, hm, h⟩ := h; exact ⟨x, hm, hK _ _ _ _ _ _ h⟩
  · rename_i hd
    obtain ⟨x, hm, h⟩ := h; exact ⟨x, hm, hK _ _ _ _ _ _ h⟩
  · rename_i hd
    obtain ⟨x, r, e0, hn, h⟩ := h; exact ⟨x, r, e0, hn, hK _ _ _ _ _ _ h⟩
  · rename_i hd
    obtain ⟨x, r, e0, hn, h⟩ := h; exact ⟨x, r, e0, hn, hK _ _ _ _ _ _ h⟩
  · rename_i hd
    obtain ⟨x, hm, h⟩ := h; exact ⟨x, hm, hK _ _ _ _ _ _ h⟩
  · rename_i hd
    obtain ⟨x, hm, h⟩ := h; exact ⟨x, hm, hK _ _ _ _ _ _ h⟩
  · rename_i hd
    obtain ⟨x, r, e0, hn, h⟩ := h; exact ⟨x, r, e0, hn, hK _ _ _ _ _ _ h⟩
  · rename_i hd
    obtain ⟨x, r, e0, hn, h⟩ := h; exact ⟨x, r, e0, hn, hK _ _ _ _ _ _ h⟩
  · rename_i hd
    obtain ⟨x, hm, hn, h⟩ := h; exact ⟨x, hm, hn, hK _ _ _ _ _ _ h⟩
  · rename_i hd
    obtain ⟨x, y, r, e0, h⟩ := h; exact ⟨x, y, r, e0, hK _ _ _ _ _ _ h⟩
  · rename_i hd
    obtain ⟨x, y, r, e0, h⟩ := h; exact ⟨x, y, r, e0, hK _ _ _ _ _ _ h⟩
  · rename_i hd
    obtain ⟨x, y, r, e0, h⟩ := h; exact ⟨x, y, r, e0, hK _ _ _ _ _ _ h⟩
  · rename_i hd
    obtain ⟨x, y, r, e0, h⟩ := h; exact ⟨x, y, r, e0, hK _ _ _ _ _ _ h⟩
  · rename_i hd
    obtain ⟨x, y, r, e0, h⟩ := h; exact ⟨x, y, r, e0, hK _ _ _ _ _ _ h⟩
  · rename_i hd
    obtain ⟨x, y, r, e0, h⟩ := h; exact ⟨x, y, r, e0, hK _ _ _ _ _ _ h⟩
  · rename_i hd
    obtain ⟨x, y, r, e0, h⟩ := h; exact ⟨x, y, r, e0, hK _ _ _ _ _ _ h⟩
  · rename_i hd
    obtain ⟨x, y, r, e0, h⟩ := h; exact ⟨x, y, r, e0, hK _ _ _ _ _ _ h⟩
  · rename_i hd
    obtain ⟨x, y, r, e0, h⟩ := h; exact ⟨x, y, r, e0, hK _ _ _ _ _ _ h⟩
  · rename_i hd
    obtain ⟨x, y, r, e0, hz, h⟩ := h; exact ⟨x, y, r, e0, hz, hK _ _ _ _ _ _ h⟩
  · rename_i hd
    obtain ⟨x, y, r, e0, hz, h⟩ := h; exact ⟨x, y, r, e0, hz, hK _ _ _ _ _ _ h⟩
  · rename_i hd
    obtain ⟨x, y, r, e0, h⟩ := h; exact ⟨x, y, r, e0, hK _ _ _ _ _ _ h⟩
  · rename_i hd
    obtain ⟨x, y, r, e0, h⟩ := h; exact ⟨x, y, r, e0, hK _ _ _ _ _ _ h⟩
  · rename_i hd
    obtain ⟨x, y, r, e0, h⟩ := h; exact ⟨x, y, r, e0, hK _ _ _ _ _ _ h⟩
  · rename_i hd
    obtain ⟨x, y, r, e0, h⟩ := h; exact ⟨x, y, r, e0, hK _ _ _ _ _ _ h⟩
  · rename_i hd
    obtain ⟨x, y, r, e0, h⟩ := h; exact ⟨x, y, r, e0, hK _ _ _ _ _ _ h⟩
  · rename_i hd
    obtain ⟨x, y, r, e0, h⟩ := h; exact ⟨x, y, r, e0, hK _ _ _ _ _ _ h⟩
  · rename_i hd
    obtain ⟨x, y, r, e0, hz, h⟩ := h; exact ⟨x, y, r, e0, hz, hK _ _ _ _ _ _ h⟩
  · rename_i hd
    obtain ⟨x, y, r, e0, hz, h⟩ := h; exact ⟨x, y, r, e0, hz, hK _ _ _ _ _ _ h⟩
  · rename_i hd
    obtain ⟨x, y, r, e0, h⟩ := h; exact ⟨x, y, r, e0, hK _ _ _ _ _ _ h⟩
  · rename_i hd
    obtain ⟨x, y, r, e0, h⟩ := h; exact ⟨x, y, r, e0, hK _ _ _ _ _ _ h⟩
  · rename_i hd
    obtain ⟨x, y, r, e0, h⟩ := h; exact ⟨x, y, r, e0, hK _ _ _ _ _ _ h⟩
  · rename_i hd
    obtain ⟨x, y, r, e0, h⟩ := h; exact ⟨x, y, r, e0, hK _ _ _ _ _ _ h⟩
  · rename_i hd
    obtain ⟨x, r, e0, h⟩ := h; exact ⟨x, r, e0, hK _ _ _ _ _ _ h⟩
  · rename_i hd
    obtain ⟨x, r, e0, h⟩ := h; exact ⟨x, r, e0, hK _ _ _ _ _ _ h⟩
  · rename_i hd
    obtain ⟨x, r, e0, h⟩ := h; exact ⟨x, r, e0, hK _ _ _ _ _ _ h⟩
  · rename_i hd
    obtain ⟨x, r, e0, h⟩ := h; exact ⟨x, r, e0, hK _ _ _ _ _ _ h⟩
  · rename_i hd
    obtain ⟨x, r, e0, h⟩ := h; exact ⟨x, r, e0, hK _ _ _ _ _ _ h⟩
  · rename_i hd
    obtain ⟨v, r, e0, hv, h⟩ := h; exact ⟨v, r, e0, hv, hK _ _ _ _ _ _ h⟩
  · rename_i hd
    obtain ⟨v, r, e0, hv, h⟩ := h; exact ⟨v, r, e0, hv, hK _ _ _ _ _ _ h⟩
  · rename_i hd
    obtain ⟨v, r, e0, hv, h⟩ := h; exact ⟨v, r, e0, hv, hK _ _ _ _ _ _ h⟩
  · rename_i hd
    obtain ⟨v, w, r, e0, hv, hw, h⟩ := h; exact ⟨v, w, r, e0, hv, hw, hK _ _ _ _ _ _ h⟩
  · rename_i hd
    obtain ⟨x, r, e0, ho, h1, h2⟩ := h; exact ⟨x, r, e0, ho, fun z => hK _ _ _ _ _ _ (h1 z), fun z => hK _ _ _ _ _ _ (h2 z)⟩
  · rename_i hd
    obtain ⟨x, r, e0, ho, h1, h2⟩ := h; exact ⟨x, r, e0, ho, fun z => hK _ _ _ _ _ _ (h1 z), fun z => hK _ _ _ _ _ _ (h2 z)⟩
  · rename_i hd
    obtain ⟨x, r, e0, ho, h1, h2⟩ := h; exact ⟨x, r, e0, ho, fun z => hK _ _ _ _ _ _ (h1 z), fun z => hK _ _ _ _ _ _ (h2 z)⟩
  · rename_i hd
    obtain ⟨x, r, e0, ho, h1, h2⟩ := h; exact ⟨x, r, e0, ho, fun z => hK _ _ _ _ _ _ (h1 z), fun z => hK _ _ _ _ _ _ (h2 z)⟩
  · rename_i hd
    obtain ⟨x, r, e0, ho, h1, h2⟩ := h; exact ⟨x, r, e0, ho, fun z => hK _ _ _ _ _ _ (h1 z), fun z => hK _ _ _ _ _ _ (h2 z)⟩
  · rename_i hd
    obtain ⟨x, r, e0, ho, h1, h2⟩ := h; exact ⟨x, r, e0, ho, fun z => hK _ _ _ _ _ _ (h1 z), fun z => hK _ _ _ _ _ _ (h2 z)⟩
  · rename_i hd
    obtain ⟨x, y, r, e0, ho, h1, h2⟩ := h; exact ⟨x, y, r, e0, ho, fun z => hK _ _ _ _ _ _ (h1 z), fun z => hK _ _ _ _ _ _ (h2 z)⟩
  · rename_i hd
    obtain ⟨x, y, r, e0, ho, h1, h2⟩ := h; exact ⟨x, y, r, e0, ho, fun z => hK _ _ _ _ _ _ (h1 z), fun z => hK _ _ _ _ _ _ (h2 z)⟩
  · rename_i hd
    obtain ⟨x, y, r, e0, ho, h1, h2⟩ := h; exact ⟨x, y, r, e0, ho, fun z => hK _ _ _ _ _ _ (h1 z), fun z => hK _ _ _ _ _ _ (h2 z)⟩
  · rename_i hd
    obtain ⟨x, y, r, e0, ho, h1, h2⟩ := h; exact ⟨x, y, r, e0, ho, fun z => hK _ _ _ _ _ _ (h1 z), fun z => hK _ _ _ _ _ _ (h2 z)⟩
  · rename_i hd
    obtain ⟨x, y, r, e0, ho, h1, h2⟩ := h; exact ⟨x, y, r, e0, ho, fun z => hK _ _ _ _ _ _ (h1 z), fun z => hK _ _ _ _ _ _ (h2 z)⟩
  · rename_i hd
    obtain ⟨x, y, r, e0, ho, h1, h2⟩ := h; exact ⟨x, y, r, e0, ho, fun z => hK _ _ _ _ _ _ (h1 z), fun z => hK _ _ _ _ _ _ (h2 z)⟩
  · rename_i hd
    exact ⟨h.1, hK _ _ _ _ _ _ h.2⟩
  · rename_i df lo hi os ln hd
    obtain ⟨x, r, e0, h1, h2, h3⟩ := h; exact ⟨x, r, e0, fun o z1 z2 z3 => ⟨(h1 o z1 z2 z3).1, hK _ _ _ _ _ _ (h1 o z1 z2 z3).2⟩, h2, fun z => ⟨(h3 z).1, hK _ _ _ _ _ _ (h3 z).2⟩⟩
  · rename_i hd
    obtain ⟨x, r, e0, hp, ho, h⟩ := h; exact ⟨x, r, e0, hp, ho, hK _ _ _ _ _ _ h⟩
  · rename_i hd
    rcases h with ⟨a, r, q, ci, fs, Cn, T, N, k, v, e0, he, hcl, hk, hw, hv, h⟩ | ⟨k, r, hk, e0, ⟨hw, h⟩ | ⟨hw, h⟩⟩
    · exact Or.inl ⟨a, r, q, ci, fs, Cn, T, N, k, v, e0, he, hcl, hk, hw, hv, hK _ _ _ _ _ _ h⟩
    · exact Or.inr ⟨k, r, hk, e0, Or.inl ⟨hw, hK _ _ _ _ _ _ h⟩⟩
    · exact Or.inr ⟨k, r, hk, e0, Or.inr ⟨hw, hK _ _ _ _ _ _ h⟩⟩
  · rename_i hd
    obtain ⟨a, r, q, ci, fs, Cn, T, N, k, v, e0, he, hcl, hk, hw, hkl, hnar, hfit, hfin, h⟩ := h; exact ⟨a, r, q, ci, fs, Cn, T, N, k, v, e0, he, hcl, hk, hw, hkl, hnar, hfit, hfin, hK _ _ _ _ _ _ h⟩
  · rename_i hd
    rcases h with ⟨b, L, xs, j, r, e9, e0, hin, h⟩ | ⟨a, j, r, q, n, f, e0, he, hin, h⟩
    · exact Or.inl ⟨b, L, xs, j, r, e9, e0, hin, hK _ _ _ _ _ _ h⟩
    · exact Or.inr ⟨a, j, r, q, n, f, e0, he, hin, hK _ _ _ _ _ _ h⟩
  · rename_i hd
    obtain ⟨a, j, r, q, n, f, e0, he, hin, h⟩ := h; exact ⟨a, j, r, q, n, f, e0, he, hin, hK _ _ _ _ _ _ h⟩
  · rename_i hd
    obtain ⟨a, j, r, q, n, f, e0, he, hin, h⟩ := h; exact ⟨a, j, r, q, n, f, e0, he, hin, hK _ _ _ _ _ _ h⟩
  · rename_i hd
    rcases h with ⟨a, j, r, q, n, f, e0, he, hin, h⟩ | ⟨k, j, r, hk, e0, hin, h⟩
    · exact Or.inl ⟨a, j, r, q, n, f, e0, he, hin, hK _ _ _ _ _ _ h⟩
    · exact Or.inr ⟨k, j, r, hk, e0, hin, hK _ _ _ _ _ _ h⟩
  · rename_i hd
    obtain ⟨a, j, x, r, q, n, f, e0, he, hin, h⟩ := h; exact ⟨a, j, x, r, q, n, f, e0, he, hin, hK _ _ _ _ _ _ h⟩
  · rename_i hd
    obtain ⟨a, j, x, r, q, n, f, e0, he, hin, h⟩ := h; exact ⟨a, j, x, r, q, n, f, e0, he, hin, hK _ _ _ _ _ _ h⟩
  · rename_i hd
    obtain ⟨a, j, x, r, q, n, f, e0, he, hin, h⟩ := h; exact ⟨a, j, x, r, q, n, f, e0, he, hin, hK _ _ _ _ _ _ h⟩
  · rename_i hd
    obtain ⟨a, j, x, r, q, n, f, e0, he, hin, h⟩ := h; exact ⟨a, j, x, r, q, n, f, e0, he, hin, hK _ _ _ _ _ _ h⟩
  · rename_i hd
    rcases h with ⟨b, L, xs, r, e9, e0, h⟩ | ⟨a, r, q, cA, x, t, ty, e0, he, ht, h⟩ | ⟨k, r, hk, e0, h⟩
    · exact Or.inl ⟨b, L, xs, r, e9, e0, hK _ _ _ _ _ _ h⟩
    · exact Or.inr (Or.inl ⟨a, r, q, cA, x, t, ty, e0, he, ht, hK _ _ _ _ _ _ h⟩)
    · exact Or.inr (Or.inr ⟨k, r, hk, e0, hK _ _ _ _ _ _ h⟩)
  · rename_i hd
    obtain ⟨ci, Cn, T, N, hcl, hw, h1, h2, h⟩ := h; exact ⟨ci, Cn, T, N, hcl, hw, h1, h2, fun q hq => hK _ _ _ _ _ _ (h q hq)⟩
  · rename_i hd
    obtain ⟨n, r, e0, hn, hbig, h1, h2, h⟩ := h; exact ⟨n, r, e0, hn, hbig, h1, h2, fun q hq => hK _ _ _ _ _ _ (h q hq)⟩
  · rename_i hd
    obtain ⟨n, r, e0, hn, hbig, h1, h2, h⟩ := h; exact ⟨n, r, e0, hn, hbig, h1, h2, fun q hq => hK _ _ _ _ _ _ (h q hq)⟩
  · rename_i hd
    obtain ⟨n, r, e0, hn, hbig, h1, h2, h⟩ := h; exact ⟨n, r, e0, hn, hbig, h1, h2, fun q hq => hK _ _ _ _ _ _ (h q hq)⟩
  · rename_i hd
    obtain ⟨n, r, e0, hn, hbig, h1, h2, h⟩ := h; exact ⟨n, r, e0, hn, hbig, h1, h2, fun q hq => hK _ _ _ _ _ _ (h q hq)⟩
  · rename_i hd
    rcases h with ⟨y, b, As, r, mc1, ms1, q, ci, fs, T, N, e0, hpl, w1, w2, w3, w4, he, hcl, hcat, h1, h2, h⟩ | ⟨y, b, As, r, mc1, ms1, k, e0, hpl, w1, w2, w3, w4, hk, eb, hcs, hcat, h1, h2, h⟩
    · exact Or.inl ⟨y, b, As, r, mc1, ms1, q, ci, fs, T, N, e0, hpl, w1, w2, w3, w4, he, hcl, hcat, h1, h2, hcall _ _ _ _ _ _ _ _ _ (fun v u => hK _ _ _ _ _ _) (fun E u => hxh _ _ _ _ E u) h⟩
    · exact Or.inr ⟨y, b, As, r, mc1, ms1, k, e0, hpl, w1, w2, w3, w4, hk, eb, hcs, hcat, h1, h2, hcall _ _ _ _ _ _ _ _ _ (fun v u => hK _ _ _ _ _ _) (fun E u => hxh _ _ _ _ E u) h⟩
  · rename_i hd
    rcases h with h | h
    · obtain ⟨n, dp, a, sp, a0, r, q0, q1, n0, n1, e0, w1, hcat, h1, h2, h3, h4, h5, h⟩ := h
      refine Or.inl ⟨n, dp, a, sp, a0, r, q0, q1, n0, n1, e0, w1, hcat, h1, h2, h3, h4, h5, ?_⟩
      rcases h with ⟨f, g, ha0, ha1, h⟩ | ⟨f, g, ha0, ha1, h⟩
      · exact Or.inl ⟨f, g, ha0, ha1, hK _ _ _ _ _ _ h⟩
      · exact Or.inr ⟨f, g, ha0, ha1, hK _ _ _ _ _ _ h⟩
    · obtain ⟨y, As, r, mc1, ms1, e0, hpl, w2, w4, hcat, h1, h2, h⟩ := h
      refine Or.inr ⟨y, As, r, mc1, ms1, e0, hpl, w2, w4, hcat, h1, h2, ?_⟩
      rcases h with h | h | ⟨host, w1, h⟩
      · exact Or.inl ⟨h.1, hcall _ _ _ _ _ _ _ _ _ (fun v u => hK _ _ _ _ _ _) (fun E u => hxh _ _ _ _ E u) h.2⟩
      · exact Or.inr (Or.inl ⟨h.1, hcallW _ _ _ _ _ _ _ _ _ (fun v u => hK _ _ _ _ _ _) (fun E u => id) h.2⟩)
      · exact Or.inr (Or.inr ⟨host, w1, hcall _ _ _ _ _ _ _ _ _ (fun v u => hK _ _ _ _ _ _) (fun E u => id) h⟩)
  · rename_i hd
    rcases h with ⟨a, r, e0, hcat, w1, h⟩ | ⟨y, b, As, r, mc1, ms1, e0, hpl, hyn, w2, w4, hcat, h1, h2, hcd, hlk, h⟩
    · exact Or.inl ⟨a, r, e0, hcat, w1, hK _ _ _ _ _ _ h⟩
    · exact Or.inr ⟨y, b, As, r, mc1, ms1, e0, hpl, hyn, w2, w4, hcat, h1, h2, hcd, hlk, hcall _ _ _ _ _ _ _ _ _ (fun v u => hK _ _ _ _ _ _) (fun E u => id) h⟩
  · rename_i hd
    obtain ⟨v, ty, e0, e1, hn, h⟩ := h; exact ⟨v, ty, e0, e1, hn, hret _ _ h⟩
  · rename_i hd
    obtain ⟨v, e0, e1, h⟩ := h; exact ⟨v, e0, e1, hret _ _ h⟩
  · rename_i hd
    obtain ⟨v, ty, e0, e1, hn, h⟩ := h; exact ⟨v, ty, e0, e1, hn, hret _ _ h⟩
  · rename_i hd
    exact ⟨h.1, h.2.1, hret _ _ h.2.2⟩
  · exact h.elim
theorem am_run_mono {Z : AmZ} {scr : AmS} {own : String} {cc : ByteArray} {nL : Nat} {rt : Option FieldType} {ini : Bool} {call callW : AmC} {xh xh' : AmH} {ret ret' : AmR} (hret : ∀ v u, ret v u → ret' v u)
    (hcall : ∀ y as ws mc ms post post' xp xp', (∀ v u, post v u → post' v u) → (∀ E u, xp E u → xp' E u) → call y as ws mc ms post xp → call y as ws mc ms post' xp') (hcallW : ∀ y as ws mc ms post post' xp xp', (∀ v u, post v u → post' v u) → (∀ E u, xp E u → xp' E u) → callW y as ws mc ms post xp → callW y as ws mc ms post' xp')
    (hxh : ∀ K K' : AmK, (∀ pc lv st ws C S, K pc lv st ws C S → K' pc lv st ws C S) → ∀ pc lv C S E u, xh K pc lv C S E u → xh' K' pc lv C S E u) : ∀ n n', n ≤ n' → ∀ pc lv st ws C S, am_run Z scr own cc nL rt ini call callW xh ret n pc lv st ws C S → am_run Z scr own cc nL rt ini call callW xh' ret' n' pc lv st ws C S := by
  intro n
  induction n with
  | zero => intro n' _ pc lv st ws C S h; exact h.elim
  | succ n ih =>
    intro n' hn pc lv st ws C S h
    obtain ⟨k, rfl⟩ : ∃ k, n' = k + 1 := ⟨n' - 1, by omega⟩
    rcases h with h | ⟨ws', hs, h⟩
    · exact Or.inl (am_mono (ih k (by omega)) hret hcall hcallW (hxh _ _ (ih k (by omega))) h)
    · exact Or.inr ⟨ws', hs, ih k (by omega) pc lv st ws' C S h⟩
theorem am_wp_mono {Z : AmZ} {leaf : AmC} (hleaf : ∀ y as ws mc ms post post' xp xp', (∀ v u, post v u → post' v u) → (∀ E u, xp E u → xp' E u) → leaf y as ws mc ms post xp → leaf y as ws mc ms post' xp') : ∀ d y as ws mc ms post post' xp xp', (∀ v u, post v u → post' v u) → (∀ E u, xp E u → xp' E u) → am_wp Z leaf d y as ws mc ms post xp → am_wp Z leaf d y as ws mc ms post' xp' := by
  intro d
  induction d with
  | zero => intro y as ws mc ms post post' xp xp' _ _ h; exact h.elim
  | succ d ih =>
    intro y as ws mc ms post post' xp xp' h1 h2 h
    rcases h with ⟨h5, h⟩ | ⟨cc, nL, rt, n, w5, hnL, hlen, hpn, h⟩
    · exact Or.inl ⟨h5, hleaf _ _ _ _ _ _ _ _ _ h1 h2 h⟩
    · exact Or.inr ⟨cc, nL, rt, n, w5, hnL, hlen, hpn, am_run_mono h1 ih (fun _ _ _ _ _ _ _ _ _ _ _ z => z.elim) (fun _ _ _ _ _ _ _ E u => h2 E u) n n (Nat.le_refl n) _ _ _ _ _ _ h⟩
theorem am_leaf_mono : ∀ y as ws mc ms post post' xp xp', (∀ v u, post v u → post' v u) → (∀ E u, xp E u → xp' E u) → am_leaf y as ws mc ms post xp → am_leaf y as ws mc ms post' xp' := by
  intro y as ws mc ms post post' xp xp' h1 h2 h
  rcases h with ⟨rfl, g, e0, k1, k2⟩ | ⟨rfl, g, e0, k1, k2⟩
  · exact Or.inl ⟨rfl, g, e0, fun z => h1 _ _ (k1 z), fun z => ⟨(k2 z).1, (k2 z).2.1, h2 _ _ (k2 z).2.2⟩⟩
  · exact Or.inr ⟨rfl, g, e0, fun z => h1 _ _ (k1 z), fun z => ⟨(k2 z).1, (k2 z).2.1, h2 _ _ (k2 z).2.2⟩⟩
theorem am_hx_mono {own : String} {hh : List (Nat × Nat × Nat × Nat)} : ∀ K K' : AmK, (∀ pc lv st ws C S, K pc lv st ws C S → K' pc lv st ws C S) → ∀ pc lv C S E u, am_hx own hh K pc lv C S E u → am_hx own hh K' pc lv C S E u := by
  intro K K' hK pc lv C S E u h
  obtain ⟨pre, x, suf, e1, e2, e3, e4, e5, e6, e7⟩ := h
  exact ⟨pre, x, suf, e1, e2, e3, e4, e5, e6, fun q => hK _ _ _ _ _ _ (e7 q)⟩
theorem am_wpW_mono {Z : AmZ} {leaf : AmC} (hleaf : ∀ y as ws mc ms post post' xp xp', (∀ v u, post v u → post' v u) → (∀ E u, xp E u → xp' E u) → leaf y as ws mc ms post xp → leaf y as ws mc ms post' xp') : ∀ d y as ws mc ms post post' xp xp', (∀ v u, post v u → post' v u) → (∀ E u, xp E u → xp' E u) → am_wpW Z leaf d y as ws mc ms post xp → am_wpW Z leaf d y as ws mc ms post' xp' := by
  intro d y as ws mc ms post post' xp xp' h1 h2 h
  cases d with
  | zero => exact h.elim
  | succ d =>
    obtain ⟨cc, nL, rt, hh, n, w5, hnL, hlen, hpn, h⟩ := h
    exact ⟨cc, nL, rt, hh, n, w5, hnL, hlen, hpn, am_run_mono h1 (am_wp_mono hleaf d) (fun _ _ _ _ _ _ _ _ _ _ _ z => z.elim) am_hx_mono n n (Nat.le_refl n) _ _ _ _ _ _ h⟩
