/-! one step of the executor, and its runs -/
section XS1
variable {ss : List XS} {n m pc : Nat} {l : List (Nat × XV)} {st : List XV} {C S : Nat} {fs : List XF} {h : XHp} {E : XE} {len : Nat}
variable {L : Nat} {Z : AmZ} {σ : Nat → Int32} {b : Nat} {xs : Nat → Int32} {ws : va_W} {lv : List (Nat × Value)} {vs : List Value} {cfs : List XG}
theorem xone_iconst {a0 : Int} (hx : xd_iconst m pc l C S fs h E a0 len st = some ss) (hm : m < xm_n) (hd : decode (xc m) pc = .ok (.iconst a0, len)) (G : ∀ s' ∈ ss, XGood n s') (hxs : XX L xs σ) (hE : xer σ E) (hH : xhr σ b Z ws h) (hl : xlr σ b (xads ws) lv l) (hs : xsr σ b (xads ws) vs st) (hf : xfr σ b (xads ws) (n + 1) cfs fs) : XR L Z b xs m cfs (n + 1) pc lv vs ws C S := by
  have hf' := xfr_le (Nat.le_succ n) hf
  show am_stp Z _ _ _ _ _ _ _ _ _ _ (XR L Z b xs m cfs n) pc lv vs ws C S ∨ _
  refine Or.inl ?_
  unfold am_stp
  unfold xd_iconst at hx
  revert hs hd
  split at hx
  · rename_i st
    intro hd hs
    unfold xst_0 at hx
    rw [hd]
    cases hx; exact (xg (G _ List.mem_cons_self) hxs hE hH hl ⟨⟨_, rfl, rfl⟩, hs⟩ hf')
  · cases hx
theorem xone_bipush {a0 : Int} (hx : xd_bipush m pc l C S fs h E a0 len st = some ss) (hm : m < xm_n) (hd : decode (xc m) pc = .ok (.bipush a0, len)) (G : ∀ s' ∈ ss, XGood n s') (hxs : XX L xs σ) (hE : xer σ E) (hH : xhr σ b Z ws h) (hl : xlr σ b (xads ws) lv l) (hs : xsr σ b (xads ws) vs st) (hf : xfr σ b (xads ws) (n + 1) cfs fs) : XR L Z b xs m cfs (n + 1) pc lv vs ws C S := by
  have hf' := xfr_le (Nat.le_succ n) hf
  show am_stp Z _ _ _ _ _ _ _ _ _ _ (XR L Z b xs m cfs n) pc lv vs ws C S ∨ _
  refine Or.inl ?_
  unfold am_stp
  unfold xd_bipush at hx
  revert hs hd
  split at hx
  · rename_i st
    intro hd hs
    unfold xst_1 at hx
    rw [hd]
    cases hx; exact (xg (G _ List.mem_cons_self) hxs hE hH hl ⟨⟨_, rfl, rfl⟩, hs⟩ hf')
  · cases hx
theorem xone_sipush {a0 : Int} (hx : xd_sipush m pc l C S fs h E a0 len st = some ss) (hm : m < xm_n) (hd : decode (xc m) pc = .ok (.sipush a0, len)) (G : ∀ s' ∈ ss, XGood n s') (hxs : XX L xs σ) (hE : xer σ E) (hH : xhr σ b Z ws h) (hl : xlr σ b (xads ws) lv l) (hs : xsr σ b (xads ws) vs st) (hf : xfr σ b (xads ws) (n + 1) cfs fs) : XR L Z b xs m cfs (n + 1) pc lv vs ws C S := by
  have hf' := xfr_le (Nat.le_succ n) hf
  show am_stp Z _ _ _ _ _ _ _ _ _ _ (XR L Z b xs m cfs n) pc lv vs ws C S ∨ _
  refine Or.inl ?_
  unfold am_stp
  unfold xd_sipush at hx
  revert hs hd
  split at hx
  · rename_i st
    intro hd hs
    unfold xst_2 at hx
    rw [hd]
    cases hx; exact (xg (G _ List.mem_cons_self) hxs hE hH hl ⟨⟨_, rfl, rfl⟩, hs⟩ hf')
  · cases hx
theorem xone_lconst {a0 : Fin 2} (hx : xd_lconst m pc l C S fs h E a0 len st = some ss) (hm : m < xm_n) (hd : decode (xc m) pc = .ok (.lconst a0, len)) (G : ∀ s' ∈ ss, XGood n s') (hxs : XX L xs σ) (hE : xer σ E) (hH : xhr σ b Z ws h) (hl : xlr σ b (xads ws) lv l) (hs : xsr σ b (xads ws) vs st) (hf : xfr σ b (xads ws) (n + 1) cfs fs) : XR L Z b xs m cfs (n + 1) pc lv vs ws C S := by
  have hf' := xfr_le (Nat.le_succ n) hf
  show am_stp Z _ _ _ _ _ _ _ _ _ _ (XR L Z b xs m cfs n) pc lv vs ws C S ∨ _
  refine Or.inl ?_
  unfold am_stp
  unfold xd_lconst at hx
  revert hs hd
  split at hx
  · rename_i st
    intro hd hs
    unfold xst_3 at hx
    rw [hd]
    cases hx; exact (xg (G _ List.mem_cons_self) hxs hE hH hl ⟨⟨_, rfl, rfl⟩, hs⟩ hf')
  · cases hx
theorem xone_ldc {a0 : Nat} (hx : xd_ldc m pc l C S fs h E a0 len st = some ss) (hm : m < xm_n) (hd : decode (xc m) pc = .ok (.ldc a0, len)) (G : ∀ s' ∈ ss, XGood n s') (hxs : XX L xs σ) (hE : xer σ E) (hH : xhr σ b Z ws h) (hl : xlr σ b (xads ws) lv l) (hs : xsr σ b (xads ws) vs st) (hf : xfr σ b (xads ws) (n + 1) cfs fs) : XR L Z b xs m cfs (n + 1) pc lv vs ws C S := by
  have hf' := xfr_le (Nat.le_succ n) hf
  show am_stp Z _ _ _ _ _ _ _ _ _ _ (XR L Z b xs m cfs n) pc lv vs ws C S ∨ _
  refine Or.inl ?_
  unfold am_stp
  unfold xd_ldc at hx
  revert hs hd
  split at hx
  · rename_i st
    intro hd hs
    unfold xst_4 at hx
    rw [hd]
    split at hx
    · rename_i v p9 hv
      cases hx
      exact Or.inl ⟨v, xa_w hm hv, (xg (G _ List.mem_cons_self) hxs hE hH hl ⟨⟨_, rfl, rfl⟩, hs⟩ hf')⟩
    · cases hx
  · cases hx
theorem xone_ldc_w {a0 : Nat} (hx : xd_ldc_w m pc l C S fs h E a0 len st = some ss) (hm : m < xm_n) (hd : decode (xc m) pc = .ok (.ldc_w a0, len)) (G : ∀ s' ∈ ss, XGood n s') (hxs : XX L xs σ) (hE : xer σ E) (hH : xhr σ b Z ws h) (hl : xlr σ b (xads ws) lv l) (hs : xsr σ b (xads ws) vs st) (hf : xfr σ b (xads ws) (n + 1) cfs fs) : XR L Z b xs m cfs (n + 1) pc lv vs ws C S := by
  have hf' := xfr_le (Nat.le_succ n) hf
  show am_stp Z _ _ _ _ _ _ _ _ _ _ (XR L Z b xs m cfs n) pc lv vs ws C S ∨ _
  refine Or.inl ?_
  unfold am_stp
  unfold xd_ldc_w at hx
  revert hs hd
  split at hx
  · rename_i st
    intro hd hs
    unfold xst_5 at hx
    rw [hd]
    split at hx
    · rename_i v p9 hv
      cases hx
      exact ⟨v, xa_w hm hv, (xg (G _ List.mem_cons_self) hxs hE hH hl ⟨⟨_, rfl, rfl⟩, hs⟩ hf')⟩
    · cases hx
  · cases hx
theorem xone_ldc2_w {a0 : Nat} (hx : xd_ldc2_w m pc l C S fs h E a0 len st = some ss) (hm : m < xm_n) (hd : decode (xc m) pc = .ok (.ldc2_w a0, len)) (G : ∀ s' ∈ ss, XGood n s') (hxs : XX L xs σ) (hE : xer σ E) (hH : xhr σ b Z ws h) (hl : xlr σ b (xads ws) lv l) (hs : xsr σ b (xads ws) vs st) (hf : xfr σ b (xads ws) (n + 1) cfs fs) : XR L Z b xs m cfs (n + 1) pc lv vs ws C S := by
  have hf' := xfr_le (Nat.le_succ n) hf
  show am_stp Z _ _ _ _ _ _ _ _ _ _ (XR L Z b xs m cfs n) pc lv vs ws C S ∨ _
  refine Or.inl ?_
  unfold am_stp
  unfold xd_ldc2_w at hx
  revert hs hd
  split at hx
  · rename_i st
    intro hd hs
    unfold xst_6 at hx
    rw [hd]
    split at hx
    · rename_i v p9 hv
      cases hx
      exact ⟨v, xb_w hm hv, (xg (G _ List.mem_cons_self) hxs hE hH hl ⟨⟨_, rfl, rfl⟩, hs⟩ hf')⟩
    · cases hx
  · cases hx
theorem xone_iload {a0 : Nat} (hx : xd_iload m pc l C S fs h E a0 len st = some ss) (hm : m < xm_n) (hd : decode (xc m) pc = .ok (.iload a0, len)) (G : ∀ s' ∈ ss, XGood n s') (hxs : XX L xs σ) (hE : xer σ E) (hH : xhr σ b Z ws h) (hl : xlr σ b (xads ws) lv l) (hs : xsr σ b (xads ws) vs st) (hf : xfr σ b (xads ws) (n + 1) cfs fs) : XR L Z b xs m cfs (n + 1) pc lv vs ws C S := by
  have hf' := xfr_le (Nat.le_succ n) hf
  show am_stp Z _ _ _ _ _ _ _ _ _ _ (XR L Z b xs m cfs n) pc lv vs ws C S ∨ _
  refine Or.inl ?_
  unfold am_stp
  unfold xd_iload at hx
  revert hs hd
  split at hx
  · rename_i st
    intro hd hs
    unfold xst_7 at hx
    rw [hd]
    split at hx
    · rename_i x hv
      cases hx
      obtain ⟨v, hm, hr⟩ := hl _ _ (xlook_mem hv)
      obtain ⟨y, rfl, hr⟩ := xvr_i hr
      exact ⟨y, hm, (xg (G _ List.mem_cons_self) hxs hE hH hl ⟨hr, hs⟩ hf')⟩
    · cases hx
  · cases hx
theorem xone_iload_n {a0 : Fin 4} (hx : xd_iload_n m pc l C S fs h E a0 len st = some ss) (hm : m < xm_n) (hd : decode (xc m) pc = .ok (.iload_n a0, len)) (G : ∀ s' ∈ ss, XGood n s') (hxs : XX L xs σ) (hE : xer σ E) (hH : xhr σ b Z ws h) (hl : xlr σ b (xads ws) lv l) (hs : xsr σ b (xads ws) vs st) (hf : xfr σ b (xads ws) (n + 1) cfs fs) : XR L Z b xs m cfs (n + 1) pc lv vs ws C S := by
  have hf' := xfr_le (Nat.le_succ n) hf
  show am_stp Z _ _ _ _ _ _ _ _ _ _ (XR L Z b xs m cfs n) pc lv vs ws C S ∨ _
  refine Or.inl ?_
  unfold am_stp
  unfold xd_iload_n at hx
  revert hs hd
  split at hx
  · rename_i st
    intro hd hs
    unfold xst_8 at hx
    rw [hd]
    split at hx
    · rename_i x hv
      cases hx
      obtain ⟨v, hm, hr⟩ := hl _ _ (xlook_mem hv)
      obtain ⟨y, rfl, hr⟩ := xvr_i hr
      exact ⟨y, hm, (xg (G _ List.mem_cons_self) hxs hE hH hl ⟨hr, hs⟩ hf')⟩
    · cases hx
  · cases hx
theorem xone_istore {a0 : Nat} (hx : xd_istore m pc l C S fs h E a0 len st = some ss) (hm : m < xm_n) (hd : decode (xc m) pc = .ok (.istore a0, len)) (G : ∀ s' ∈ ss, XGood n s') (hxs : XX L xs σ) (hE : xer σ E) (hH : xhr σ b Z ws h) (hl : xlr σ b (xads ws) lv l) (hs : xsr σ b (xads ws) vs st) (hf : xfr σ b (xads ws) (n + 1) cfs fs) : XR L Z b xs m cfs (n + 1) pc lv vs ws C S := by
  have hf' := xfr_le (Nat.le_succ n) hf
  show am_stp Z _ _ _ _ _ _ _ _ _ _ (XR L Z b xs m cfs n) pc lv vs ws C S ∨ _
  refine Or.inl ?_
  unfold am_stp
  unfold xd_istore at hx
  revert hs hd
  split at hx
  · rename_i x r
    intro hd hs
    unfold xst_9 at hx
    rw [hd]
    replace hx := xcond hx; obtain ⟨hb, hx⟩ := hx
    cases hx
    replace hs := xsr_c hs; obtain ⟨v, vr, rfl, hv, hs⟩ := hs
    obtain ⟨y, rfl, hv⟩ := xvr_i hv
    exact ⟨y, vr, rfl, Nat.lt_of_lt_of_le (Nat.lt_succ_self _) (Nat.le_of_ble_eq_true hb), (xg (G _ List.mem_cons_self) hxs hE hH (xlr_xs1 hl hv) hs hf')⟩
  · cases hx
theorem xone_istore_n {a0 : Fin 4} (hx : xd_istore_n m pc l C S fs h E a0 len st = some ss) (hm : m < xm_n) (hd : decode (xc m) pc = .ok (.istore_n a0, len)) (G : ∀ s' ∈ ss, XGood n s') (hxs : XX L xs σ) (hE : xer σ E) (hH : xhr σ b Z ws h) (hl : xlr σ b (xads ws) lv l) (hs : xsr σ b (xads ws) vs st) (hf : xfr σ b (xads ws) (n + 1) cfs fs) : XR L Z b xs m cfs (n + 1) pc lv vs ws C S := by
  have hf' := xfr_le (Nat.le_succ n) hf
  show am_stp Z _ _ _ _ _ _ _ _ _ _ (XR L Z b xs m cfs n) pc lv vs ws C S ∨ _
  refine Or.inl ?_
  unfold am_stp
  unfold xd_istore_n at hx
  revert hs hd
  split at hx
  · rename_i x r
    intro hd hs
    unfold xst_10 at hx
    rw [hd]
    replace hx := xcond hx; obtain ⟨hb, hx⟩ := hx
    cases hx
    replace hs := xsr_c hs; obtain ⟨v, vr, rfl, hv, hs⟩ := hs
    obtain ⟨y, rfl, hv⟩ := xvr_i hv
    exact ⟨y, vr, rfl, Nat.lt_of_lt_of_le (Nat.lt_succ_self _) (Nat.le_of_ble_eq_true hb), (xg (G _ List.mem_cons_self) hxs hE hH (xlr_xs1 hl hv) hs hf')⟩
  · cases hx
theorem xone_lload {a0 : Nat} (hx : xd_lload m pc l C S fs h E a0 len st = some ss) (hm : m < xm_n) (hd : decode (xc m) pc = .ok (.lload a0, len)) (G : ∀ s' ∈ ss, XGood n s') (hxs : XX L xs σ) (hE : xer σ E) (hH : xhr σ b Z ws h) (hl : xlr σ b (xads ws) lv l) (hs : xsr σ b (xads ws) vs st) (hf : xfr σ b (xads ws) (n + 1) cfs fs) : XR L Z b xs m cfs (n + 1) pc lv vs ws C S := by
  have hf' := xfr_le (Nat.le_succ n) hf
  show am_stp Z _ _ _ _ _ _ _ _ _ _ (XR L Z b xs m cfs n) pc lv vs ws C S ∨ _
  refine Or.inl ?_
  unfold am_stp
  unfold xd_lload at hx
  revert hs hd
  split at hx
  · rename_i st
    intro hd hs
    unfold xst_11 at hx
    rw [hd]
    split at hx
    · rename_i x hv
      cases hx
      obtain ⟨v, hm, hr⟩ := hl _ _ (xlook_mem hv)
      obtain ⟨y, rfl, hr⟩ := xvr_l hr
      exact ⟨y, hm, (xg (G _ List.mem_cons_self) hxs hE hH hl ⟨hr, hs⟩ hf')⟩
    · cases hx
  · cases hx
theorem xone_lload_n {a0 : Fin 4} (hx : xd_lload_n m pc l C S fs h E a0 len st = some ss) (hm : m < xm_n) (hd : decode (xc m) pc = .ok (.lload_n a0, len)) (G : ∀ s' ∈ ss, XGood n s') (hxs : XX L xs σ) (hE : xer σ E) (hH : xhr σ b Z ws h) (hl : xlr σ b (xads ws) lv l) (hs : xsr σ b (xads ws) vs st) (hf : xfr σ b (xads ws) (n + 1) cfs fs) : XR L Z b xs m cfs (n + 1) pc lv vs ws C S := by
  have hf' := xfr_le (Nat.le_succ n) hf
  show am_stp Z _ _ _ _ _ _ _ _ _ _ (XR L Z b xs m cfs n) pc lv vs ws C S ∨ _
  refine Or.inl ?_
  unfold am_stp
  unfold xd_lload_n at hx
  revert hs hd
  split at hx
  · rename_i st
    intro hd hs
    unfold xst_12 at hx
    rw [hd]
    split at hx
    · rename_i x hv
      cases hx
      obtain ⟨v, hm, hr⟩ := hl _ _ (xlook_mem hv)
      obtain ⟨y, rfl, hr⟩ := xvr_l hr
      exact ⟨y, hm, (xg (G _ List.mem_cons_self) hxs hE hH hl ⟨hr, hs⟩ hf')⟩
    · cases hx
  · cases hx
theorem xone_lstore {a0 : Nat} (hx : xd_lstore m pc l C S fs h E a0 len st = some ss) (hm : m < xm_n) (hd : decode (xc m) pc = .ok (.lstore a0, len)) (G : ∀ s' ∈ ss, XGood n s') (hxs : XX L xs σ) (hE : xer σ E) (hH : xhr σ b Z ws h) (hl : xlr σ b (xads ws) lv l) (hs : xsr σ b (xads ws) vs st) (hf : xfr σ b (xads ws) (n + 1) cfs fs) : XR L Z b xs m cfs (n + 1) pc lv vs ws C S := by
  have hf' := xfr_le (Nat.le_succ n) hf
  show am_stp Z _ _ _ _ _ _ _ _ _ _ (XR L Z b xs m cfs n) pc lv vs ws C S ∨ _
  refine Or.inl ?_
  unfold am_stp
  unfold xd_lstore at hx
  revert hs hd
  split at hx
  · rename_i x r
    intro hd hs
    unfold xst_13 at hx
    rw [hd]
    replace hx := xcond hx; obtain ⟨hb, hx⟩ := hx
    cases hx
    replace hs := xsr_c hs; obtain ⟨v, vr, rfl, hv, hs⟩ := hs
    obtain ⟨y, rfl, hv⟩ := xvr_l hv
    exact ⟨y, vr, rfl, Nat.lt_of_lt_of_le (Nat.lt_succ_self _) (Nat.le_of_ble_eq_true hb), (xg (G _ List.mem_cons_self) hxs hE hH (xlr_xs2 hl hv) hs hf')⟩
  · cases hx
theorem xone_lstore_n {a0 : Fin 4} (hx : xd_lstore_n m pc l C S fs h E a0 len st = some ss) (hm : m < xm_n) (hd : decode (xc m) pc = .ok (.lstore_n a0, len)) (G : ∀ s' ∈ ss, XGood n s') (hxs : XX L xs σ) (hE : xer σ E) (hH : xhr σ b Z ws h) (hl : xlr σ b (xads ws) lv l) (hs : xsr σ b (xads ws) vs st) (hf : xfr σ b (xads ws) (n + 1) cfs fs) : XR L Z b xs m cfs (n + 1) pc lv vs ws C S := by
  have hf' := xfr_le (Nat.le_succ n) hf
  show am_stp Z _ _ _ _ _ _ _ _ _ _ (XR L Z b xs m cfs n) pc lv vs ws C S ∨ _
  refine Or.inl ?_
  unfold am_stp
  unfold xd_lstore_n at hx
  revert hs hd
  split at hx
  · rename_i x r
    intro hd hs
    unfold xst_14 at hx
    rw [hd]
    replace hx := xcond hx; obtain ⟨hb, hx⟩ := hx
    cases hx
    replace hs := xsr_c hs; obtain ⟨v, vr, rfl, hv, hs⟩ := hs
    obtain ⟨y, rfl, hv⟩ := xvr_l hv
    exact ⟨y, vr, rfl, Nat.lt_of_lt_of_le (Nat.lt_succ_self _) (Nat.le_of_ble_eq_true hb), (xg (G _ List.mem_cons_self) hxs hE hH (xlr_xs2 hl hv) hs hf')⟩
  · cases hx
theorem xone_aload {a0 : Nat} (hx : xd_aload m pc l C S fs h E a0 len st = some ss) (hm : m < xm_n) (hd : decode (xc m) pc = .ok (.aload a0, len)) (G : ∀ s' ∈ ss, XGood n s') (hxs : XX L xs σ) (hE : xer σ E) (hH : xhr σ b Z ws h) (hl : xlr σ b (xads ws) lv l) (hs : xsr σ b (xads ws) vs st) (hf : xfr σ b (xads ws) (n + 1) cfs fs) : XR L Z b xs m cfs (n + 1) pc lv vs ws C S := by
  have hf' := xfr_le (Nat.le_succ n) hf
  show am_stp Z _ _ _ _ _ _ _ _ _ _ (XR L Z b xs m cfs n) pc lv vs ws C S ∨ _
  refine Or.inl ?_
  unfold am_stp
  unfold xd_aload at hx
  revert hs hd
  split at hx
  · rename_i st
    intro hd hs
    unfold xst_15 at hx
    rw [hd]
    split at hx
    · rename_i x hv
      cases hx
      obtain ⟨v, hm, hr⟩ := hl _ _ (xlook_mem hv)
      obtain ⟨y, rfl, hr⟩ := xvr_a hr
      exact ⟨y, hm, (xg (G _ List.mem_cons_self) hxs hE hH hl ⟨hr, hs⟩ hf')⟩
    · cases hx
  · cases hx
theorem xone_aload_n {a0 : Fin 4} (hx : xd_aload_n m pc l C S fs h E a0 len st = some ss) (hm : m < xm_n) (hd : decode (xc m) pc = .ok (.aload_n a0, len)) (G : ∀ s' ∈ ss, XGood n s') (hxs : XX L xs σ) (hE : xer σ E) (hH : xhr σ b Z ws h) (hl : xlr σ b (xads ws) lv l) (hs : xsr σ b (xads ws) vs st) (hf : xfr σ b (xads ws) (n + 1) cfs fs) : XR L Z b xs m cfs (n + 1) pc lv vs ws C S := by
  have hf' := xfr_le (Nat.le_succ n) hf
  show am_stp Z _ _ _ _ _ _ _ _ _ _ (XR L Z b xs m cfs n) pc lv vs ws C S ∨ _
  refine Or.inl ?_
  unfold am_stp
  unfold xd_aload_n at hx
  revert hs hd
  split at hx
  · rename_i st
    intro hd hs
    unfold xst_16 at hx
    rw [hd]
    split at hx
    · rename_i x hv
      cases hx
      obtain ⟨v, hm, hr⟩ := hl _ _ (xlook_mem hv)
      obtain ⟨y, rfl, hr⟩ := xvr_a hr
      exact ⟨y, hm, (xg (G _ List.mem_cons_self) hxs hE hH hl ⟨hr, hs⟩ hf')⟩
    · cases hx
  · cases hx
theorem xone_astore {a0 : Nat} (hx : xd_astore m pc l C S fs h E a0 len st = some ss) (hm : m < xm_n) (hd : decode (xc m) pc = .ok (.astore a0, len)) (G : ∀ s' ∈ ss, XGood n s') (hxs : XX L xs σ) (hE : xer σ E) (hH : xhr σ b Z ws h) (hl : xlr σ b (xads ws) lv l) (hs : xsr σ b (xads ws) vs st) (hf : xfr σ b (xads ws) (n + 1) cfs fs) : XR L Z b xs m cfs (n + 1) pc lv vs ws C S := by
  have hf' := xfr_le (Nat.le_succ n) hf
  show am_stp Z _ _ _ _ _ _ _ _ _ _ (XR L Z b xs m cfs n) pc lv vs ws C S ∨ _
  refine Or.inl ?_
  unfold am_stp
  unfold xd_astore at hx
  revert hs hd
  split at hx
  · rename_i x r
    intro hd hs
    unfold xst_17 at hx
    rw [hd]
    replace hx := xcond hx; obtain ⟨hb, hx⟩ := hx
    cases hx
    replace hs := xsr_c hs; obtain ⟨v, vr, rfl, hv, hs⟩ := hs
    obtain ⟨y, rfl, hv⟩ := xvr_a hv
    exact ⟨y, vr, rfl, Nat.lt_of_lt_of_le (Nat.lt_succ_self _) (Nat.le_of_ble_eq_true hb), (xg (G _ List.mem_cons_self) hxs hE hH (xlr_xs1 hl hv) hs hf')⟩
  · cases hx
theorem xone_astore_n {a0 : Fin 4} (hx : xd_astore_n m pc l C S fs h E a0 len st = some ss) (hm : m < xm_n) (hd : decode (xc m) pc = .ok (.astore_n a0, len)) (G : ∀ s' ∈ ss, XGood n s') (hxs : XX L xs σ) (hE : xer σ E) (hH : xhr σ b Z ws h) (hl : xlr σ b (xads ws) lv l) (hs : xsr σ b (xads ws) vs st) (hf : xfr σ b (xads ws) (n + 1) cfs fs) : XR L Z b xs m cfs (n + 1) pc lv vs ws C S := by
  have hf' := xfr_le (Nat.le_succ n) hf
  show am_stp Z _ _ _ _ _ _ _ _ _ _ (XR L Z b xs m cfs n) pc lv vs ws C S ∨ _
  refine Or.inl ?_
  unfold am_stp
  unfold xd_astore_n at hx
  revert hs hd
  split at hx
  · rename_i x r
    intro hd hs
    unfold xst_18 at hx
    rw [hd]
    replace hx := xcond hx; obtain ⟨hb, hx⟩ := hx
    cases hx
    replace hs := xsr_c hs; obtain ⟨v, vr, rfl, hv, hs⟩ := hs
    obtain ⟨y, rfl, hv⟩ := xvr_a hv
    exact ⟨y, vr, rfl, Nat.lt_of_lt_of_le (Nat.lt_succ_self _) (Nat.le_of_ble_eq_true hb), (xg (G _ List.mem_cons_self) hxs hE hH (xlr_xs1 hl hv) hs hf')⟩
  · cases hx
theorem xone_iinc {a0 : Nat} {a1 : Int} (hx : xd_iinc m pc l C S fs h E a0 a1 len st = some ss) (hm : m < xm_n) (hd : decode (xc m) pc = .ok (.iinc a0 a1, len)) (G : ∀ s' ∈ ss, XGood n s') (hxs : XX L xs σ) (hE : xer σ E) (hH : xhr σ b Z ws h) (hl : xlr σ b (xads ws) lv l) (hs : xsr σ b (xads ws) vs st) (hf : xfr σ b (xads ws) (n + 1) cfs fs) : XR L Z b xs m cfs (n + 1) pc lv vs ws C S := by
  have hf' := xfr_le (Nat.le_succ n) hf
  show am_stp Z _ _ _ _ _ _ _ _ _ _ (XR L Z b xs m cfs n) pc lv vs ws C S ∨ _
  refine Or.inl ?_
  unfold am_stp
  unfold xd_iinc at hx
  revert hs hd
  split at hx
  · rename_i st
    intro hd hs
    unfold xst_19 at hx
    rw [hd]
    split at hx
    · rename_i x hv
      replace hx := xcond hx; obtain ⟨hb, hx⟩ := hx
      cases hx
      obtain ⟨v, hm, hr⟩ := hl _ _ (xlook_mem hv)
      obtain ⟨y, rfl, y2, he, hr⟩ := xvr_i hr
      cases he
      exact ⟨y, hm, Nat.lt_of_lt_of_le (Nat.lt_succ_self _) (Nat.le_of_ble_eq_true hb), (xg (G _ List.mem_cons_self) hxs hE hH (xlr_xs1 hl ⟨_, rfl, xir_add hr rfl⟩) hs hf')⟩
    · cases hx
  · cases hx
theorem xone_iadd (hx : xd_iadd m pc l C S fs h E  len st = some ss) (hm : m < xm_n) (hd : decode (xc m) pc = .ok (.iadd , len)) (G : ∀ s' ∈ ss, XGood n s') (hxs : XX L xs σ) (hE : xer σ E) (hH : xhr σ b Z ws h) (hl : xlr σ b (xads ws) lv l) (hs : xsr σ b (xads ws) vs st) (hf : xfr σ b (xads ws) (n + 1) cfs fs) : XR L Z b xs m cfs (n + 1) pc lv vs ws C S := by
  have hf' := xfr_le (Nat.le_succ n) hf
  show am_stp Z _ _ _ _ _ _ _ _ _ _ (XR L Z b xs m cfs n) pc lv vs ws C S ∨ _
  refine Or.inl ?_
  unfold am_stp
  unfold xd_iadd at hx
  revert hs hd
  split at hx
  · rename_i y x r
    intro hd hs
    unfold xst_20 at hx
    rw [hd]
    cases hx; replace hs := xsr_i hs; obtain ⟨y1, v1, rfl, hy, hs⟩ := hs; replace hs := xsr_i hs; obtain ⟨x1, v2, rfl, hx1, hs⟩ := hs; exact ⟨x1, y1, v2, rfl, (xg (G _ List.mem_cons_self) hxs hE hH hl ⟨⟨_, rfl, xir_add hx1 hy⟩, hs⟩ hf')⟩
  · cases hx
theorem xone_iand (hx : xd_iand m pc l C S fs h E  len st = some ss) (hm : m < xm_n) (hd : decode (xc m) pc = .ok (.iand , len)) (G : ∀ s' ∈ ss, XGood n s') (hxs : XX L xs σ) (hE : xer σ E) (hH : xhr σ b Z ws h) (hl : xlr σ b (xads ws) lv l) (hs : xsr σ b (xads ws) vs st) (hf : xfr σ b (xads ws) (n + 1) cfs fs) : XR L Z b xs m cfs (n + 1) pc lv vs ws C S := by
  have hf' := xfr_le (Nat.le_succ n) hf
  show am_stp Z _ _ _ _ _ _ _ _ _ _ (XR L Z b xs m cfs n) pc lv vs ws C S ∨ _
  refine Or.inl ?_
  unfold am_stp
  unfold xd_iand at hx
  revert hs hd
  split at hx
  · rename_i y x r
    intro hd hs
    unfold xst_21 at hx
    rw [hd]
    cases hx; replace hs := xsr_i hs; obtain ⟨y1, v1, rfl, hy, hs⟩ := hs; replace hs := xsr_i hs; obtain ⟨x1, v2, rfl, hx1, hs⟩ := hs; exact ⟨x1, y1, v2, rfl, (xg (G _ List.mem_cons_self) hxs hE hH hl ⟨⟨_, rfl, xir_and hE hx1 hy⟩, hs⟩ hf')⟩
  · cases hx
theorem xone_isub (hx : xd_isub m pc l C S fs h E  len st = some ss) (hm : m < xm_n) (hd : decode (xc m) pc = .ok (.isub , len)) (G : ∀ s' ∈ ss, XGood n s') (hxs : XX L xs σ) (hE : xer σ E) (hH : xhr σ b Z ws h) (hl : xlr σ b (xads ws) lv l) (hs : xsr σ b (xads ws) vs st) (hf : xfr σ b (xads ws) (n + 1) cfs fs) : XR L Z b xs m cfs (n + 1) pc lv vs ws C S := by
  have hf' := xfr_le (Nat.le_succ n) hf
  show am_stp Z _ _ _ _ _ _ _ _ _ _ (XR L Z b xs m cfs n) pc lv vs ws C S ∨ _
  refine Or.inl ?_
  unfold am_stp
  unfold xd_isub at hx
  revert hs hd
  split at hx
  · rename_i y x r
    intro hd hs
    unfold xst_22 at hx
    rw [hd]
    cases hx; replace hs := xsr_i hs; obtain ⟨y1, v1, rfl, hy, hs⟩ := hs; replace hs := xsr_i hs; obtain ⟨x1, v2, rfl, hx1, hs⟩ := hs; exact ⟨x1, y1, v2, rfl, (xg (G _ List.mem_cons_self) hxs hE hH hl ⟨⟨_, rfl, xir_bin (f := fun x y => x - y) hx1 hy⟩, hs⟩ hf')⟩
  · cases hx
theorem xone_imul (hx : xd_imul m pc l C S fs h E  len st = some ss) (hm : m < xm_n) (hd : decode (xc m) pc = .ok (.imul , len)) (G : ∀ s' ∈ ss, XGood n s') (hxs : XX L xs σ) (hE : xer σ E) (hH : xhr σ b Z ws h) (hl : xlr σ b (xads ws) lv l) (hs : xsr σ b (xads ws) vs st) (hf : xfr σ b (xads ws) (n + 1) cfs fs) : XR L Z b xs m cfs (n + 1) pc lv vs ws C S := by
  have hf' := xfr_le (Nat.le_succ n) hf
  show am_stp Z _ _ _ _ _ _ _ _ _ _ (XR L Z b xs m cfs n) pc lv vs ws C S ∨ _
  refine Or.inl ?_
  unfold am_stp
  unfold xd_imul at hx
  revert hs hd
  split at hx
  · rename_i y x r
    intro hd hs
    unfold xst_23 at hx
    rw [hd]
    cases hx; replace hs := xsr_i hs; obtain ⟨y1, v1, rfl, hy, hs⟩ := hs; replace hs := xsr_i hs; obtain ⟨x1, v2, rfl, hx1, hs⟩ := hs; exact ⟨x1, y1, v2, rfl, (xg (G _ List.mem_cons_self) hxs hE hH hl ⟨⟨_, rfl, xir_bin (f := fun x y => x * y) hx1 hy⟩, hs⟩ hf')⟩
  · cases hx
theorem xone_ior (hx : xd_ior m pc l C S fs h E  len st = some ss) (hm : m < xm_n) (hd : decode (xc m) pc = .ok (.ior , len)) (G : ∀ s' ∈ ss, XGood n s') (hxs : XX L xs σ) (hE : xer σ E) (hH : xhr σ b Z ws h) (hl : xlr σ b (xads ws) lv l) (hs : xsr σ b (xads ws) vs st) (hf : xfr σ b (xads ws) (n + 1) cfs fs) : XR L Z b xs m cfs (n + 1) pc lv vs ws C S := by
  have hf' := xfr_le (Nat.le_succ n) hf
  show am_stp Z _ _ _ _ _ _ _ _ _ _ (XR L Z b xs m cfs n) pc lv vs ws C S ∨ _
  refine Or.inl ?_
  unfold am_stp
  unfold xd_ior at hx
  revert hs hd
  split at hx
  · rename_i y x r
    intro hd hs
    unfold xst_24 at hx
    rw [hd]
    cases hx; replace hs := xsr_i hs; obtain ⟨y1, v1, rfl, hy, hs⟩ := hs; replace hs := xsr_i hs; obtain ⟨x1, v2, rfl, hx1, hs⟩ := hs; exact ⟨x1, y1, v2, rfl, (xg (G _ List.mem_cons_self) hxs hE hH hl ⟨⟨_, rfl, xir_bin (f := fun x y => x ||| y) hx1 hy⟩, hs⟩ hf')⟩
  · cases hx
theorem xone_ixor (hx : xd_ixor m pc l C S fs h E  len st = some ss) (hm : m < xm_n) (hd : decode (xc m) pc = .ok (.ixor , len)) (G : ∀ s' ∈ ss, XGood n s') (hxs : XX L xs σ) (hE : xer σ E) (hH : xhr σ b Z ws h) (hl : xlr σ b (xads ws) lv l) (hs : xsr σ b (xads ws) vs st) (hf : xfr σ b (xads ws) (n + 1) cfs fs) : XR L Z b xs m cfs (n + 1) pc lv vs ws C S := by
  have hf' := xfr_le (Nat.le_succ n) hf
  show am_stp Z _ _ _ _ _ _ _ _ _ _ (XR L Z b xs m cfs n) pc lv vs ws C S ∨ _
  refine Or.inl ?_
  unfold am_stp
  unfold xd_ixor at hx
  revert hs hd
  split at hx
  · rename_i y x r
    intro hd hs
    unfold xst_25 at hx
    rw [hd]
    cases hx; replace hs := xsr_i hs; obtain ⟨y1, v1, rfl, hy, hs⟩ := hs; replace hs := xsr_i hs; obtain ⟨x1, v2, rfl, hx1, hs⟩ := hs; exact ⟨x1, y1, v2, rfl, (xg (G _ List.mem_cons_self) hxs hE hH hl ⟨⟨_, rfl, xir_bin (f := fun x y => x ^^^ y) hx1 hy⟩, hs⟩ hf')⟩
  · cases hx
theorem xone_ishl (hx : xd_ishl m pc l C S fs h E  len st = some ss) (hm : m < xm_n) (hd : decode (xc m) pc = .ok (.ishl , len)) (G : ∀ s' ∈ ss, XGood n s') (hxs : XX L xs σ) (hE : xer σ E) (hH : xhr σ b Z ws h) (hl : xlr σ b (xads ws) lv l) (hs : xsr σ b (xads ws) vs st) (hf : xfr σ b (xads ws) (n + 1) cfs fs) : XR L Z b xs m cfs (n + 1) pc lv vs ws C S := by
  have hf' := xfr_le (Nat.le_succ n) hf
  show am_stp Z _ _ _ _ _ _ _ _ _ _ (XR L Z b xs m cfs n) pc lv vs ws C S ∨ _
  refine Or.inl ?_
  unfold am_stp
  unfold xd_ishl at hx
  revert hs hd
  split at hx
  · rename_i y x r
    intro hd hs
    unfold xst_26 at hx
    rw [hd]
    cases hx; replace hs := xsr_i hs; obtain ⟨y1, v1, rfl, hy, hs⟩ := hs; replace hs := xsr_i hs; obtain ⟨x1, v2, rfl, hx1, hs⟩ := hs; exact ⟨x1, y1, v2, rfl, (xg (G _ List.mem_cons_self) hxs hE hH hl ⟨⟨_, rfl, xir_bin (f := fun x y => x <<< (y &&& 31)) hx1 hy⟩, hs⟩ hf')⟩
  · cases hx
theorem xone_ishr (hx : xd_ishr m pc l C S fs h E  len st = some ss) (hm : m < xm_n) (hd : decode (xc m) pc = .ok (.ishr , len)) (G : ∀ s' ∈ ss, XGood n s') (hxs : XX L xs σ) (hE : xer σ E) (hH : xhr σ b Z ws h) (hl : xlr σ b (xads ws) lv l) (hs : xsr σ b (xads ws) vs st) (hf : xfr σ b (xads ws) (n + 1) cfs fs) : XR L Z b xs m cfs (n + 1) pc lv vs ws C S := by
  have hf' := xfr_le (Nat.le_succ n) hf
  show am_stp Z _ _ _ _ _ _ _ _ _ _ (XR L Z b xs m cfs n) pc lv vs ws C S ∨ _
  refine Or.inl ?_
  unfold am_stp
  unfold xd_ishr at hx
  revert hs hd
  split at hx
  · rename_i y x r
    intro hd hs
    unfold xst_27 at hx
    rw [hd]
    cases hx; replace hs := xsr_i hs; obtain ⟨y1, v1, rfl, hy, hs⟩ := hs; replace hs := xsr_i hs; obtain ⟨x1, v2, rfl, hx1, hs⟩ := hs; exact ⟨x1, y1, v2, rfl, (xg (G _ List.mem_cons_self) hxs hE hH hl ⟨⟨_, rfl, xir_bin (f := fun x y => x >>> (y &&& 31)) hx1 hy⟩, hs⟩ hf')⟩
  · cases hx
theorem xone_iushr (hx : xd_iushr m pc l C S fs h E  len st = some ss) (hm : m < xm_n) (hd : decode (xc m) pc = .ok (.iushr , len)) (G : ∀ s' ∈ ss, XGood n s') (hxs : XX L xs σ) (hE : xer σ E) (hH : xhr σ b Z ws h) (hl : xlr σ b (xads ws) lv l) (hs : xsr σ b (xads ws) vs st) (hf : xfr σ b (xads ws) (n + 1) cfs fs) : XR L Z b xs m cfs (n + 1) pc lv vs ws C S := by
  have hf' := xfr_le (Nat.le_succ n) hf
  show am_stp Z _ _ _ _ _ _ _ _ _ _ (XR L Z b xs m cfs n) pc lv vs ws C S ∨ _
  refine Or.inl ?_
  unfold am_stp
  unfold xd_iushr at hx
  revert hs hd
  split at hx
  · rename_i y x r
    intro hd hs
    unfold xst_28 at hx
    rw [hd]
    cases hx; replace hs := xsr_i hs; obtain ⟨y1, v1, rfl, hy, hs⟩ := hs; replace hs := xsr_i hs; obtain ⟨x1, v2, rfl, hx1, hs⟩ := hs; exact ⟨x1, y1, v2, rfl, (xg (G _ List.mem_cons_self) hxs hE hH hl ⟨⟨_, rfl, xir_bin (f := fun x y => (x.toUInt32 >>> (y.toUInt32 &&& Int32.toUInt32 31)).toInt32) hx1 hy⟩, hs⟩ hf')⟩
  · cases hx
theorem xone_idiv (hx : xd_idiv m pc l C S fs h E  len st = some ss) (hm : m < xm_n) (hd : decode (xc m) pc = .ok (.idiv , len)) (G : ∀ s' ∈ ss, XGood n s') (hxs : XX L xs σ) (hE : xer σ E) (hH : xhr σ b Z ws h) (hl : xlr σ b (xads ws) lv l) (hs : xsr σ b (xads ws) vs st) (hf : xfr σ b (xads ws) (n + 1) cfs fs) : XR L Z b xs m cfs (n + 1) pc lv vs ws C S := by
  have hf' := xfr_le (Nat.le_succ n) hf
  show am_stp Z _ _ _ _ _ _ _ _ _ _ (XR L Z b xs m cfs n) pc lv vs ws C S ∨ _
  refine Or.inl ?_
  unfold am_stp
  unfold xd_idiv at hx
  revert hs hd
  split at hx
  · rename_i y x r
    intro hd hs
    unfold xst_29 at hx
    rw [hd]
    replace hx := xcondn hx; obtain ⟨hb, hx⟩ := hx; cases hx; replace hs := xsr_i hs; obtain ⟨y1, v1, rfl, hy, hs⟩ := hs; replace hs := xsr_i hs; obtain ⟨x1, v2, rfl, hx1, hs⟩ := hs; cases hy; exact ⟨x1, y, v2, rfl, of_decide_eq_false hb, (xg (G _ List.mem_cons_self) hxs hE hH hl ⟨⟨_, rfl, xir_bin (f := fun x y => x / y) hx1 rfl⟩, hs⟩ hf')⟩
  · cases hx
theorem xone_irem (hx : xd_irem m pc l C S fs h E  len st = some ss) (hm : m < xm_n) (hd : decode (xc m) pc = .ok (.irem , len)) (G : ∀ s' ∈ ss, XGood n s') (hxs : XX L xs σ) (hE : xer σ E) (hH : xhr σ b Z ws h) (hl : xlr σ b (xads ws) lv l) (hs : xsr σ b (xads ws) vs st) (hf : xfr σ b (xads ws) (n + 1) cfs fs) : XR L Z b xs m cfs (n + 1) pc lv vs ws C S := by
  have hf' := xfr_le (Nat.le_succ n) hf
  show am_stp Z _ _ _ _ _ _ _ _ _ _ (XR L Z b xs m cfs n) pc lv vs ws C S ∨ _
  refine Or.inl ?_
  unfold am_stp
  unfold xd_irem at hx
  revert hs hd
  split at hx
  · rename_i y x r
    intro hd hs
    unfold xst_30 at hx
    rw [hd]
    replace hx := xcondn hx; obtain ⟨hb, hx⟩ := hx; cases hx; replace hs := xsr_i hs; obtain ⟨y1, v1, rfl, hy, hs⟩ := hs; replace hs := xsr_i hs; obtain ⟨x1, v2, rfl, hx1, hs⟩ := hs; cases hy; exact ⟨x1, y, v2, rfl, of_decide_eq_false hb, (xg (G _ List.mem_cons_self) hxs hE hH hl ⟨⟨_, rfl, xir_bin (f := fun x y => x - x / y * y) hx1 rfl⟩, hs⟩ hf')⟩
  · cases hx
theorem xone_ladd (hx : xd_ladd m pc l C S fs h E  len st = some ss) (hm : m < xm_n) (hd : decode (xc m) pc = .ok (.ladd , len)) (G : ∀ s' ∈ ss, XGood n s') (hxs : XX L xs σ) (hE : xer σ E) (hH : xhr σ b Z ws h) (hl : xlr σ b (xads ws) lv l) (hs : xsr σ b (xads ws) vs st) (hf : xfr σ b (xads ws) (n + 1) cfs fs) : XR L Z b xs m cfs (n + 1) pc lv vs ws C S := by
  have hf' := xfr_le (Nat.le_succ n) hf
  show am_stp Z _ _ _ _ _ _ _ _ _ _ (XR L Z b xs m cfs n) pc lv vs ws C S ∨ _
  refine Or.inl ?_
  unfold am_stp
  unfold xd_ladd at hx
  revert hs hd
  split at hx
  · rename_i y x r
    intro hd hs
    unfold xst_31 at hx
    rw [hd]
    cases hx; replace hs := xsr_l hs; obtain ⟨y1, v1, rfl, hy, hs⟩ := hs; replace hs := xsr_l hs; obtain ⟨x1, v2, rfl, hx1, hs⟩ := hs; exact ⟨x1, y1, v2, rfl, (xg (G _ List.mem_cons_self) hxs hE hH hl ⟨⟨_, rfl, xLr_bin (f := fun x y => x + y) hx1 hy⟩, hs⟩ hf')⟩
  · cases hx
theorem xone_lsub (hx : xd_lsub m pc l C S fs h E  len st = some ss) (hm : m < xm_n) (hd : decode (xc m) pc = .ok (.lsub , len)) (G : ∀ s' ∈ ss, XGood n s') (hxs : XX L xs σ) (hE : xer σ E) (hH : xhr σ b Z ws h) (hl : xlr σ b (xads ws) lv l) (hs : xsr σ b (xads ws) vs st) (hf : xfr σ b (xads ws) (n + 1) cfs fs) : XR L Z b xs m cfs (n + 1) pc lv vs ws C S := by
  have hf' := xfr_le (Nat.le_succ n) hf
  show am_stp Z _ _ _ _ _ _ _ _ _ _ (XR L Z b xs m cfs n) pc lv vs ws C S ∨ _
  refine Or.inl ?_
  unfold am_stp
  unfold xd_lsub at hx
  revert hs hd
  split at hx
  · rename_i y x r
    intro hd hs
    unfold xst_32 at hx
    rw [hd]
    cases hx; replace hs := xsr_l hs; obtain ⟨y1, v1, rfl, hy, hs⟩ := hs; replace hs := xsr_l hs; obtain ⟨x1, v2, rfl, hx1, hs⟩ := hs; exact ⟨x1, y1, v2, rfl, (xg (G _ List.mem_cons_self) hxs hE hH hl ⟨⟨_, rfl, xLr_bin (f := fun x y => x - y) hx1 hy⟩, hs⟩ hf')⟩
  · cases hx
theorem xone_lmul (hx : xd_lmul m pc l C S fs h E  len st = some ss) (hm : m < xm_n) (hd : decode (xc m) pc = .ok (.lmul , len)) (G : ∀ s' ∈ ss, XGood n s') (hxs : XX L xs σ) (hE : xer σ E) (hH : xhr σ b Z ws h) (hl : xlr σ b (xads ws) lv l) (hs : xsr σ b (xads ws) vs st) (hf : xfr σ b (xads ws) (n + 1) cfs fs) : XR L Z b xs m cfs (n + 1) pc lv vs ws C S := by
  have hf' := xfr_le (Nat.le_succ n) hf
  show am_stp Z _ _ _ _ _ _ _ _ _ _ (XR L Z b xs m cfs n) pc lv vs ws C S ∨ _
  refine Or.inl ?_
  unfold am_stp
  unfold xd_lmul at hx
  revert hs hd
  split at hx
  · rename_i y x r
    intro hd hs
    unfold xst_33 at hx
    rw [hd]
    cases hx; replace hs := xsr_l hs; obtain ⟨y1, v1, rfl, hy, hs⟩ := hs; replace hs := xsr_l hs; obtain ⟨x1, v2, rfl, hx1, hs⟩ := hs; exact ⟨x1, y1, v2, rfl, (xg (G _ List.mem_cons_self) hxs hE hH hl ⟨⟨_, rfl, xLr_bin (f := fun x y => x * y) hx1 hy⟩, hs⟩ hf')⟩
  · cases hx
theorem xone_land (hx : xd_land m pc l C S fs h E  len st = some ss) (hm : m < xm_n) (hd : decode (xc m) pc = .ok (.land , len)) (G : ∀ s' ∈ ss, XGood n s') (hxs : XX L xs σ) (hE : xer σ E) (hH : xhr σ b Z ws h) (hl : xlr σ b (xads ws) lv l) (hs : xsr σ b (xads ws) vs st) (hf : xfr σ b (xads ws) (n + 1) cfs fs) : XR L Z b xs m cfs (n + 1) pc lv vs ws C S := by
  have hf' := xfr_le (Nat.le_succ n) hf
  show am_stp Z _ _ _ _ _ _ _ _ _ _ (XR L Z b xs m cfs n) pc lv vs ws C S ∨ _
  refine Or.inl ?_
  unfold am_stp
  unfold xd_land at hx
  revert hs hd
  split at hx
  · rename_i y x r
    intro hd hs
    unfold xst_34 at hx
    rw [hd]
    cases hx; replace hs := xsr_l hs; obtain ⟨y1, v1, rfl, hy, hs⟩ := hs; replace hs := xsr_l hs; obtain ⟨x1, v2, rfl, hx1, hs⟩ := hs; exact ⟨x1, y1, v2, rfl, (xg (G _ List.mem_cons_self) hxs hE hH hl ⟨⟨_, rfl, xLr_bin (f := fun x y => x &&& y) hx1 hy⟩, hs⟩ hf')⟩
  · cases hx
theorem xone_lor (hx : xd_lor m pc l C S fs h E  len st = some ss) (hm : m < xm_n) (hd : decode (xc m) pc = .ok (.lor , len)) (G : ∀ s' ∈ ss, XGood n s') (hxs : XX L xs σ) (hE : xer σ E) (hH : xhr σ b Z ws h) (hl : xlr σ b (xads ws) lv l) (hs : xsr σ b (xads ws) vs st) (hf : xfr σ b (xads ws) (n + 1) cfs fs) : XR L Z b xs m cfs (n + 1) pc lv vs ws C S := by
  have hf' := xfr_le (Nat.le_succ n) hf
  show am_stp Z _ _ _ _ _ _ _ _ _ _ (XR L Z b xs m cfs n) pc lv vs ws C S ∨ _
  refine Or.inl ?_
  unfold am_stp
  unfold xd_lor at hx
  revert hs hd
  split at hx
  · rename_i y x r
    intro hd hs
    unfold xst_35 at hx
    rw [hd]
    cases hx; replace hs := xsr_l hs; obtain ⟨y1, v1, rfl, hy, hs⟩ := hs; replace hs := xsr_l hs; obtain ⟨x1, v2, rfl, hx1, hs⟩ := hs; exact ⟨x1, y1, v2, rfl, (xg (G _ List.mem_cons_self) hxs hE hH hl ⟨⟨_, rfl, xLr_bin (f := fun x y => x ||| y) hx1 hy⟩, hs⟩ hf')⟩
  · cases hx
theorem xone_lxor (hx : xd_lxor m pc l C S fs h E  len st = some ss) (hm : m < xm_n) (hd : decode (xc m) pc = .ok (.lxor , len)) (G : ∀ s' ∈ ss, XGood n s') (hxs : XX L xs σ) (hE : xer σ E) (hH : xhr σ b Z ws h) (hl : xlr σ b (xads ws) lv l) (hs : xsr σ b (xads ws) vs st) (hf : xfr σ b (xads ws) (n + 1) cfs fs) : XR L Z b xs m cfs (n + 1) pc lv vs ws C S := by
  have hf' := xfr_le (Nat.le_succ n) hf
  show am_stp Z _ _ _ _ _ _ _ _ _ _ (XR L Z b xs m cfs n) pc lv vs ws C S ∨ _
  refine Or.inl ?_
  unfold am_stp
  unfold xd_lxor at hx
  revert hs hd
  split at hx
  · rename_i y x r
    intro hd hs
    unfold xst_36 at hx
    rw [hd]
    cases hx; replace hs := xsr_l hs; obtain ⟨y1, v1, rfl, hy, hs⟩ := hs; replace hs := xsr_l hs; obtain ⟨x1, v2, rfl, hx1, hs⟩ := hs; exact ⟨x1, y1, v2, rfl, (xg (G _ List.mem_cons_self) hxs hE hH hl ⟨⟨_, rfl, xLr_bin (f := fun x y => x ^^^ y) hx1 hy⟩, hs⟩ hf')⟩
  · cases hx
theorem xone_ldiv (hx : xd_ldiv m pc l C S fs h E  len st = some ss) (hm : m < xm_n) (hd : decode (xc m) pc = .ok (.ldiv , len)) (G : ∀ s' ∈ ss, XGood n s') (hxs : XX L xs σ) (hE : xer σ E) (hH : xhr σ b Z ws h) (hl : xlr σ b (xads ws) lv l) (hs : xsr σ b (xads ws) vs st) (hf : xfr σ b (xads ws) (n + 1) cfs fs) : XR L Z b xs m cfs (n + 1) pc lv vs ws C S := by
  have hf' := xfr_le (Nat.le_succ n) hf
  show am_stp Z _ _ _ _ _ _ _ _ _ _ (XR L Z b xs m cfs n) pc lv vs ws C S ∨ _
  refine Or.inl ?_
  unfold am_stp
  unfold xd_ldiv at hx
  revert hs hd
  split at hx
  · rename_i y x r
    intro hd hs
    unfold xst_37 at hx
    rw [hd]
    replace hx := xcondn hx; obtain ⟨hb, hx⟩ := hx; cases hx; replace hs := xsr_l hs; obtain ⟨y1, v1, rfl, hy, hs⟩ := hs; replace hs := xsr_l hs; obtain ⟨x1, v2, rfl, hx1, hs⟩ := hs; cases hy; exact ⟨x1, y, v2, rfl, of_decide_eq_false hb, (xg (G _ List.mem_cons_self) hxs hE hH hl ⟨⟨_, rfl, xLr_bin (f := fun x y => x / y) hx1 (rfl : xLr σ y (some (.inl y)))⟩, hs⟩ hf')⟩
  · cases hx
theorem xone_lrem (hx : xd_lrem m pc l C S fs h E  len st = some ss) (hm : m < xm_n) (hd : decode (xc m) pc = .ok (.lrem , len)) (G : ∀ s' ∈ ss, XGood n s') (hxs : XX L xs σ) (hE : xer σ E) (hH : xhr σ b Z ws h) (hl : xlr σ b (xads ws) lv l) (hs : xsr σ b (xads ws) vs st) (hf : xfr σ b (xads ws) (n + 1) cfs fs) : XR L Z b xs m cfs (n + 1) pc lv vs ws C S := by
  have hf' := xfr_le (Nat.le_succ n) hf
  show am_stp Z _ _ _ _ _ _ _ _ _ _ (XR L Z b xs m cfs n) pc lv vs ws C S ∨ _
  refine Or.inl ?_
  unfold am_stp
  unfold xd_lrem at hx
  revert hs hd
  split at hx
  · rename_i y x r
    intro hd hs
    unfold xst_38 at hx
    rw [hd]
    replace hx := xcondn hx; obtain ⟨hb, hx⟩ := hx; cases hx; replace hs := xsr_l hs; obtain ⟨y1, v1, rfl, hy, hs⟩ := hs; replace hs := xsr_l hs; obtain ⟨x1, v2, rfl, hx1, hs⟩ := hs; cases hy; exact ⟨x1, y, v2, rfl, of_decide_eq_false hb, (xg (G _ List.mem_cons_self) hxs hE hH hl ⟨⟨_, rfl, xLr_bin (f := fun x y => x - x / y * y) hx1 (rfl : xLr σ y (some (.inl y)))⟩, hs⟩ hf')⟩
  · cases hx
theorem xone_lshl (hx : xd_lshl m pc l C S fs h E  len st = some ss) (hm : m < xm_n) (hd : decode (xc m) pc = .ok (.lshl , len)) (G : ∀ s' ∈ ss, XGood n s') (hxs : XX L xs σ) (hE : xer σ E) (hH : xhr σ b Z ws h) (hl : xlr σ b (xads ws) lv l) (hs : xsr σ b (xads ws) vs st) (hf : xfr σ b (xads ws) (n + 1) cfs fs) : XR L Z b xs m cfs (n + 1) pc lv vs ws C S := by
  have hf' := xfr_le (Nat.le_succ n) hf
  show am_stp Z _ _ _ _ _ _ _ _ _ _ (XR L Z b xs m cfs n) pc lv vs ws C S ∨ _
  refine Or.inl ?_
  unfold am_stp
  unfold xd_lshl at hx
  revert hs hd
  split at hx
  · rename_i y x r
    intro hd hs
    unfold xst_39 at hx
    rw [hd]
    cases hx; replace hs := xsr_i hs; obtain ⟨y1, v1, rfl, hy, hs⟩ := hs; replace hs := xsr_l hs; obtain ⟨x1, v2, rfl, hx1, hs⟩ := hs; exact ⟨x1, y1, v2, rfl, (xg (G _ List.mem_cons_self) hxs hE hH hl ⟨⟨_, rfl, xLr_sh (f := fun x y => x <<< (y.toInt64 &&& 63)) hx1 hy⟩, hs⟩ hf')⟩
  · cases hx
theorem xone_lshr (hx : xd_lshr m pc l C S fs h E  len st = some ss) (hm : m < xm_n) (hd : decode (xc m) pc = .ok (.lshr , len)) (G : ∀ s' ∈ ss, XGood n s') (hxs : XX L xs σ) (hE : xer σ E) (hH : xhr σ b Z ws h) (hl : xlr σ b (xads ws) lv l) (hs : xsr σ b (xads ws) vs st) (hf : xfr σ b (xads ws) (n + 1) cfs fs) : XR L Z b xs m cfs (n + 1) pc lv vs ws C S := by
  have hf' := xfr_le (Nat.le_succ n) hf
  show am_stp Z _ _ _ _ _ _ _ _ _ _ (XR L Z b xs m cfs n) pc lv vs ws C S ∨ _
  refine Or.inl ?_
  unfold am_stp
  unfold xd_lshr at hx
  revert hs hd
  split at hx
  · rename_i y x r
    intro hd hs
    unfold xst_40 at hx
    rw [hd]
    cases hx; replace hs := xsr_i hs; obtain ⟨y1, v1, rfl, hy, hs⟩ := hs; replace hs := xsr_l hs; obtain ⟨x1, v2, rfl, hx1, hs⟩ := hs; exact ⟨x1, y1, v2, rfl, (xg (G _ List.mem_cons_self) hxs hE hH hl ⟨⟨_, rfl, xLr_sh (f := fun x y => x >>> (y.toInt64 &&& 63)) hx1 hy⟩, hs⟩ hf')⟩
  · cases hx
theorem xone_lushr (hx : xd_lushr m pc l C S fs h E  len st = some ss) (hm : m < xm_n) (hd : decode (xc m) pc = .ok (.lushr , len)) (G : ∀ s' ∈ ss, XGood n s') (hxs : XX L xs σ) (hE : xer σ E) (hH : xhr σ b Z ws h) (hl : xlr σ b (xads ws) lv l) (hs : xsr σ b (xads ws) vs st) (hf : xfr σ b (xads ws) (n + 1) cfs fs) : XR L Z b xs m cfs (n + 1) pc lv vs ws C S := by
  have hf' := xfr_le (Nat.le_succ n) hf
  show am_stp Z _ _ _ _ _ _ _ _ _ _ (XR L Z b xs m cfs n) pc lv vs ws C S ∨ _
  refine Or.inl ?_
  unfold am_stp
  unfold xd_lushr at hx
  revert hs hd
  split at hx
  · rename_i y x r
    intro hd hs
    unfold xst_41 at hx
    rw [hd]
    cases hx; replace hs := xsr_i hs; obtain ⟨y1, v1, rfl, hy, hs⟩ := hs; replace hs := xsr_l hs; obtain ⟨x1, v2, rfl, hx1, hs⟩ := hs; exact ⟨x1, y1, v2, rfl, (xg (G _ List.mem_cons_self) hxs hE hH hl ⟨⟨_, rfl, xLr_sh (f := fun x y => (x.toUInt64 >>> (y.toInt64.toUInt64 &&& Int64.toUInt64 63)).toInt64) hx1 hy⟩, hs⟩ hf')⟩
  · cases hx
theorem xone_lcmp (hx : xd_lcmp m pc l C S fs h E  len st = some ss) (hm : m < xm_n) (hd : decode (xc m) pc = .ok (.lcmp , len)) (G : ∀ s' ∈ ss, XGood n s') (hxs : XX L xs σ) (hE : xer σ E) (hH : xhr σ b Z ws h) (hl : xlr σ b (xads ws) lv l) (hs : xsr σ b (xads ws) vs st) (hf : xfr σ b (xads ws) (n + 1) cfs fs) : XR L Z b xs m cfs (n + 1) pc lv vs ws C S := by
  have hf' := xfr_le (Nat.le_succ n) hf
  show am_stp Z _ _ _ _ _ _ _ _ _ _ (XR L Z b xs m cfs n) pc lv vs ws C S ∨ _
  refine Or.inl ?_
  unfold am_stp
  unfold xd_lcmp at hx
  revert hs hd
  split at hx
  · rename_i y x r
    intro hd hs
    unfold xst_42 at hx
    rw [hd]
    cases hx; replace hs := xsr_l hs; obtain ⟨y1, v1, rfl, hy, hs⟩ := hs; replace hs := xsr_l hs; obtain ⟨x1, v2, rfl, hx1, hs⟩ := hs; obtain ⟨q, hq, h1, h2⟩ := xcmpB_ok hE hx1 hy; exact ⟨x1, y1, v2, rfl, (xg (G ((m, pc + 1, l, .inl q.1 :: r, C, S, 0) :: fs, h, q.2) (List.mem_map.mpr ⟨q, hq, rfl⟩)) hxs h2 hH hl ⟨⟨_, rfl, h1⟩, hs⟩ hf')⟩
  · cases hx
theorem xone_ineg (hx : xd_ineg m pc l C S fs h E  len st = some ss) (hm : m < xm_n) (hd : decode (xc m) pc = .ok (.ineg , len)) (G : ∀ s' ∈ ss, XGood n s') (hxs : XX L xs σ) (hE : xer σ E) (hH : xhr σ b Z ws h) (hl : xlr σ b (xads ws) lv l) (hs : xsr σ b (xads ws) vs st) (hf : xfr σ b (xads ws) (n + 1) cfs fs) : XR L Z b xs m cfs (n + 1) pc lv vs ws C S := by
  have hf' := xfr_le (Nat.le_succ n) hf
  show am_stp Z _ _ _ _ _ _ _ _ _ _ (XR L Z b xs m cfs n) pc lv vs ws C S ∨ _
  refine Or.inl ?_
  unfold am_stp
  unfold xd_ineg at hx
  revert hs hd
  split at hx
  · rename_i x r
    intro hd hs
    unfold xst_43 at hx
    rw [hd]
    cases hx; replace hs := xsr_i hs; obtain ⟨x1, v1, rfl, hx1, hs⟩ := hs; exact ⟨x1, v1, rfl, (xg (G _ List.mem_cons_self) hxs hE hH hl ⟨⟨_, rfl, xir_un (f := fun x => -x) hx1⟩, hs⟩ hf')⟩
  · cases hx
theorem xone_lneg (hx : xd_lneg m pc l C S fs h E  len st = some ss) (hm : m < xm_n) (hd : decode (xc m) pc = .ok (.lneg , len)) (G : ∀ s' ∈ ss, XGood n s') (hxs : XX L xs σ) (hE : xer σ E) (hH : xhr σ b Z ws h) (hl : xlr σ b (xads ws) lv l) (hs : xsr σ b (xads ws) vs st) (hf : xfr σ b (xads ws) (n + 1) cfs fs) : XR L Z b xs m cfs (n + 1) pc lv vs ws C S := by
  have hf' := xfr_le (Nat.le_succ n) hf
  show am_stp Z _ _ _ _ _ _ _ _ _ _ (XR L Z b xs m cfs n) pc lv vs ws C S ∨ _
  refine Or.inl ?_
  unfold am_stp
  unfold xd_lneg at hx
  revert hs hd
  split at hx
  · rename_i x r
    intro hd hs
    unfold xst_44 at hx
    rw [hd]
    cases hx; replace hs := xsr_l hs; obtain ⟨x1, v1, rfl, hx1, hs⟩ := hs; exact ⟨x1, v1, rfl, (xg (G _ List.mem_cons_self) hxs hE hH hl ⟨⟨_, rfl, xLr_un (f := fun x => -x) hx1⟩, hs⟩ hf')⟩
  · cases hx
theorem xone_i2l (hx : xd_i2l m pc l C S fs h E  len st = some ss) (hm : m < xm_n) (hd : decode (xc m) pc = .ok (.i2l , len)) (G : ∀ s' ∈ ss, XGood n s') (hxs : XX L xs σ) (hE : xer σ E) (hH : xhr σ b Z ws h) (hl : xlr σ b (xads ws) lv l) (hs : xsr σ b (xads ws) vs st) (hf : xfr σ b (xads ws) (n + 1) cfs fs) : XR L Z b xs m cfs (n + 1) pc lv vs ws C S := by
  have hf' := xfr_le (Nat.le_succ n) hf
  show am_stp Z _ _ _ _ _ _ _ _ _ _ (XR L Z b xs m cfs n) pc lv vs ws C S ∨ _
  refine Or.inl ?_
  unfold am_stp
  unfold xd_i2l at hx
  revert hs hd
  split at hx
  · rename_i x r
    intro hd hs
    unfold xst_45 at hx
    rw [hd]
    cases hx; replace hs := xsr_i hs; obtain ⟨x1, v1, rfl, hx1, hs⟩ := hs; exact ⟨x1, v1, rfl, (xg (G _ List.mem_cons_self) hxs hE hH hl ⟨⟨_, rfl, xLr_i2l hx1⟩, hs⟩ hf')⟩
  · cases hx
theorem xone_l2i (hx : xd_l2i m pc l C S fs h E  len st = some ss) (hm : m < xm_n) (hd : decode (xc m) pc = .ok (.l2i , len)) (G : ∀ s' ∈ ss, XGood n s') (hxs : XX L xs σ) (hE : xer σ E) (hH : xhr σ b Z ws h) (hl : xlr σ b (xads ws) lv l) (hs : xsr σ b (xads ws) vs st) (hf : xfr σ b (xads ws) (n + 1) cfs fs) : XR L Z b xs m cfs (n + 1) pc lv vs ws C S := by
  have hf' := xfr_le (Nat.le_succ n) hf
  show am_stp Z _ _ _ _ _ _ _ _ _ _ (XR L Z b xs m cfs n) pc lv vs ws C S ∨ _
  refine Or.inl ?_
  unfold am_stp
  unfold xd_l2i at hx
  revert hs hd
  split at hx
  · rename_i x r
    intro hd hs
    unfold xst_46 at hx
    rw [hd]
    cases hx; replace hs := xsr_l hs; obtain ⟨x1, v1, rfl, hx1, hs⟩ := hs; exact ⟨x1, v1, rfl, (xg (G _ List.mem_cons_self) hxs hE hH hl ⟨⟨_, rfl, xir_l2i hx1⟩, hs⟩ hf')⟩
  · cases hx
theorem xone_i2c (hx : xd_i2c m pc l C S fs h E  len st = some ss) (hm : m < xm_n) (hd : decode (xc m) pc = .ok (.i2c , len)) (G : ∀ s' ∈ ss, XGood n s') (hxs : XX L xs σ) (hE : xer σ E) (hH : xhr σ b Z ws h) (hl : xlr σ b (xads ws) lv l) (hs : xsr σ b (xads ws) vs st) (hf : xfr σ b (xads ws) (n + 1) cfs fs) : XR L Z b xs m cfs (n + 1) pc lv vs ws C S := by
  have hf' := xfr_le (Nat.le_succ n) hf
  show am_stp Z _ _ _ _ _ _ _ _ _ _ (XR L Z b xs m cfs n) pc lv vs ws C S ∨ _
  refine Or.inl ?_
  unfold am_stp
  unfold xd_i2c at hx
  revert hs hd
  split at hx
  · rename_i x r
    intro hd hs
    unfold xst_47 at hx
    rw [hd]
    cases hx; replace hs := xsr_i hs; obtain ⟨x1, v1, rfl, hx1, hs⟩ := hs; exact ⟨x1, v1, rfl, (xg (G _ List.mem_cons_self) hxs hE hH hl ⟨⟨_, rfl, xir_i2c hx1⟩, hs⟩ hf')⟩
  · cases hx
theorem xone_dup (hx : xd_dup m pc l C S fs h E  len st = some ss) (hm : m < xm_n) (hd : decode (xc m) pc = .ok (.dup , len)) (G : ∀ s' ∈ ss, XGood n s') (hxs : XX L xs σ) (hE : xer σ E) (hH : xhr σ b Z ws h) (hl : xlr σ b (xads ws) lv l) (hs : xsr σ b (xads ws) vs st) (hf : xfr σ b (xads ws) (n + 1) cfs fs) : XR L Z b xs m cfs (n + 1) pc lv vs ws C S := by
  have hf' := xfr_le (Nat.le_succ n) hf
  show am_stp Z _ _ _ _ _ _ _ _ _ _ (XR L Z b xs m cfs n) pc lv vs ws C S ∨ _
  refine Or.inl ?_
  unfold am_stp
  unfold xd_dup at hx
  revert hs hd
  split at hx
  · rename_i v r
    intro hd hs
    unfold xst_48 at hx
    rw [hd]
    replace hx := xcondn hx; obtain ⟨hb, hx⟩ := hx; cases hx; replace hs := xsr_c hs; obtain ⟨v1, v2, rfl, hv, hs⟩ := hs; exact ⟨v1, v2, rfl, xvr_c1 hv hb, (xg (G _ List.mem_cons_self) hxs hE hH hl ⟨hv, hv, hs⟩ hf')⟩
  · cases hx
theorem xone_pop (hx : xd_pop m pc l C S fs h E  len st = some ss) (hm : m < xm_n) (hd : decode (xc m) pc = .ok (.pop , len)) (G : ∀ s' ∈ ss, XGood n s') (hxs : XX L xs σ) (hE : xer σ E) (hH : xhr σ b Z ws h) (hl : xlr σ b (xads ws) lv l) (hs : xsr σ b (xads ws) vs st) (hf : xfr σ b (xads ws) (n + 1) cfs fs) : XR L Z b xs m cfs (n + 1) pc lv vs ws C S := by
  have hf' := xfr_le (Nat.le_succ n) hf
  show am_stp Z _ _ _ _ _ _ _ _ _ _ (XR L Z b xs m cfs n) pc lv vs ws C S ∨ _
  refine Or.inl ?_
  unfold am_stp
  unfold xd_pop at hx
  revert hs hd
  split at hx
  · rename_i v r
    intro hd hs
    unfold xst_49 at hx
    rw [hd]
    replace hx := xcondn hx; obtain ⟨hb, hx⟩ := hx; cases hx; replace hs := xsr_c hs; obtain ⟨v1, v2, rfl, hv, hs⟩ := hs; exact ⟨v1, v2, rfl, xvr_c1 hv hb, (xg (G _ List.mem_cons_self) hxs hE hH hl hs hf')⟩
  · cases hx
theorem xone_pop2 (hx : xd_pop2 m pc l C S fs h E  len st = some ss) (hm : m < xm_n) (hd : decode (xc m) pc = .ok (.pop2 , len)) (G : ∀ s' ∈ ss, XGood n s') (hxs : XX L xs σ) (hE : xer σ E) (hH : xhr σ b Z ws h) (hl : xlr σ b (xads ws) lv l) (hs : xsr σ b (xads ws) vs st) (hf : xfr σ b (xads ws) (n + 1) cfs fs) : XR L Z b xs m cfs (n + 1) pc lv vs ws C S := by
  have hf' := xfr_le (Nat.le_succ n) hf
  show am_stp Z _ _ _ _ _ _ _ _ _ _ (XR L Z b xs m cfs n) pc lv vs ws C S ∨ _
  refine Or.inl ?_
  unfold am_stp
  unfold xd_pop2 at hx
  revert hs hd
  split at hx
  · rename_i v r
    intro hd hs
    unfold xst_50 at hx
    rw [hd]
    replace hx := xcond hx; obtain ⟨hb, hx⟩ := hx; cases hx; replace hs := xsr_c hs; obtain ⟨v1, v2, rfl, hv, hs⟩ := hs; exact ⟨v1, v2, rfl, xvr_c2 hv hb, (xg (G _ List.mem_cons_self) hxs hE hH hl hs hf')⟩
  · cases hx
theorem xone_dup2 (hx : xd_dup2 m pc l C S fs h E  len st = some ss) (hm : m < xm_n) (hd : decode (xc m) pc = .ok (.dup2 , len)) (G : ∀ s' ∈ ss, XGood n s') (hxs : XX L xs σ) (hE : xer σ E) (hH : xhr σ b Z ws h) (hl : xlr σ b (xads ws) lv l) (hs : xsr σ b (xads ws) vs st) (hf : xfr σ b (xads ws) (n + 1) cfs fs) : XR L Z b xs m cfs (n + 1) pc lv vs ws C S := by
  have hf' := xfr_le (Nat.le_succ n) hf
  show am_stp Z _ _ _ _ _ _ _ _ _ _ (XR L Z b xs m cfs n) pc lv vs ws C S ∨ _
  refine Or.inl ?_
  unfold am_stp
  unfold xd_dup2 at hx
  revert hs hd
  split at hx
  · rename_i v w r
    intro hd hs
    unfold xst_51 at hx
    rw [hd]
    replace hx := xcondn hx; obtain ⟨hb, hx⟩ := hx; cases hx; replace hs := xsr_c hs; obtain ⟨v1, v2, rfl, hv, hs⟩ := hs; replace hs := xsr_c hs; obtain ⟨w1, w2, rfl, hw, hs⟩ := hs; rw [Bool.or_eq_false_iff] at hb; exact ⟨v1, w1, w2, rfl, xvr_c1 hv hb.1, xvr_c1 hw hb.2, (xg (G _ List.mem_cons_self) hxs hE hH hl ⟨hv, hw, hv, hw, hs⟩ hf')⟩
  · cases hx
theorem xone_ifCond {a0 : Jvm.ClassFile.Cond} {a1 : Int} (hx : xd_ifCond m pc l C S fs h E a0 a1 len st = some ss) (hm : m < xm_n) (hd : decode (xc m) pc = .ok (.ifCond a0 a1, len)) (G : ∀ s' ∈ ss, XGood n s') (hxs : XX L xs σ) (hE : xer σ E) (hH : xhr σ b Z ws h) (hl : xlr σ b (xads ws) lv l) (hs : xsr σ b (xads ws) vs st) (hf : xfr σ b (xads ws) (n + 1) cfs fs) : XR L Z b xs m cfs (n + 1) pc lv vs ws C S := by
  have hf' := xfr_le (Nat.le_succ n) hf
  show am_stp Z _ _ _ _ _ _ _ _ _ _ (XR L Z b xs m cfs n) pc lv vs ws C S ∨ _
  refine Or.inl ?_
  unfold am_stp
  unfold xd_ifCond at hx
  revert hs hd
  split at hx
  · rename_i x r
    intro hd hs
    unfold xst_52 at hx
    rw [hd]
    replace hs := xsr_i hs; obtain ⟨x1, v1, rfl, hx1, hs⟩ := hs; exact xjmp1 (o := 0) hx G hxs hE hx1 rfl hH hl hs hf' (fun h0 h1 h2 => ⟨x1, v1, rfl, h0, h1, h2⟩)
  · rename_i x r
    intro hd hs
    unfold xst_53 at hx
    rw [hd]
    replace hs := xsr_i hs; obtain ⟨x1, v1, rfl, hx1, hs⟩ := hs; exact xjmp1 (o := 1) hx G hxs hE hx1 rfl hH hl hs hf' (fun h0 h1 h2 => ⟨x1, v1, rfl, h0, h1, fun z => h2 (not_not_intro z)⟩)
  · rename_i x r
    intro hd hs
    unfold xst_54 at hx
    rw [hd]
    replace hs := xsr_i hs; obtain ⟨x1, v1, rfl, hx1, hs⟩ := hs; exact xjmp1 (o := 2) hx G hxs hE hx1 rfl hH hl hs hf' (fun h0 h1 h2 => ⟨x1, v1, rfl, h0, h1, h2⟩)
  · rename_i x r
    intro hd hs
    unfold xst_55 at hx
    rw [hd]
    replace hs := xsr_i hs; obtain ⟨x1, v1, rfl, hx1, hs⟩ := hs; exact xjmp1 (o := 3) hx G hxs hE hx1 rfl hH hl hs hf' (fun h0 h1 h2 => ⟨x1, v1, rfl, h0, h1, h2⟩)
  · rename_i x r
    intro hd hs
    unfold xst_56 at hx
    rw [hd]
    replace hs := xsr_i hs; obtain ⟨x1, v1, rfl, hx1, hs⟩ := hs; exact xjmp1 (o := 4) hx G hxs hE hx1 rfl hH hl hs hf' (fun h0 h1 h2 => ⟨x1, v1, rfl, h0, h1, h2⟩)
  · rename_i x r
    intro hd hs
    unfold xst_57 at hx
    rw [hd]
    replace hs := xsr_i hs; obtain ⟨x1, v1, rfl, hx1, hs⟩ := hs; exact xjmp1 (o := 5) hx G hxs hE hx1 rfl hH hl hs hf' (fun h0 h1 h2 => ⟨x1, v1, rfl, h0, h1, h2⟩)
  · cases hx
theorem xone_if_icmp {a0 : Jvm.ClassFile.Cond} {a1 : Int} (hx : xd_if_icmp m pc l C S fs h E a0 a1 len st = some ss) (hm : m < xm_n) (hd : decode (xc m) pc = .ok (.if_icmp a0 a1, len)) (G : ∀ s' ∈ ss, XGood n s') (hxs : XX L xs σ) (hE : xer σ E) (hH : xhr σ b Z ws h) (hl : xlr σ b (xads ws) lv l) (hs : xsr σ b (xads ws) vs st) (hf : xfr σ b (xads ws) (n + 1) cfs fs) : XR L Z b xs m cfs (n + 1) pc lv vs ws C S := by
  have hf' := xfr_le (Nat.le_succ n) hf
  show am_stp Z _ _ _ _ _ _ _ _ _ _ (XR L Z b xs m cfs n) pc lv vs ws C S ∨ _
  refine Or.inl ?_
  unfold am_stp
  unfold xd_if_icmp at hx
  revert hs hd
  split at hx
  · rename_i y x r
    intro hd hs
    unfold xst_58 at hx
    rw [hd]
    replace hs := xsr_i hs; obtain ⟨y1, v1, rfl, hy, hs⟩ := hs; replace hs := xsr_i hs; obtain ⟨x1, v2, rfl, hx1, hs⟩ := hs; exact xjmp1 (o := 0) hx G hxs hE hx1 hy hH hl hs hf' (fun h0 h1 h2 => ⟨x1, y1, v2, rfl, h0, h1, h2⟩)
  · rename_i y x r
    intro hd hs
    unfold xst_59 at hx
    rw [hd]
    replace hs := xsr_i hs; obtain ⟨y1, v1, rfl, hy, hs⟩ := hs; replace hs := xsr_i hs; obtain ⟨x1, v2, rfl, hx1, hs⟩ := hs; exact xjmp1 (o := 1) hx G hxs hE hx1 hy hH hl hs hf' (fun h0 h1 h2 => ⟨x1, y1, v2, rfl, h0, h1, fun z => h2 (not_not_intro z)⟩)
  · rename_i y x r
    intro hd hs
    unfold xst_60 at hx
    rw [hd]
    replace hs := xsr_i hs; obtain ⟨y1, v1, rfl, hy, hs⟩ := hs; replace hs := xsr_i hs; obtain ⟨x1, v2, rfl, hx1, hs⟩ := hs; exact xjmp1 (o := 2) hx G hxs hE hx1 hy hH hl hs hf' (fun h0 h1 h2 => ⟨x1, y1, v2, rfl, h0, h1, h2⟩)
  · rename_i y x r
    intro hd hs
    unfold xst_61 at hx
    rw [hd]
    replace hs := xsr_i hs; obtain ⟨y1, v1, rfl, hy, hs⟩ := hs; replace hs := xsr_i hs; obtain ⟨x1, v2, rfl, hx1, hs⟩ := hs; exact xjmp1 (o := 3) hx G hxs hE hx1 hy hH hl hs hf' (fun h0 h1 h2 => ⟨x1, y1, v2, rfl, h0, h1, h2⟩)
  · rename_i y x r
    intro hd hs
    unfold xst_62 at hx
    rw [hd]
    replace hs := xsr_i hs; obtain ⟨y1, v1, rfl, hy, hs⟩ := hs; replace hs := xsr_i hs; obtain ⟨x1, v2, rfl, hx1, hs⟩ := hs; exact xjmp1 (o := 4) hx G hxs hE hx1 hy hH hl hs hf' (fun h0 h1 h2 => ⟨x1, y1, v2, rfl, h0, h1, h2⟩)
  · rename_i y x r
    intro hd hs
    unfold xst_63 at hx
    rw [hd]
    replace hs := xsr_i hs; obtain ⟨y1, v1, rfl, hy, hs⟩ := hs; replace hs := xsr_i hs; obtain ⟨x1, v2, rfl, hx1, hs⟩ := hs; exact xjmp1 (o := 5) hx G hxs hE hx1 hy hH hl hs hf' (fun h0 h1 h2 => ⟨x1, y1, v2, rfl, h0, h1, h2⟩)
  · cases hx
theorem xone_goto {a0 : Int} (hx : xd_goto m pc l C S fs h E a0 len st = some ss) (hm : m < xm_n) (hd : decode (xc m) pc = .ok (.goto a0, len)) (G : ∀ s' ∈ ss, XGood n s') (hxs : XX L xs σ) (hE : xer σ E) (hH : xhr σ b Z ws h) (hl : xlr σ b (xads ws) lv l) (hs : xsr σ b (xads ws) vs st) (hf : xfr σ b (xads ws) (n + 1) cfs fs) : XR L Z b xs m cfs (n + 1) pc lv vs ws C S := by
  have hf' := xfr_le (Nat.le_succ n) hf
  show am_stp Z _ _ _ _ _ _ _ _ _ _ (XR L Z b xs m cfs n) pc lv vs ws C S ∨ _
  refine Or.inl ?_
  unfold am_stp
  unfold xd_goto at hx
  revert hs hd
  split at hx
  · rename_i st
    intro hd hs
    unfold xst_64 at hx
    rw [hd]
    split at hx
    · rename_i t ht
      cases hx
      obtain ⟨h0, rfl⟩ := xtgt_ok ht
      exact ⟨h0, (xg (G _ List.mem_cons_self) hxs hE hH hl hs hf')⟩
    · cases hx
  · cases hx
theorem xone_tableswitch {a0 : Int} {a1 : Int} {a2 : Int} {a3 : Array Int} (hx : xd_tableswitch m pc l C S fs h E a0 a1 a2 a3 len st = some ss) (hm : m < xm_n) (hd : decode (xc m) pc = .ok (.tableswitch a0 a1 a2 a3, len)) (G : ∀ s' ∈ ss, XGood n s') (hxs : XX L xs σ) (hE : xer σ E) (hH : xhr σ b Z ws h) (hl : xlr σ b (xads ws) lv l) (hs : xsr σ b (xads ws) vs st) (hf : xfr σ b (xads ws) (n + 1) cfs fs) : XR L Z b xs m cfs (n + 1) pc lv vs ws C S := by
  have hf' := xfr_le (Nat.le_succ n) hf
  show am_stp Z _ _ _ _ _ _ _ _ _ _ (XR L Z b xs m cfs n) pc lv vs ws C S ∨ _
  refine Or.inl ?_
  unfold am_stp
  unfold xd_tableswitch at hx
  revert hs hd
  split at hx
  · rename_i w9 x r
    intro hd hs
    unfold xst_65 at hx
    rw [hd]
    replace hs := xsr_i hs; obtain ⟨x1, v1, rfl, hx1, hs⟩ := hs; exact xswitch_ok hx G hxs hE hx1 hH hl hs hf'
  · cases hx
theorem xone_lookupswitch {a0 : Int} {a1 : Array (Int × Int)} (hx : xd_lookupswitch m pc l C S fs h E a0 a1 len st = some ss) (hm : m < xm_n) (hd : decode (xc m) pc = .ok (.lookupswitch a0 a1, len)) (G : ∀ s' ∈ ss, XGood n s') (hxs : XX L xs σ) (hE : xer σ E) (hH : xhr σ b Z ws h) (hl : xlr σ b (xads ws) lv l) (hs : xsr σ b (xads ws) vs st) (hf : xfr σ b (xads ws) (n + 1) cfs fs) : XR L Z b xs m cfs (n + 1) pc lv vs ws C S := by
  have hf' := xfr_le (Nat.le_succ n) hf
  show am_stp Z _ _ _ _ _ _ _ _ _ _ (XR L Z b xs m cfs n) pc lv vs ws C S ∨ _
  refine Or.inl ?_
  unfold am_stp
  unfold xd_lookupswitch at hx
  revert hs hd
  split at hx
  · rename_i w9 c r
    intro hd hs
    unfold xst_66 at hx
    rw [hd]
    replace hx := xcond hx; obtain ⟨hb, hx⟩ := hx
    split at hx
    · rename_i t ht
      cases hx
      replace hs := xsr_i hs; obtain ⟨x1, v1, rfl, hx1, hs⟩ := hs
      cases hx1
      obtain ⟨h0, rfl⟩ := xtgt_ok ht
      exact ⟨c, v1, rfl, hb, h0, (xg (G _ List.mem_cons_self) hxs hE hH hl hs hf')⟩
    · cases hx
  · cases hx
theorem xone_getfield {a0 : Nat} (hx : xd_getfield m pc l C S fs h E a0 len st = some ss) (hm : m < xm_n) (hd : decode (xc m) pc = .ok (.getfield a0, len)) (G : ∀ s' ∈ ss, XGood n s') (hxs : XX L xs σ) (hE : xer σ E) (hH : xhr σ b Z ws h) (hl : xlr σ b (xads ws) lv l) (hs : xsr σ b (xads ws) vs st) (hf : xfr σ b (xads ws) (n + 1) cfs fs) : XR L Z b xs m cfs (n + 1) pc lv vs ws C S := by
  have hf' := xfr_le (Nat.le_succ n) hf
  show am_stp Z _ _ _ _ _ _ _ _ _ _ (XR L Z b xs m cfs n) pc lv vs ws C S ∨ _
  refine Or.inl ?_
  unfold am_stp
  unfold xd_getfield at hx
  revert hs hd
  split at hx
  · rename_i a r
    intro hd hs
    unfold xst_67 at hx
    rw [hd]
    split at hx
    · rename_i ci fv hha
      replace hha := xoc_w hha
      split at hx
      · rename_i cj k p9 hf9
        replace hx := xcond hx; obtain ⟨hb, hx⟩ := hx
        have hb := Nat.eq_of_beq_eq_true hb
        subst hb
        split at hx
        · rename_i v hv
          cases hx
          replace hs := xsr_c hs; obtain ⟨v1, v2, rfl, hv1, hs⟩ := hs
          obtain ⟨a1, rfl, ha⟩ := hv1
          obtain ⟨fs1, he, hfs⟩ := xhr_o hH ha hha
          obtain ⟨Cn, T, N, hcl, hk, hw⟩ := xf_w hm hf9
          obtain ⟨w, hw1, hw2⟩ := xor_get hfs hcl hk hv
          exact Or.inl ⟨a1, v2, a, ci, fs1, Cn, T, N, k, w, rfl, he, hcl, hk, hw, hw1, (xg (G _ List.mem_cons_self) hxs hE hH hl ⟨hw2, hs⟩ hf')⟩
        · cases hx
      · cases hx
    · cases hx
  · cases hx
theorem xone_putfield {a0 : Nat} (hx : xd_putfield m pc l C S fs h E a0 len st = some ss) (hm : m < xm_n) (hd : decode (xc m) pc = .ok (.putfield a0, len)) (G : ∀ s' ∈ ss, XGood n s') (hxs : XX L xs σ) (hE : xer σ E) (hH : xhr σ b Z ws h) (hl : xlr σ b (xads ws) lv l) (hs : xsr σ b (xads ws) vs st) (hf : xfr σ b (xads ws) (n + 1) cfs fs) : XR L Z b xs m cfs (n + 1) pc lv vs ws C S := by
  have hf' := xfr_le (Nat.le_succ n) hf
  show am_stp Z _ _ _ _ _ _ _ _ _ _ (XR L Z b xs m cfs n) pc lv vs ws C S ∨ _
  refine Or.inl ?_
  unfold am_stp
  unfold xd_putfield at hx
  revert hs hd
  split at hx
  · rename_i v a r
    intro hd hs
    unfold xst_68 at hx
    rw [hd]
    split at hx
    · rename_i ci fv hha
      replace hha := xoc_w hha
      split at hx
      · rename_i cj k p9 hf9
        replace hx := xcond hx; obtain ⟨hb, hx⟩ := hx
        have hb1 := Nat.eq_of_beq_eq_true hb
        subst hb1
        split at hx
        · rename_i ty fin hty
          replace hx := xcond hx; obtain ⟨hb2, hx⟩ := hx
          rw [Bool.and_eq_true] at hb2
          cases hx
          replace hs := xsr_c hs; obtain ⟨v1, v2, rfl, hv1, hs⟩ := hs
          replace hs := xsr_c hs; obtain ⟨w1, w2, rfl, hw1, hs⟩ := hs
          obtain ⟨a1, rfl, ha⟩ := hw1
          obtain ⟨fs1, he, hfs⟩ := xhr_o hH ha hha
          obtain ⟨Cn, T, N, hcl, hk, hw⟩ := xf_w hm hf9
          have hlen := xor_len hfs hcl
          obtain ⟨hn1, hn2, hn3⟩ := xt_w hcl (xtL_xt hcl hk hty) hv1 hb2.1
          exact ⟨a1, w2, a, ci, fs1, Cn, T, N, k, v1, rfl, he, hcl, hk, hw, by rw [hlen]; exact hk, hn1, hn2, fun z => xfin_ok hn3 z hb2.2 hcl hk, (xg (G _ List.mem_cons_self) hxs hE (xhr_seto hH he hfs hcl hk hv1) (by rw [xads_eq he]; exact hl) (by rw [xads_eq he]; exact hs) (by rw [xads_eq he]; exact hf'))⟩
        · cases hx
      · cases hx
    · cases hx
  · cases hx
theorem xone_iaload (hx : xd_iaload m pc l C S fs h E  len st = some ss) (hm : m < xm_n) (hd : decode (xc m) pc = .ok (.iaload , len)) (G : ∀ s' ∈ ss, XGood n s') (hxs : XX L xs σ) (hE : xer σ E) (hH : xhr σ b Z ws h) (hl : xlr σ b (xads ws) lv l) (hs : xsr σ b (xads ws) vs st) (hf : xfr σ b (xads ws) (n + 1) cfs fs) : XR L Z b xs m cfs (n + 1) pc lv vs ws C S := by
  have hf' := xfr_le (Nat.le_succ n) hf
  show am_stp Z _ _ _ _ _ _ _ _ _ _ (XR L Z b xs m cfs n) pc lv vs ws C S ∨ _
  refine Or.inl ?_
  unfold am_stp
  unfold xd_iaload at hx
  revert hs hd
  split at hx
  · rename_i c r
    intro hd hs
    unfold xst_69 at hx
    rw [hd]
    split at hx
    · rename_i lo hi9 h7
      replace hx := xcond hx; obtain ⟨hb, hx⟩ := hx
      cases hx
      simp only [Bool.and_eq_true] at hb
      replace hs := xsr_i hs; obtain ⟨x1, v1, rfl, hx1, hs⟩ := hs
      cases hx1
      replace hs := xsr_c hs; obtain ⟨w1, w2, rfl, hw1, hs⟩ := hs
      cases hw1
      have hc := of_decide_eq_true hb.1.1
      have h8 := (hE.1 7 _ h7).1
      rw [xlen7 hxs] at h8
      have hin : vp_in c L := vp_in_iff.mpr ⟨hc.1, Int.lt_of_lt_of_le hc.2 h8⟩
      have hlt : c.toNatClampNeg < L := Nat.not_le.mp fun q => hin (Or.inr q)
      exact Or.inl ⟨b, L, xs, c, w2, if_pos (Nat.eq_of_beq_eq_true hb.1.2), rfl, hin, (xg (G _ List.mem_cons_self) hxs hE hH hl ⟨⟨_, rfl, hxs.1 _ (Nat.le_of_ble_eq_true hb.2)⟩, hs⟩ hf')⟩
    · cases hx
  · rename_i x a r
    intro hd hs
    unfold xst_70 at hx
    rw [hd]
    split at hx
    · rename_i tg9 n9 d ms hha
      replace hx := xcond hx; obtain ⟨hb9, hx⟩ := hx
      have hb9 := Nat.eq_of_beq_eq_true hb9
      subst hb9
      replace hha := xac_w hha
      split at hx
      · rename_i v hv
        cases hx
        replace hs := xsr_i hs; obtain ⟨x1, v1, rfl, hx1, hs⟩ := hs
        replace hs := xsr_c hs; obtain ⟨w1, w2, rfl, hw1, hs⟩ := hs
        obtain ⟨a1, rfl, ha⟩ := hw1
        obtain ⟨f, he, hcap, hfv⟩ := xhr_0 hH ha hha
        obtain ⟨hin, hrd⟩ := xread_ok hE hx1 hv
        exact Or.inr ⟨a1, x1, w2, a, n9, f, rfl, he, hin, (xg (G _ List.mem_cons_self) hxs hE hH hl ⟨hrd _ (hfv _ (xin_lt hin)), hs⟩ hf')⟩
      · cases hx
    · cases hx
  · cases hx
theorem xone_laload (hx : xd_laload m pc l C S fs h E  len st = some ss) (hm : m < xm_n) (hd : decode (xc m) pc = .ok (.laload , len)) (G : ∀ s' ∈ ss, XGood n s') (hxs : XX L xs σ) (hE : xer σ E) (hH : xhr σ b Z ws h) (hl : xlr σ b (xads ws) lv l) (hs : xsr σ b (xads ws) vs st) (hf : xfr σ b (xads ws) (n + 1) cfs fs) : XR L Z b xs m cfs (n + 1) pc lv vs ws C S := by
  have hf' := xfr_le (Nat.le_succ n) hf
  show am_stp Z _ _ _ _ _ _ _ _ _ _ (XR L Z b xs m cfs n) pc lv vs ws C S ∨ _
  refine Or.inl ?_
  unfold am_stp
  unfold xd_laload at hx
  revert hs hd
  split at hx
  · rename_i x a r
    intro hd hs
    unfold xst_71 at hx
    rw [hd]
    split at hx
    · rename_i tg9 n9 d ms hha
      replace hx := xcond hx; obtain ⟨hb9, hx⟩ := hx
      have hb9 := Nat.eq_of_beq_eq_true hb9
      subst hb9
      replace hha := xac_w hha
      split at hx
      · rename_i v hv
        cases hx
        replace hs := xsr_i hs; obtain ⟨x1, v1, rfl, hx1, hs⟩ := hs
        replace hs := xsr_c hs; obtain ⟨w1, w2, rfl, hw1, hs⟩ := hs
        obtain ⟨a1, rfl, ha⟩ := hw1
        obtain ⟨f, he, hcap, hfv⟩ := xhr_1 hH ha hha
        obtain ⟨hin, hrd⟩ := xread_ok hE hx1 hv
        exact ⟨a1, x1, w2, a, n9, f, rfl, he, hin, (xg (G _ List.mem_cons_self) hxs hE hH hl ⟨hrd _ (hfv _ (xin_lt hin)), hs⟩ hf')⟩
      · cases hx
    · cases hx
  · cases hx
theorem xone_caload (hx : xd_caload m pc l C S fs h E  len st = some ss) (hm : m < xm_n) (hd : decode (xc m) pc = .ok (.caload , len)) (G : ∀ s' ∈ ss, XGood n s') (hxs : XX L xs σ) (hE : xer σ E) (hH : xhr σ b Z ws h) (hl : xlr σ b (xads ws) lv l) (hs : xsr σ b (xads ws) vs st) (hf : xfr σ b (xads ws) (n + 1) cfs fs) : XR L Z b xs m cfs (n + 1) pc lv vs ws C S := by
  have hf' := xfr_le (Nat.le_succ n) hf
  show am_stp Z _ _ _ _ _ _ _ _ _ _ (XR L Z b xs m cfs n) pc lv vs ws C S ∨ _
  refine Or.inl ?_
  unfold am_stp
  unfold xd_caload at hx
  revert hs hd
  split at hx
  · rename_i x a r
    intro hd hs
    unfold xst_72 at hx
    rw [hd]
    split at hx
    · rename_i tg9 n9 d ms hha
      replace hx := xcond hx; obtain ⟨hb9, hx⟩ := hx
      have hb9 := Nat.eq_of_beq_eq_true hb9
      subst hb9
      replace hha := xac_w hha
      split at hx
      · rename_i v hv
        cases hx
        replace hs := xsr_i hs; obtain ⟨x1, v1, rfl, hx1, hs⟩ := hs
        replace hs := xsr_c hs; obtain ⟨w1, w2, rfl, hw1, hs⟩ := hs
        obtain ⟨a1, rfl, ha⟩ := hw1
        obtain ⟨f, he, hcap, hfv⟩ := xhr_2 hH ha hha
        obtain ⟨hin, hrd⟩ := xread_ok hE hx1 hv
        exact ⟨a1, x1, w2, a, n9, f, rfl, he, hin, (xg (G _ List.mem_cons_self) hxs hE hH hl ⟨hrd _ (hfv _ (xin_lt hin)), hs⟩ hf')⟩
      · cases hx
    · cases hx
  · cases hx
theorem xone_baload (hx : xd_baload m pc l C S fs h E  len st = some ss) (hm : m < xm_n) (hd : decode (xc m) pc = .ok (.baload , len)) (G : ∀ s' ∈ ss, XGood n s') (hxs : XX L xs σ) (hE : xer σ E) (hH : xhr σ b Z ws h) (hl : xlr σ b (xads ws) lv l) (hs : xsr σ b (xads ws) vs st) (hf : xfr σ b (xads ws) (n + 1) cfs fs) : XR L Z b xs m cfs (n + 1) pc lv vs ws C S := by
  have hf' := xfr_le (Nat.le_succ n) hf
  show am_stp Z _ _ _ _ _ _ _ _ _ _ (XR L Z b xs m cfs n) pc lv vs ws C S ∨ _
  refine Or.inl ?_
  unfold am_stp
  unfold xd_baload at hx
  revert hs hd
  split at hx
  · rename_i x a r
    intro hd hs
    unfold xst_73 at hx
    rw [hd]
    split at hx
    · rename_i tg9 n9 d ms hha
      replace hx := xcond hx; obtain ⟨hb9, hx⟩ := hx
      have hb9 := Nat.eq_of_beq_eq_true hb9
      subst hb9
      replace hha := xac_w hha
      split at hx
      · rename_i v hv
        cases hx
        replace hs := xsr_i hs; obtain ⟨x1, v1, rfl, hx1, hs⟩ := hs
        replace hs := xsr_c hs; obtain ⟨w1, w2, rfl, hw1, hs⟩ := hs
        obtain ⟨a1, rfl, ha⟩ := hw1
        obtain ⟨f, he, hcap, hfv⟩ := xhr_3 hH ha hha
        obtain ⟨hin, hrd⟩ := xread_ok hE hx1 hv
        exact Or.inl ⟨a1, x1, w2, a, n9, f, rfl, he, hin, (xg (G _ List.mem_cons_self) hxs hE hH hl ⟨hrd _ (hfv _ (xin_lt hin)), hs⟩ hf')⟩
      · cases hx
    · cases hx
  · cases hx
theorem xone_iastore (hx : xd_iastore m pc l C S fs h E  len st = some ss) (hm : m < xm_n) (hd : decode (xc m) pc = .ok (.iastore , len)) (G : ∀ s' ∈ ss, XGood n s') (hxs : XX L xs σ) (hE : xer σ E) (hH : xhr σ b Z ws h) (hl : xlr σ b (xads ws) lv l) (hs : xsr σ b (xads ws) vs st) (hf : xfr σ b (xads ws) (n + 1) cfs fs) : XR L Z b xs m cfs (n + 1) pc lv vs ws C S := by
  have hf' := xfr_le (Nat.le_succ n) hf
  show am_stp Z _ _ _ _ _ _ _ _ _ _ (XR L Z b xs m cfs n) pc lv vs ws C S ∨ _
  refine Or.inl ?_
  unfold am_stp
  unfold xd_iastore at hx
  revert hs hd
  split at hx
  · rename_i v c a r
    intro hd hs
    unfold xst_74 at hx
    rw [hd]
    split at hx
    · rename_i tg9 n9 d ms hha
      replace hx := xcond hx; obtain ⟨hb, hx⟩ := hx
      rw [Bool.and_eq_true] at hb
      have hb9 := Nat.eq_of_beq_eq_true hb.1
      subst hb9
      replace hha := xac_w hha
      cases hx
      replace hs := xsr_i hs; obtain ⟨x1, v1, rfl, hx1, hs⟩ := hs
      replace hs := xsr_i hs; obtain ⟨j1, v2, rfl, hj1, hs⟩ := hs
      cases hj1
      replace hs := xsr_c hs; obtain ⟨w1, w2, rfl, hw1, hs⟩ := hs
      obtain ⟨a1, rfl, ha⟩ := hw1
      obtain ⟨f, he, hcap, hfv⟩ := xhr_0 hH ha hha
      have hin : vp_in c n9 := vp_in_iff.mpr (of_decide_eq_true hb.2)
      exact ⟨a1, c, x1, w2, a, n9, f, rfl, he, hin, (xg (G _ List.mem_cons_self) hxs hE (xhr_set0 hH he hcap hfv (xin_lt hin) ⟨_, rfl, xir_nar0 hx1⟩) (by rw [xads_eq he]; exact hl) (by rw [xads_eq he]; exact hs) (by rw [xads_eq he]; exact hf'))⟩
    · cases hx
  · cases hx
theorem xone_castore (hx : xd_castore m pc l C S fs h E  len st = some ss) (hm : m < xm_n) (hd : decode (xc m) pc = .ok (.castore , len)) (G : ∀ s' ∈ ss, XGood n s') (hxs : XX L xs σ) (hE : xer σ E) (hH : xhr σ b Z ws h) (hl : xlr σ b (xads ws) lv l) (hs : xsr σ b (xads ws) vs st) (hf : xfr σ b (xads ws) (n + 1) cfs fs) : XR L Z b xs m cfs (n + 1) pc lv vs ws C S := by
  have hf' := xfr_le (Nat.le_succ n) hf
  show am_stp Z _ _ _ _ _ _ _ _ _ _ (XR L Z b xs m cfs n) pc lv vs ws C S ∨ _
  refine Or.inl ?_
  unfold am_stp
  unfold xd_castore at hx
  revert hs hd
  split at hx
  · rename_i v c a r
    intro hd hs
    unfold xst_75 at hx
    rw [hd]
    split at hx
    · rename_i tg9 n9 d ms hha
      replace hx := xcond hx; obtain ⟨hb, hx⟩ := hx
      rw [Bool.and_eq_true] at hb
      have hb9 := Nat.eq_of_beq_eq_true hb.1
      subst hb9
      replace hha := xac_w hha
      cases hx
      replace hs := xsr_i hs; obtain ⟨x1, v1, rfl, hx1, hs⟩ := hs
      replace hs := xsr_i hs; obtain ⟨j1, v2, rfl, hj1, hs⟩ := hs
      cases hj1
      replace hs := xsr_c hs; obtain ⟨w1, w2, rfl, hw1, hs⟩ := hs
      obtain ⟨a1, rfl, ha⟩ := hw1
      obtain ⟨f, he, hcap, hfv⟩ := xhr_2 hH ha hha
      have hin : vp_in c n9 := vp_in_iff.mpr (of_decide_eq_true hb.2)
      exact ⟨a1, c, x1, w2, a, n9, f, rfl, he, hin, (xg (G _ List.mem_cons_self) hxs hE (xhr_set2 hH he hcap hfv (xin_lt hin) ⟨_, rfl, xir_nar2 hx1⟩) (by rw [xads_eq he]; exact hl) (by rw [xads_eq he]; exact hs) (by rw [xads_eq he]; exact hf'))⟩
    · cases hx
  · cases hx
theorem xone_bastore (hx : xd_bastore m pc l C S fs h E  len st = some ss) (hm : m < xm_n) (hd : decode (xc m) pc = .ok (.bastore , len)) (G : ∀ s' ∈ ss, XGood n s') (hxs : XX L xs σ) (hE : xer σ E) (hH : xhr σ b Z ws h) (hl : xlr σ b (xads ws) lv l) (hs : xsr σ b (xads ws) vs st) (hf : xfr σ b (xads ws) (n + 1) cfs fs) : XR L Z b xs m cfs (n + 1) pc lv vs ws C S := by
  have hf' := xfr_le (Nat.le_succ n) hf
  show am_stp Z _ _ _ _ _ _ _ _ _ _ (XR L Z b xs m cfs n) pc lv vs ws C S ∨ _
  refine Or.inl ?_
  unfold am_stp
  unfold xd_bastore at hx
  revert hs hd
  split at hx
  · rename_i v c a r
    intro hd hs
    unfold xst_76 at hx
    rw [hd]
    split at hx
    · rename_i tg9 n9 d ms hha
      replace hx := xcond hx; obtain ⟨hb, hx⟩ := hx
      rw [Bool.and_eq_true] at hb
      have hb9 := Nat.eq_of_beq_eq_true hb.1
      subst hb9
      replace hha := xac_w hha
      cases hx
      replace hs := xsr_i hs; obtain ⟨x1, v1, rfl, hx1, hs⟩ := hs
      replace hs := xsr_i hs; obtain ⟨j1, v2, rfl, hj1, hs⟩ := hs
      cases hj1
      replace hs := xsr_c hs; obtain ⟨w1, w2, rfl, hw1, hs⟩ := hs
      obtain ⟨a1, rfl, ha⟩ := hw1
      obtain ⟨f, he, hcap, hfv⟩ := xhr_3 hH ha hha
      have hin : vp_in c n9 := vp_in_iff.mpr (of_decide_eq_true hb.2)
      exact ⟨a1, c, x1, w2, a, n9, f, rfl, he, hin, (xg (G _ List.mem_cons_self) hxs hE (xhr_set3 hH he hcap hfv (xin_lt hin) ⟨_, rfl, xir_nar3 hx1⟩) (by rw [xads_eq he]; exact hl) (by rw [xads_eq he]; exact hs) (by rw [xads_eq he]; exact hf'))⟩
    · cases hx
  · cases hx
theorem xone_lastore (hx : xd_lastore m pc l C S fs h E  len st = some ss) (hm : m < xm_n) (hd : decode (xc m) pc = .ok (.lastore , len)) (G : ∀ s' ∈ ss, XGood n s') (hxs : XX L xs σ) (hE : xer σ E) (hH : xhr σ b Z ws h) (hl : xlr σ b (xads ws) lv l) (hs : xsr σ b (xads ws) vs st) (hf : xfr σ b (xads ws) (n + 1) cfs fs) : XR L Z b xs m cfs (n + 1) pc lv vs ws C S := by
  have hf' := xfr_le (Nat.le_succ n) hf
  show am_stp Z _ _ _ _ _ _ _ _ _ _ (XR L Z b xs m cfs n) pc lv vs ws C S ∨ _
  refine Or.inl ?_
  unfold am_stp
  unfold xd_lastore at hx
  revert hs hd
  split at hx
  · rename_i v c a r
    intro hd hs
    unfold xst_77 at hx
    rw [hd]
    split at hx
    · rename_i tg9 n9 d ms hha
      replace hx := xcond hx; obtain ⟨hb, hx⟩ := hx
      rw [Bool.and_eq_true] at hb
      have hb9 := Nat.eq_of_beq_eq_true hb.1
      subst hb9
      replace hha := xac_w hha
      cases hx
      replace hs := xsr_l hs; obtain ⟨x1, v1, rfl, hx1, hs⟩ := hs
      replace hs := xsr_i hs; obtain ⟨j1, v2, rfl, hj1, hs⟩ := hs
      cases hj1
      replace hs := xsr_c hs; obtain ⟨w1, w2, rfl, hw1, hs⟩ := hs
      obtain ⟨a1, rfl, ha⟩ := hw1
      obtain ⟨f, he, hcap, hfv⟩ := xhr_1 hH ha hha
      have hin : vp_in c n9 := vp_in_iff.mpr (of_decide_eq_true hb.2)
      exact ⟨a1, c, x1, w2, a, n9, f, rfl, he, hin, (xg (G _ List.mem_cons_self) hxs hE (xhr_set1 hH he hcap hfv (xin_lt hin) ⟨_, rfl, hx1⟩) (by rw [xads_eq he]; exact hl) (by rw [xads_eq he]; exact hs) (by rw [xads_eq he]; exact hf'))⟩
    · cases hx
  · cases hx
theorem xone_arraylength (hx : xd_arraylength m pc l C S fs h E  len st = some ss) (hm : m < xm_n) (hd : decode (xc m) pc = .ok (.arraylength , len)) (G : ∀ s' ∈ ss, XGood n s') (hxs : XX L xs σ) (hE : xer σ E) (hH : xhr σ b Z ws h) (hl : xlr σ b (xads ws) lv l) (hs : xsr σ b (xads ws) vs st) (hf : xfr σ b (xads ws) (n + 1) cfs fs) : XR L Z b xs m cfs (n + 1) pc lv vs ws C S := by
  have hf' := xfr_le (Nat.le_succ n) hf
  show am_stp Z _ _ _ _ _ _ _ _ _ _ (XR L Z b xs m cfs n) pc lv vs ws C S ∨ _
  refine Or.inl ?_
  unfold am_stp
  unfold xd_arraylength at hx
  revert hs hd
  split at hx
  · rename_i r
    intro hd hs
    unfold xst_78 at hx
    rw [hd]
    split at hx
    · rename_i lo hi9 h7
      replace hx := xcond hx; obtain ⟨hb, hx⟩ := hx
      cases hx
      simp only [Bool.and_eq_true] at hb
      replace hs := xsr_c hs; obtain ⟨w1, w2, rfl, hw1, hs⟩ := hs
      cases hw1
      have h8 := hE.1 7 _ h7
      rw [xlen7 hxs] at h8
      have h9 := of_decide_eq_true hb.1
      have h10 : lo = (L : Int) := by have h1 := h8.1; have h2 := h8.2; simp only at h1 h2; omega
      exact Or.inl ⟨b, L, xs, w2, if_pos (Nat.eq_of_beq_eq_true hb.2), rfl, (xg (G _ List.mem_cons_self) hxs hE hH hl ⟨⟨_, rfl, by rw [h10]; exact xofL hxs⟩, hs⟩ hf')⟩
    · cases hx
  · rename_i a r
    intro hd hs
    unfold xst_79 at hx
    rw [hd]
    split at hx
    · rename_i tg n9 d ms hha
      replace hx := xcond hx; obtain ⟨hb, hx⟩ := hx
      replace hha := xac_w hha
      cases hx
      replace hs := xsr_c hs; obtain ⟨w1, w2, rfl, hw1, hs⟩ := hs
      obtain ⟨a1, rfl, ha⟩ := hw1
      obtain ⟨cA, x, t, ty, he, hty, hn9⟩ := xhr_len hH ha hha
      subst hn9
      exact Or.inr (Or.inl ⟨a1, w2, a, cA, x, t, ty, rfl, he, hty, (xg (G _ List.mem_cons_self) hxs hE hH hl ⟨⟨_, rfl, rfl⟩, hs⟩ hf')⟩)
    · cases hx
  · cases hx
theorem xone_new {a0 : Nat} (hx : xd_new m pc l C S fs h E a0 len st = some ss) (hm : m < xm_n) (hd : decode (xc m) pc = .ok (.new a0, len)) (G : ∀ s' ∈ ss, XGood n s') (hxs : XX L xs σ) (hE : xer σ E) (hH : xhr σ b Z ws h) (hl : xlr σ b (xads ws) lv l) (hs : xsr σ b (xads ws) vs st) (hf : xfr σ b (xads ws) (n + 1) cfs fs) : XR L Z b xs m cfs (n + 1) pc lv vs ws C S := by
  have hf' := xfr_le (Nat.le_succ n) hf
  show am_stp Z _ _ _ _ _ _ _ _ _ _ (XR L Z b xs m cfs n) pc lv vs ws C S ∨ _
  refine Or.inl ?_
  unfold am_stp
  unfold xd_new at hx
  revert hs hd
  split at hx
  · rename_i st
    intro hd hs
    unfold xst_80 at hx
    rw [hd]
    split at hx
    · rename_i ci p9 hw9
      replace hx := xcond hx; obtain ⟨hb, hx⟩ := hx
      simp only [Bool.and_eq_true] at hb
      cases hx
      obtain ⟨Cn, T, N, hcl, hw, hN⟩ := xw_w hm hw9
      subst hN
      refine ⟨ci, Cn, T, _, hcl, hw, Nat.le_of_ble_eq_true hb.1.1, Nat.le_of_ble_eq_true hb.1.2, fun q hq => ?_⟩
      exact (xg (G _ List.mem_cons_self) hxs hE (xhr_app hH (Nat.le_of_ble_eq_true hb.2) (xdf_o hcl)) (by rw [xads_push]; exact xlr_app q hl) ⟨xnew_ref hH, by rw [xads_push]; exact xsr_app q hs⟩ (by rw [xads_push]; exact xfr_app q hf'))
    · cases hx
  · cases hx
theorem xone_newarray {a0 : ArrayType} (hx : xd_newarray m pc l C S fs h E a0 len st = some ss) (hm : m < xm_n) (hd : decode (xc m) pc = .ok (.newarray a0, len)) (G : ∀ s' ∈ ss, XGood n s') (hxs : XX L xs σ) (hE : xer σ E) (hH : xhr σ b Z ws h) (hl : xlr σ b (xads ws) lv l) (hs : xsr σ b (xads ws) vs st) (hf : xfr σ b (xads ws) (n + 1) cfs fs) : XR L Z b xs m cfs (n + 1) pc lv vs ws C S := by
  have hf' := xfr_le (Nat.le_succ n) hf
  show am_stp Z _ _ _ _ _ _ _ _ _ _ (XR L Z b xs m cfs n) pc lv vs ws C S ∨ _
  refine Or.inl ?_
  unfold am_stp
  unfold xd_newarray at hx
  revert hs hd
  split at hx
  · rename_i c r
    intro hd hs
    unfold xst_81 at hx
    rw [hd]
    replace hx := xcond hx; obtain ⟨hb, hx⟩ := hx
    simp only [Bool.and_eq_true] at hb
    cases hx
    replace hs := xsr_i hs; obtain ⟨x1, v1, rfl, hx1, hs⟩ := hs
    cases hx1
    refine ⟨c, v1, rfl, xpos (of_decide_eq_true hb.1.1.1.1), Nat.le_trans (Nat.le_of_ble_eq_true hb.1.1.1.2) (by decide), Nat.le_of_ble_eq_true hb.1.1.2, Nat.le_of_ble_eq_true hb.1.2, fun q hq => ?_⟩
    exact (xg (G _ List.mem_cons_self) hxs hE (xhr_app hH (Nat.le_of_ble_eq_true hb.2) (xarr_0 (Nat.le_of_ble_eq_true hb.1.1.1.2))) (by rw [xads_push]; exact xlr_app q hl) ⟨xnew_ref hH, by rw [xads_push]; exact xsr_app q hs⟩ (by rw [xads_push]; exact xfr_app q hf'))
  · rename_i c r
    intro hd hs
    unfold xst_82 at hx
    rw [hd]
    replace hx := xcond hx; obtain ⟨hb, hx⟩ := hx
    simp only [Bool.and_eq_true] at hb
    cases hx
    replace hs := xsr_i hs; obtain ⟨x1, v1, rfl, hx1, hs⟩ := hs
    cases hx1
    refine ⟨c, v1, rfl, xpos (of_decide_eq_true hb.1.1.1.1), Nat.le_trans (Nat.le_of_ble_eq_true hb.1.1.1.2) (by decide), Nat.le_of_ble_eq_true hb.1.1.2, Nat.le_of_ble_eq_true hb.1.2, fun q hq => ?_⟩
    exact (xg (G _ List.mem_cons_self) hxs hE (xhr_app hH (Nat.le_of_ble_eq_true hb.2) (xarr_1 (Nat.le_of_ble_eq_true hb.1.1.1.2))) (by rw [xads_push]; exact xlr_app q hl) ⟨xnew_ref hH, by rw [xads_push]; exact xsr_app q hs⟩ (by rw [xads_push]; exact xfr_app q hf'))
  · rename_i c r
    intro hd hs
    unfold xst_83 at hx
    rw [hd]
    replace hx := xcond hx; obtain ⟨hb, hx⟩ := hx
    simp only [Bool.and_eq_true] at hb
    cases hx
    replace hs := xsr_i hs; obtain ⟨x1, v1, rfl, hx1, hs⟩ := hs
    cases hx1
    refine ⟨c, v1, rfl, xpos (of_decide_eq_true hb.1.1.1.1), Nat.le_trans (Nat.le_of_ble_eq_true hb.1.1.1.2) (by decide), Nat.le_of_ble_eq_true hb.1.1.2, Nat.le_of_ble_eq_true hb.1.2, fun q hq => ?_⟩
    exact (xg (G _ List.mem_cons_self) hxs hE (xhr_app hH (Nat.le_of_ble_eq_true hb.2) (xarr_2 (Nat.le_of_ble_eq_true hb.1.1.1.2))) (by rw [xads_push]; exact xlr_app q hl) ⟨xnew_ref hH, by rw [xads_push]; exact xsr_app q hs⟩ (by rw [xads_push]; exact xfr_app q hf'))
  · rename_i c r
    intro hd hs
    unfold xst_84 at hx
    rw [hd]
    replace hx := xcond hx; obtain ⟨hb, hx⟩ := hx
    simp only [Bool.and_eq_true] at hb
    cases hx
    replace hs := xsr_i hs; obtain ⟨x1, v1, rfl, hx1, hs⟩ := hs
    cases hx1
    refine ⟨c, v1, rfl, xpos (of_decide_eq_true hb.1.1.1.1), Nat.le_trans (Nat.le_of_ble_eq_true hb.1.1.1.2) (by decide), Nat.le_of_ble_eq_true hb.1.1.2, Nat.le_of_ble_eq_true hb.1.2, fun q hq => ?_⟩
    exact (xg (G _ List.mem_cons_self) hxs hE (xhr_app hH (Nat.le_of_ble_eq_true hb.2) (xarr_3 (Nat.le_of_ble_eq_true hb.1.1.1.2))) (by rw [xads_push]; exact xlr_app q hl) ⟨xnew_ref hH, by rw [xads_push]; exact xsr_app q hs⟩ (by rw [xads_push]; exact xfr_app q hf'))
  · cases hx
theorem xone_invokevirtual {a0 : Nat} (hx : xd_invokevirtual m pc l C S fs h E a0 len st = some ss) (hm : m < xm_n) (hd : decode (xc m) pc = .ok (.invokevirtual a0, len)) (G : ∀ s' ∈ ss, XGood n s') (hxs : XX L xs σ) (hE : xer σ E) (hH : xhr σ b Z ws h) (hl : xlr σ b (xads ws) lv l) (hs : xsr σ b (xads ws) vs st) (hf : xfr σ b (xads ws) (n + 1) cfs fs) : XR L Z b xs m cfs (n + 1) pc lv vs ws C S := by
  have hf' := xfr_le (Nat.le_succ n) hf
  show am_stp Z _ _ _ _ _ _ _ _ _ _ (XR L Z b xs m cfs n) pc lv vs ws C S ∨ _
  refine Or.inl ?_
  unfold am_stp
  unfold xd_invokevirtual at hx
  revert hs hd
  split at hx
  · rename_i st
    intro hd hs
    unfold xst_85 at hx
    rw [hd]
    exact Or.inl (xinvV hm hx G hxs hE hH hl hs hf')
  · cases hx
theorem xone_invokestatic {a0 : Nat} (hx : xd_invokestatic m pc l C S fs h E a0 len st = some ss) (hm : m < xm_n) (hd : decode (xc m) pc = .ok (.invokestatic a0, len)) (G : ∀ s' ∈ ss, XGood n s') (hxs : XX L xs σ) (hE : xer σ E) (hH : xhr σ b Z ws h) (hl : xlr σ b (xads ws) lv l) (hs : xsr σ b (xads ws) vs st) (hf : xfr σ b (xads ws) (n + 1) cfs fs) : XR L Z b xs m cfs (n + 1) pc lv vs ws C S := by
  have hf' := xfr_le (Nat.le_succ n) hf
  show am_stp Z _ _ _ _ _ _ _ _ _ _ (XR L Z b xs m cfs n) pc lv vs ws C S ∨ _
  refine Or.inl ?_
  unfold am_stp
  unfold xd_invokestatic at hx
  revert hs hd
  split at hx
  · rename_i st
    intro hd hs
    unfold xst_86 at hx
    rw [hd]
    exact xinvS hm hx G hxs hE hH hl hs hf'
  · cases hx
theorem xone_invokespecial {a0 : Nat} (hx : xd_invokespecial m pc l C S fs h E a0 len st = some ss) (hm : m < xm_n) (hd : decode (xc m) pc = .ok (.invokespecial a0, len)) (G : ∀ s' ∈ ss, XGood n s') (hxs : XX L xs σ) (hE : xer σ E) (hH : xhr σ b Z ws h) (hl : xlr σ b (xads ws) lv l) (hs : xsr σ b (xads ws) vs st) (hf : xfr σ b (xads ws) (n + 1) cfs fs) : XR L Z b xs m cfs (n + 1) pc lv vs ws C S := by
  have hf' := xfr_le (Nat.le_succ n) hf
  show am_stp Z _ _ _ _ _ _ _ _ _ _ (XR L Z b xs m cfs n) pc lv vs ws C S ∨ _
  refine Or.inl ?_
  unfold am_stp
  unfold xd_invokespecial at hx
  revert hs hd
  split at hx
  · rename_i st
    intro hd hs
    unfold xst_87 at hx
    rw [hd]
    exact xinvI hm hx G hxs hE hH hl hs hf'
  · cases hx
theorem xone_ireturn (hx : xd_ireturn m pc l C S fs h E  len st = some ss) (hm : m < xm_n) (hd : decode (xc m) pc = .ok (.ireturn , len)) (G : ∀ s' ∈ ss, XGood n s') (hxs : XX L xs σ) (hE : xer σ E) (hH : xhr σ b Z ws h) (hl : xlr σ b (xads ws) lv l) (hs : xsr σ b (xads ws) vs st) (hf : xfr σ b (xads ws) (n + 1) cfs fs) : XR L Z b xs m cfs (n + 1) pc lv vs ws C S := by
  have hf' := xfr_le (Nat.le_succ n) hf
  show am_stp Z _ _ _ _ _ _ _ _ _ _ (XR L Z b xs m cfs n) pc lv vs ws C S ∨ _
  refine Or.inl ?_
  unfold am_stp
  unfold xd_ireturn at hx
  revert hs hd
  split at hx
  · rename_i x
    intro hd hs
    unfold xst_88 at hx
    rw [hd]
    replace hs := xsr_i hs; obtain ⟨v1, v2, rfl, hv, hs⟩ := hs; rw [xsr_n hs]; exact xretI hx G hxs hE hH hv hf
  · cases hx
theorem xone_lreturn (hx : xd_lreturn m pc l C S fs h E  len st = some ss) (hm : m < xm_n) (hd : decode (xc m) pc = .ok (.lreturn , len)) (G : ∀ s' ∈ ss, XGood n s') (hxs : XX L xs σ) (hE : xer σ E) (hH : xhr σ b Z ws h) (hl : xlr σ b (xads ws) lv l) (hs : xsr σ b (xads ws) vs st) (hf : xfr σ b (xads ws) (n + 1) cfs fs) : XR L Z b xs m cfs (n + 1) pc lv vs ws C S := by
  have hf' := xfr_le (Nat.le_succ n) hf
  show am_stp Z _ _ _ _ _ _ _ _ _ _ (XR L Z b xs m cfs n) pc lv vs ws C S ∨ _
  refine Or.inl ?_
  unfold am_stp
  unfold xd_lreturn at hx
  revert hs hd
  split at hx
  · rename_i x
    intro hd hs
    unfold xst_89 at hx
    rw [hd]
    replace hx := xcond hx; obtain ⟨hb, hx⟩ := hx
    replace hs := xsr_l hs; obtain ⟨v1, v2, rfl, hv, hs⟩ := hs
    rw [xsr_n hs]
    refine ⟨v1, rfl, of_decide_eq_true hb, ?_⟩
    split at hx
    · cases hx
    · cases hx
      exact xretK (x := some (.inr (.inl x))) (G _ List.mem_cons_self) ⟨⟨v1, rfl, hv⟩, trivial⟩ hxs hE hH hf
  · cases hx
theorem xone_areturn (hx : xd_areturn m pc l C S fs h E  len st = some ss) (hm : m < xm_n) (hd : decode (xc m) pc = .ok (.areturn , len)) (G : ∀ s' ∈ ss, XGood n s') (hxs : XX L xs σ) (hE : xer σ E) (hH : xhr σ b Z ws h) (hl : xlr σ b (xads ws) lv l) (hs : xsr σ b (xads ws) vs st) (hf : xfr σ b (xads ws) (n + 1) cfs fs) : XR L Z b xs m cfs (n + 1) pc lv vs ws C S := by
  have hf' := xfr_le (Nat.le_succ n) hf
  show am_stp Z _ _ _ _ _ _ _ _ _ _ (XR L Z b xs m cfs n) pc lv vs ws C S ∨ _
  refine Or.inl ?_
  unfold am_stp
  unfold xd_areturn at hx
  revert hs hd
  split at hx
  · rename_i a
    intro hd hs
    unfold xst_90 at hx
    rw [hd]
    split at hx
    · rename_i o9 m2 pc2 l2 st2 C2 S2 f2 fs2 hr9
      cases hx
      replace hs := xsr_c hs; obtain ⟨v1, v2, rfl, hv, hs⟩ := hs
      rw [xsr_n hs]
      obtain ⟨a1, rfl, hv⟩ := xvr_a hv
      exact ⟨a1, _, rfl, hr9, Or.inl ⟨_, rfl⟩, xretK (x := some (.inr (.inr (a + 1)))) (G _ List.mem_cons_self) ⟨hv, trivial⟩ hxs hE hH hf⟩
    · cases hx
  · cases hx
theorem xone_return_ (hx : xd_return_ m pc l C S fs h E  len st = some ss) (hm : m < xm_n) (hd : decode (xc m) pc = .ok (.return_ , len)) (G : ∀ s' ∈ ss, XGood n s') (hxs : XX L xs σ) (hE : xer σ E) (hH : xhr σ b Z ws h) (hl : xlr σ b (xads ws) lv l) (hs : xsr σ b (xads ws) vs st) (hf : xfr σ b (xads ws) (n + 1) cfs fs) : XR L Z b xs m cfs (n + 1) pc lv vs ws C S := by
  have hf' := xfr_le (Nat.le_succ n) hf
  show am_stp Z _ _ _ _ _ _ _ _ _ _ (XR L Z b xs m cfs n) pc lv vs ws C S ∨ _
  refine Or.inl ?_
  unfold am_stp
  unfold xd_return_ at hx
  revert hs hd
  split at hx
  · intro hd hs
    unfold xst_91 at hx
    rw [hd]
    split at hx
    · rename_i m2 pc2 l2 st2 C2 S2 f2 fs2 hr9
      cases hx
      rw [xsr_n hs]
      exact ⟨rfl, hr9, xretK (x := none) (v := none) (G _ List.mem_cons_self) trivial hxs hE hH hf⟩
    · cases hx
  · cases hx
end XS1
theorem xone {s : XS} {ss : List XS} (hx : xstep s = some ss) {n : Nat} (G : ∀ s' ∈ ss, XGood n s') : XGood (n + 1) s := by
  unfold xstep at hx
  match s, hx with
  | ([], _, _), hx => cases hx
  | ((m, pc, l, st, C, S, f0) :: fs, h, E), hx =>
  intro L Z σ b xs ws lv vs cfs hxs hE hH hl hs hf
  simp only at hx
  split at hx
  · cases hx
  rename_i i0 len0 hlook
  obtain ⟨hm, hd⟩ := xi_w hlook
  clear hlook
  split at hx
  · exact xone_iconst hx hm hd G hxs hE hH hl hs hf
  · exact xone_bipush hx hm hd G hxs hE hH hl hs hf
  · exact xone_sipush hx hm hd G hxs hE hH hl hs hf
  · exact xone_lconst hx hm hd G hxs hE hH hl hs hf
  · exact xone_ldc hx hm hd G hxs hE hH hl hs hf
  · exact xone_ldc_w hx hm hd G hxs hE hH hl hs hf
  · exact xone_ldc2_w hx hm hd G hxs hE hH hl hs hf
  · exact xone_iload hx hm hd G hxs hE hH hl hs hf
  · exact xone_iload_n hx hm hd G hxs hE hH hl hs hf
  · exact xone_istore hx hm hd G hxs hE hH hl hs hf
  · exact xone_istore_n hx hm hd G hxs hE hH hl hs hf
  · exact xone_lload hx hm hd G hxs hE hH hl hs hf
  · exact xone_lload_n hx hm hd G hxs hE hH hl hs hf
  · exact xone_lstore hx hm hd G hxs hE hH hl hs hf
  · exact xone_lstore_n hx hm hd G hxs hE hH hl hs hf
  · exact xone_aload hx hm hd G hxs hE hH hl hs hf
  · exact xone_aload_n hx hm hd G hxs hE hH hl hs hf
  · exact xone_astore hx hm hd G hxs hE hH hl hs hf
  · exact xone_astore_n hx hm hd G hxs hE hH hl hs hf
  · exact xone_iinc hx hm hd G hxs hE hH hl hs hf
  · exact xone_iadd hx hm hd G hxs hE hH hl hs hf
  · exact xone_iand hx hm hd G hxs hE hH hl hs hf
  · exact xone_isub hx hm hd G hxs hE hH hl hs hf
  · exact xone_imul hx hm hd G hxs hE hH hl hs hf
  · exact xone_ior hx hm hd G hxs hE hH hl hs hf
  · exact xone_ixor hx hm hd G hxs hE hH hl hs hf
  · exact xone_ishl hx hm hd G hxs hE hH hl hs hf
  · exact xone_ishr hx hm hd G hxs hE hH hl hs hf
  · exact xone_iushr hx hm hd G hxs hE hH hl hs hf
  · exact xone_idiv hx hm hd G hxs hE hH hl hs hf
  · exact xone_irem hx hm hd G hxs hE hH hl hs hf
  · exact xone_ladd hx hm hd G hxs hE hH hl hs hf
  · exact xone_lsub hx hm hd G hxs hE hH hl hs hf
  · exact xone_lmul hx hm hd G hxs hE hH hl hs hf
  · exact xone_land hx hm hd G hxs hE hH hl hs hf
  · exact xone_lor hx hm hd G hxs hE hH hl hs hf
  · exact xone_lxor hx hm hd G hxs hE hH hl hs hf
  · exact xone_ldiv hx hm hd G hxs hE hH hl hs hf
  · exact xone_lrem hx hm hd G hxs hE hH hl hs hf
  · exact xone_lshl hx hm hd G hxs hE hH hl hs hf
  · exact xone_lshr hx hm hd G hxs hE hH hl hs hf
  · exact xone_lushr hx hm hd G hxs hE hH hl hs hf
  · exact xone_lcmp hx hm hd G hxs hE hH hl hs hf
  · exact xone_ineg hx hm hd G hxs hE hH hl hs hf
  · exact xone_lneg hx hm hd G hxs hE hH hl hs hf
  · exact xone_i2l hx hm hd G hxs hE hH hl hs hf
  · exact xone_l2i hx hm hd G hxs hE hH hl hs hf
  · exact xone_i2c hx hm hd G hxs hE hH hl hs hf
  · exact xone_dup hx hm hd G hxs hE hH hl hs hf
  · exact xone_pop hx hm hd G hxs hE hH hl hs hf
  · exact xone_pop2 hx hm hd G hxs hE hH hl hs hf
  · exact xone_dup2 hx hm hd G hxs hE hH hl hs hf
  · exact xone_ifCond hx hm hd G hxs hE hH hl hs hf
  · exact xone_if_icmp hx hm hd G hxs hE hH hl hs hf
  · exact xone_goto hx hm hd G hxs hE hH hl hs hf
  · exact xone_tableswitch hx hm hd G hxs hE hH hl hs hf
  · exact xone_lookupswitch hx hm hd G hxs hE hH hl hs hf
  · exact xone_getfield hx hm hd G hxs hE hH hl hs hf
  · exact xone_putfield hx hm hd G hxs hE hH hl hs hf
  · exact xone_iaload hx hm hd G hxs hE hH hl hs hf
  · exact xone_laload hx hm hd G hxs hE hH hl hs hf
  · exact xone_caload hx hm hd G hxs hE hH hl hs hf
  · exact xone_baload hx hm hd G hxs hE hH hl hs hf
  · exact xone_iastore hx hm hd G hxs hE hH hl hs hf
  · exact xone_castore hx hm hd G hxs hE hH hl hs hf
  · exact xone_bastore hx hm hd G hxs hE hH hl hs hf
  · exact xone_lastore hx hm hd G hxs hE hH hl hs hf
  · exact xone_arraylength hx hm hd G hxs hE hH hl hs hf
  · exact xone_new hx hm hd G hxs hE hH hl hs hf
  · exact xone_newarray hx hm hd G hxs hE hH hl hs hf
  · exact xone_invokevirtual hx hm hd G hxs hE hH hl hs hf
  · exact xone_invokestatic hx hm hd G hxs hE hH hl hs hf
  · exact xone_invokespecial hx hm hd G hxs hE hH hl hs hf
  · exact xone_ireturn hx hm hd G hxs hE hH hl hs hf
  · exact xone_lreturn hx hm hd G hxs hE hH hl hs hf
  · exact xone_areturn hx hm hd G hxs hE hH hl hs hf
  · exact xone_return_ hx hm hd G hxs hE hH hl hs hf
  · cases hx
theorem xrun_ok : ∀ {n : Nat} {w : List XS}, xrun n w = true → ∀ s ∈ w, XGood n s := by
  intro n
  induction n with
  | zero => intro w h; cases (h : false = true)
  | succ n ih =>
    intro w h s hs
    match w, h, hs with
    | [], _, hs => cases hs
    | s0 :: r, h, hs =>
      have h : (match xstep s0 with
        | none => false
        | some ss => xrun n (ss ++ r)) = true := h
      cases hx : xstep s0 with
      | none => rw [hx] at h; cases h
      | some ss =>
        rw [hx] at h
        have g := ih h
        rcases List.mem_cons.mp hs with rfl | hs
        · exact xone hx (fun s' hs' => g s' (List.mem_append_left _ hs'))
        · have g2 := g s (List.mem_append_right _ hs)
          match s, g2 with
          | ([], _, _), _ => trivial
          | ((m, pc, l, st, C, S, f) :: fs, h9, E), g2 =>
            intro L Z σ b xs ws lv vs cfs hxs hE hH hl hs2 hf
            exact XRun_mono (Nat.le_succ n) (g2 L Z σ b xs ws lv vs cfs hxs hE hH hl hs2 (xfr_le (Nat.le_succ n) hf))
