section
/-! one step of the executor, and its runs -/
section XS1
variable {ss : List XS} {n m pc : Nat} {l : List (Nat × XV)} {st : List XV} {C S : Nat} {fs : List XF} {h : XHp} {E : XE} {len : Nat}
variable {L : Nat} {Z : AmZ} {σ : Nat → Int32} {b : Nat} {xs : Nat → Int32} {ws : va_W} {lv : List (Nat × Value)} {vs : List Value} {cfs : List XG}
theorem xone_iconst {a0 : Int} (hx : xd_iconst m pc l C S fs h E a0 len st = some ss) (hm : m < xm_n) (hd : decode (xc m) pc = .ok (.iconst a0, len)) (G : ∀ s' ∈ ss, XGood n s') (hxs : XX L xs σ) (hE : xer σ E) (hH : xhr σ b Z ws h) (hl : xlr σ b (xads ws) lv l) (hs : xsr σ b (xads ws) vs st) (hf : xfr σ b (xads ws) (n + 1) cfs fs) : XR L Z b xs m cfs (n + 1) pc lv vs ws C S := by
  have hf' := xfr_le (Nat.le_succ n) hf
  show am_stp Z _ _ _ _ _ _ _ _ _ _ (XR L Z b xs m cfs n) pc lv vs ws C S ∨ _
  refine Or.inl ?_
  unfold xd_iconst at hx
  revert hs hd
  split at hx
  · rename_i st
    intro hd hs
    unfold xst_0 at hx
    cases hx; unfold am_stp; rw [hd]; exact (xg (G _ List.mem_cons_self) hxs hE hH hl ⟨⟨_, rfl, rfl⟩, hs⟩ hf')
  · cases hx
theorem xone_bipush {a0 : Int} (hx : xd_bipush m pc l C S fs h E a0 len st = some ss) (hm : m < xm_n) (hd : decode (xc m) pc = .ok (.bipush a0, len)) (G : ∀ s' ∈ ss, XGood n s') (hxs : XX L xs σ) (hE : xer σ E) (hH : xhr σ b Z ws h) (hl : xlr σ b (xads ws) lv l) (hs : xsr σ b (xads ws) vs st) (hf : xfr σ b (xads ws) (n + 1) cfs fs) : XR L Z b xs m cfs (n + 1) pc lv vs ws C S := by
  have hf' := xfr_le (Nat.le_succ n) hf
  show am_stp Z _ _ _ _ _ _ _ _ _ _ (XR L Z b xs m cfs n) pc lv vs ws C S ∨ _
  refine Or.inl ?_
  unfold xd_bipush at hx
  revert hs hd
  split at hx
  · rename_i st
    intro hd hs
    unfold xst_1 at hx
    cases hx; unfold am_stp; rw [hd]; exact (xg (G _ List.mem_cons_self) hxs hE hH hl ⟨⟨_, rfl, rfl⟩, hs⟩ hf')
  · cases hx
theorem xone_sipush {a0 : Int} (hx : xd_sipush m pc l C S fs h E a0 len st = some ss) (hm : m < xm_n) (hd : decode (xc m) pc = .ok (.sipush a0, len)) (G : ∀ s' ∈ ss, XGood n s') (hxs : XX L xs σ) (hE : xer σ E) (hH : xhr σ b Z ws h) (hl : xlr σ b (xads ws) lv l) (hs : xsr σ b (xads ws) vs st) (hf : xfr σ b (xads ws) (n + 1) cfs fs) : XR L Z b xs m cfs (n + 1) pc lv vs ws C S := by
  have hf' := xfr_le (Nat.le_succ n) hf
  show am_stp Z _ _ _ _ _ _ _ _ _ _ (XR L Z b xs m cfs n) pc lv vs ws C S ∨ _
  refine Or.inl ?_
  unfold xd_sipush at hx
  revert hs hd
  split at hx
  · rename_i st
    intro hd hs
    unfold xst_2 at hx
    cases hx; unfold am_stp; rw [hd]; exact (xg (G _ List.mem_cons_self) hxs hE hH hl ⟨⟨_, rfl, rfl⟩, hs⟩ hf')
  · cases hx
theorem xone_lconst {a0 : Fin 2} (hx : xd_lconst m pc l C S fs h E a0 len st = some ss) (hm : m < xm_n) (hd : decode (xc m) pc = .ok (.lconst a0, len)) (G : ∀ s' ∈ ss, XGood n s') (hxs : XX L xs σ) (hE : xer σ E) (hH : xhr σ b Z ws h) (hl : xlr σ b (xads ws) lv l) (hs : xsr σ b (xads ws) vs st) (hf : xfr σ b (xads ws) (n + 1) cfs fs) : XR L Z b xs m cfs (n + 1) pc lv vs ws C S := by
  have hf' := xfr_le (Nat.le_succ n) hf
  show am_stp Z _ _ _ _ _ _ _ _ _ _ (XR L Z b xs m cfs n) pc lv vs ws C S ∨ _
  refine Or.inl ?_
  unfold xd_lconst at hx
  revert hs hd
  split at hx
  · rename_i st
    intro hd hs
    unfold xst_3 at hx
    cases hx; unfold am_stp; rw [hd]; exact (xg (G _ List.mem_cons_self) hxs hE hH hl ⟨⟨_, rfl, rfl⟩, hs⟩ hf')
  · cases hx
theorem xone_iload {a0 : Nat} (hx : xd_iload m pc l C S fs h E a0 len st = some ss) (hm : m < xm_n) (hd : decode (xc m) pc = .ok (.iload a0, len)) (G : ∀ s' ∈ ss, XGood n s') (hxs : XX L xs σ) (hE : xer σ E) (hH : xhr σ b Z ws h) (hl : xlr σ b (xads ws) lv l) (hs : xsr σ b (xads ws) vs st) (hf : xfr σ b (xads ws) (n + 1) cfs fs) : XR L Z b xs m cfs (n + 1) pc lv vs ws C S := by
  have hf' := xfr_le (Nat.le_succ n) hf
  show am_stp Z _ _ _ _ _ _ _ _ _ _ (XR L Z b xs m cfs n) pc lv vs ws C S ∨ _
  refine Or.inl ?_
  unfold xd_iload at hx
  revert hs hd
  split at hx
  · rename_i st
    intro hd hs
    unfold xst_7 at hx
    split at hx
    · rename_i x hv
      cases hx
      obtain ⟨v, hm, hr⟩ := hl _ _ (xlook_mem hv)
      obtain ⟨y, rfl, hr⟩ := xvr_i hr
      unfold am_stp; rw [hd]; exact ⟨y, hm, (xg (G _ List.mem_cons_self) hxs hE hH hl ⟨hr, hs⟩ hf')⟩
    · cases hx
  · cases hx
theorem xone_iload_n {a0 : Fin 4} (hx : xd_iload_n m pc l C S fs h E a0 len st = some ss) (hm : m < xm_n) (hd : decode (xc m) pc = .ok (.iload_n a0, len)) (G : ∀ s' ∈ ss, XGood n s') (hxs : XX L xs σ) (hE : xer σ E) (hH : xhr σ b Z ws h) (hl : xlr σ b (xads ws) lv l) (hs : xsr σ b (xads ws) vs st) (hf : xfr σ b (xads ws) (n + 1) cfs fs) : XR L Z b xs m cfs (n + 1) pc lv vs ws C S := by
  have hf' := xfr_le (Nat.le_succ n) hf
  show am_stp Z _ _ _ _ _ _ _ _ _ _ (XR L Z b xs m cfs n) pc lv vs ws C S ∨ _
  refine Or.inl ?_
  unfold xd_iload_n at hx
  revert hs hd
  split at hx
  · rename_i st
    intro hd hs
    unfold xst_8 at hx
    split at hx
    · rename_i x hv
      cases hx
      obtain ⟨v, hm, hr⟩ := hl _ _ (xlook_mem hv)
      obtain ⟨y, rfl, hr⟩ := xvr_i hr
      unfold am_stp; rw [hd]; exact ⟨y, hm, (xg (G _ List.mem_cons_self) hxs hE hH hl ⟨hr, hs⟩ hf')⟩
    · cases hx
  · cases hx
theorem xone_istore {a0 : Nat} (hx : xd_istore m pc l C S fs h E a0 len st = some ss) (hm : m < xm_n) (hd : decode (xc m) pc = .ok (.istore a0, len)) (G : ∀ s' ∈ ss, XGood n s') (hxs : XX L xs σ) (hE : xer σ E) (hH : xhr σ b Z ws h) (hl : xlr σ b (xads ws) lv l) (hs : xsr σ b (xads ws) vs st) (hf : xfr σ b (xads ws) (n + 1) cfs fs) : XR L Z b xs m cfs (n + 1) pc lv vs ws C S := by
  have hf' := xfr_le (Nat.le_succ n) hf
  show am_stp Z _ _ _ _ _ _ _ _ _ _ (XR L Z b xs m cfs n) pc lv vs ws C S ∨ _
  refine Or.inl ?_
  unfold xd_istore at hx
  revert hs hd
  split at hx
  · rename_i x r
    intro hd hs
    unfold xst_9 at hx
    replace hx := xcond hx; obtain ⟨hb, hx⟩ := hx
    cases hx
    replace hs := xsr_c hs; obtain ⟨v, vr, rfl, hv, hs⟩ := hs
    obtain ⟨y, rfl, hv⟩ := xvr_i hv
    unfold am_stp; rw [hd]; exact ⟨y, vr, rfl, Nat.lt_of_lt_of_le (Nat.lt_succ_self _) (Nat.le_of_ble_eq_true hb), (xg (G _ List.mem_cons_self) hxs hE hH (xlr_xs1 hl hv) hs hf')⟩
  · cases hx
theorem xone_istore_n {a0 : Fin 4} (hx : xd_istore_n m pc l C S fs h E a0 len st = some ss) (hm : m < xm_n) (hd : decode (xc m) pc = .ok (.istore_n a0, len)) (G : ∀ s' ∈ ss, XGood n s') (hxs : XX L xs σ) (hE : xer σ E) (hH : xhr σ b Z ws h) (hl : xlr σ b (xads ws) lv l) (hs : xsr σ b (xads ws) vs st) (hf : xfr σ b (xads ws) (n + 1) cfs fs) : XR L Z b xs m cfs (n + 1) pc lv vs ws C S := by
  have hf' := xfr_le (Nat.le_succ n) hf
  show am_stp Z _ _ _ _ _ _ _ _ _ _ (XR L Z b xs m cfs n) pc lv vs ws C S ∨ _
  refine Or.inl ?_
  unfold xd_istore_n at hx
  revert hs hd
  split at hx
  · rename_i x r
    intro hd hs
    unfold xst_10 at hx
    replace hx := xcond hx; obtain ⟨hb, hx⟩ := hx
    cases hx
    replace hs := xsr_c hs; obtain ⟨v, vr, rfl, hv, hs⟩ := hs
    obtain ⟨y, rfl, hv⟩ := xvr_i hv
    unfold am_stp; rw [hd]; exact ⟨y, vr, rfl, Nat.lt_of_lt_of_le (Nat.lt_succ_self _) (Nat.le_of_ble_eq_true hb), (xg (G _ List.mem_cons_self) hxs hE hH (xlr_xs1 hl hv) hs hf')⟩
  · cases hx
theorem xone_lload_n {a0 : Fin 4} (hx : xd_lload_n m pc l C S fs h E a0 len st = some ss) (hm : m < xm_n) (hd : decode (xc m) pc = .ok (.lload_n a0, len)) (G : ∀ s' ∈ ss, XGood n s') (hxs : XX L xs σ) (hE : xer σ E) (hH : xhr σ b Z ws h) (hl : xlr σ b (xads ws) lv l) (hs : xsr σ b (xads ws) vs st) (hf : xfr σ b (xads ws) (n + 1) cfs fs) : XR L Z b xs m cfs (n + 1) pc lv vs ws C S := by
  have hf' := xfr_le (Nat.le_succ n) hf
  show am_stp Z _ _ _ _ _ _ _ _ _ _ (XR L Z b xs m cfs n) pc lv vs ws C S ∨ _
  refine Or.inl ?_
  unfold xd_lload_n at hx
  revert hs hd
  split at hx
  · rename_i st
    intro hd hs
    unfold xst_12 at hx
    split at hx
    · rename_i x hv
      cases hx
      obtain ⟨v, hm, hr⟩ := hl _ _ (xlook_mem hv)
      obtain ⟨y, rfl, hr⟩ := xvr_l hr
      unfold am_stp; rw [hd]; exact ⟨y, hm, (xg (G _ List.mem_cons_self) hxs hE hH hl ⟨hr, hs⟩ hf')⟩
    · cases hx
  · cases hx
theorem xone_aload_n {a0 : Fin 4} (hx : xd_aload_n m pc l C S fs h E a0 len st = some ss) (hm : m < xm_n) (hd : decode (xc m) pc = .ok (.aload_n a0, len)) (G : ∀ s' ∈ ss, XGood n s') (hxs : XX L xs σ) (hE : xer σ E) (hH : xhr σ b Z ws h) (hl : xlr σ b (xads ws) lv l) (hs : xsr σ b (xads ws) vs st) (hf : xfr σ b (xads ws) (n + 1) cfs fs) : XR L Z b xs m cfs (n + 1) pc lv vs ws C S := by
  have hf' := xfr_le (Nat.le_succ n) hf
  show am_stp Z _ _ _ _ _ _ _ _ _ _ (XR L Z b xs m cfs n) pc lv vs ws C S ∨ _
  refine Or.inl ?_
  unfold xd_aload_n at hx
  revert hs hd
  split at hx
  · rename_i st
    intro hd hs
    unfold xst_16 at hx
    split at hx
    · rename_i x hv
      cases hx
      obtain ⟨v, hm, hr⟩ := hl _ _ (xlook_mem hv)
      obtain ⟨y, rfl, hr⟩ := xvr_a hr
      unfold am_stp; rw [hd]; exact ⟨y, hm, (xg (G _ List.mem_cons_self) hxs hE hH hl ⟨hr, hs⟩ hf')⟩
    · cases hx
  · cases hx
theorem xone_astore_n {a0 : Fin 4} (hx : xd_astore_n m pc l C S fs h E a0 len st = some ss) (hm : m < xm_n) (hd : decode (xc m) pc = .ok (.astore_n a0, len)) (G : ∀ s' ∈ ss, XGood n s') (hxs : XX L xs σ) (hE : xer σ E) (hH : xhr σ b Z ws h) (hl : xlr σ b (xads ws) lv l) (hs : xsr σ b (xads ws) vs st) (hf : xfr σ b (xads ws) (n + 1) cfs fs) : XR L Z b xs m cfs (n + 1) pc lv vs ws C S := by
  have hf' := xfr_le (Nat.le_succ n) hf
  show am_stp Z _ _ _ _ _ _ _ _ _ _ (XR L Z b xs m cfs n) pc lv vs ws C S ∨ _
  refine Or.inl ?_
  unfold xd_astore_n at hx
  revert hs hd
  split at hx
  · rename_i x r
    intro hd hs
    unfold xst_18 at hx
    replace hx := xcond hx; obtain ⟨hb, hx⟩ := hx
    cases hx
    replace hs := xsr_c hs; obtain ⟨v, vr, rfl, hv, hs⟩ := hs
    obtain ⟨y, rfl, hv⟩ := xvr_a hv
    unfold am_stp; rw [hd]; exact ⟨y, vr, rfl, Nat.lt_of_lt_of_le (Nat.lt_succ_self _) (Nat.le_of_ble_eq_true hb), (xg (G _ List.mem_cons_self) hxs hE hH (xlr_xs1 hl hv) hs hf')⟩
  · cases hx
theorem xone_iinc {a0 : Nat} {a1 : Int} (hx : xd_iinc m pc l C S fs h E a0 a1 len st = some ss) (hm : m < xm_n) (hd : decode (xc m) pc = .ok (.iinc a0 a1, len)) (G : ∀ s' ∈ ss, XGood n s') (hxs : XX L xs σ) (hE : xer σ E) (hH : xhr σ b Z ws h) (hl : xlr σ b (xads ws) lv l) (hs : xsr σ b (xads ws) vs st) (hf : xfr σ b (xads ws) (n + 1) cfs fs) : XR L Z b xs m cfs (n + 1) pc lv vs ws C S := by
  have hf' := xfr_le (Nat.le_succ n) hf
  show am_stp Z _ _ _ _ _ _ _ _ _ _ (XR L Z b xs m cfs n) pc lv vs ws C S ∨ _
  refine Or.inl ?_
  unfold xd_iinc at hx
  revert hs hd
  split at hx
  · rename_i st
    intro hd hs
    unfold xst_19 at hx
    split at hx
    · rename_i x hv
      replace hx := xcond hx; obtain ⟨hb, hx⟩ := hx
      cases hx
      obtain ⟨v, hm, hr⟩ := hl _ _ (xlook_mem hv)
      obtain ⟨y, rfl, y2, he, hr⟩ := xvr_i hr
      cases he
      unfold am_stp; rw [hd]; exact ⟨y, hm, Nat.lt_of_lt_of_le (Nat.lt_succ_self _) (Nat.le_of_ble_eq_true hb), (xg (G _ List.mem_cons_self) hxs hE hH (xlr_xs1 hl ⟨_, rfl, xir_add hr rfl⟩) hs hf')⟩
    · cases hx
  · cases hx
theorem xone_iand (hx : xd_iand m pc l C S fs h E  len st = some ss) (hm : m < xm_n) (hd : decode (xc m) pc = .ok (.iand , len)) (G : ∀ s' ∈ ss, XGood n s') (hxs : XX L xs σ) (hE : xer σ E) (hH : xhr σ b Z ws h) (hl : xlr σ b (xads ws) lv l) (hs : xsr σ b (xads ws) vs st) (hf : xfr σ b (xads ws) (n + 1) cfs fs) : XR L Z b xs m cfs (n + 1) pc lv vs ws C S := by
  have hf' := xfr_le (Nat.le_succ n) hf
  show am_stp Z _ _ _ _ _ _ _ _ _ _ (XR L Z b xs m cfs n) pc lv vs ws C S ∨ _
  refine Or.inl ?_
  unfold xd_iand at hx
  revert hs hd
  split at hx
  · rename_i y x r
    intro hd hs
    unfold xst_21 at hx
    cases hx; replace hs := xsr_i hs; obtain ⟨y1, v1, rfl, hy, hs⟩ := hs; replace hs := xsr_i hs; obtain ⟨x1, v2, rfl, hx1, hs⟩ := hs; unfold am_stp; rw [hd]; exact ⟨x1, y1, v2, rfl, (xg (G _ List.mem_cons_self) hxs hE hH hl ⟨⟨_, rfl, xir_and hE hx1 hy⟩, hs⟩ hf')⟩
  · cases hx
theorem xone_isub (hx : xd_isub m pc l C S fs h E  len st = some ss) (hm : m < xm_n) (hd : decode (xc m) pc = .ok (.isub , len)) (G : ∀ s' ∈ ss, XGood n s') (hxs : XX L xs σ) (hE : xer σ E) (hH : xhr σ b Z ws h) (hl : xlr σ b (xads ws) lv l) (hs : xsr σ b (xads ws) vs st) (hf : xfr σ b (xads ws) (n + 1) cfs fs) : XR L Z b xs m cfs (n + 1) pc lv vs ws C S := by
  have hf' := xfr_le (Nat.le_succ n) hf
  show am_stp Z _ _ _ _ _ _ _ _ _ _ (XR L Z b xs m cfs n) pc lv vs ws C S ∨ _
  refine Or.inl ?_
  unfold xd_isub at hx
  revert hs hd
  split at hx
  · rename_i y x r
    intro hd hs
    unfold xst_22 at hx
    cases hx; replace hs := xsr_i hs; obtain ⟨y1, v1, rfl, hy, hs⟩ := hs; replace hs := xsr_i hs; obtain ⟨x1, v2, rfl, hx1, hs⟩ := hs; unfold am_stp; rw [hd]; exact ⟨x1, y1, v2, rfl, (xg (G _ List.mem_cons_self) hxs hE hH hl ⟨⟨_, rfl, xir_bin (f := fun x y => x - y) hx1 hy⟩, hs⟩ hf')⟩
  · cases hx
theorem xone_dup (hx : xd_dup m pc l C S fs h E  len st = some ss) (hm : m < xm_n) (hd : decode (xc m) pc = .ok (.dup , len)) (G : ∀ s' ∈ ss, XGood n s') (hxs : XX L xs σ) (hE : xer σ E) (hH : xhr σ b Z ws h) (hl : xlr σ b (xads ws) lv l) (hs : xsr σ b (xads ws) vs st) (hf : xfr σ b (xads ws) (n + 1) cfs fs) : XR L Z b xs m cfs (n + 1) pc lv vs ws C S := by
  have hf' := xfr_le (Nat.le_succ n) hf
  show am_stp Z _ _ _ _ _ _ _ _ _ _ (XR L Z b xs m cfs n) pc lv vs ws C S ∨ _
  refine Or.inl ?_
  unfold xd_dup at hx
  revert hs hd
  split at hx
  · rename_i v r
    intro hd hs
    unfold xst_48 at hx
    replace hx := xcondn hx; obtain ⟨hb, hx⟩ := hx; cases hx; replace hs := xsr_c hs; obtain ⟨v1, v2, rfl, hv, hs⟩ := hs; unfold am_stp; rw [hd]; exact ⟨v1, v2, rfl, xvr_c1 hv hb, (xg (G _ List.mem_cons_self) hxs hE hH hl ⟨hv, hv, hs⟩ hf')⟩
  · cases hx
theorem xone_if_icmp {a0 : Jvm.ClassFile.Cond} {a1 : Int} (hx : xd_if_icmp m pc l C S fs h E a0 a1 len st = some ss) (hm : m < xm_n) (hd : decode (xc m) pc = .ok (.if_icmp a0 a1, len)) (G : ∀ s' ∈ ss, XGood n s') (hxs : XX L xs σ) (hE : xer σ E) (hH : xhr σ b Z ws h) (hl : xlr σ b (xads ws) lv l) (hs : xsr σ b (xads ws) vs st) (hf : xfr σ b (xads ws) (n + 1) cfs fs) : XR L Z b xs m cfs (n + 1) pc lv vs ws C S := by
  have hf' := xfr_le (Nat.le_succ n) hf
  show am_stp Z _ _ _ _ _ _ _ _ _ _ (XR L Z b xs m cfs n) pc lv vs ws C S ∨ _
  refine Or.inl ?_
  unfold xd_if_icmp at hx
  revert hs hd
  split at hx
  · rename_i y x r
    intro hd hs
    unfold xst_58 at hx
    replace hs := xsr_i hs; obtain ⟨y1, v1, rfl, hy, hs⟩ := hs; replace hs := xsr_i hs; obtain ⟨x1, v2, rfl, hx1, hs⟩ := hs; unfold am_stp; rw [hd]; exact xjmp1 (o := 0) hx G hxs hE hx1 hy hH hl hs hf' (fun h0 h1 h2 => ⟨x1, y1, v2, rfl, h0, h1, h2⟩)
  · rename_i y x r
    intro hd hs
    unfold xst_59 at hx
    replace hs := xsr_i hs; obtain ⟨y1, v1, rfl, hy, hs⟩ := hs; replace hs := xsr_i hs; obtain ⟨x1, v2, rfl, hx1, hs⟩ := hs; unfold am_stp; rw [hd]; exact xjmp1 (o := 1) hx G hxs hE hx1 hy hH hl hs hf' (fun h0 h1 h2 => ⟨x1, y1, v2, rfl, h0, h1, fun z => h2 (not_not_intro z)⟩)
  · rename_i y x r
    intro hd hs
    unfold xst_60 at hx
    replace hs := xsr_i hs; obtain ⟨y1, v1, rfl, hy, hs⟩ := hs; replace hs := xsr_i hs; obtain ⟨x1, v2, rfl, hx1, hs⟩ := hs; unfold am_stp; rw [hd]; exact xjmp1 (o := 2) hx G hxs hE hx1 hy hH hl hs hf' (fun h0 h1 h2 => ⟨x1, y1, v2, rfl, h0, h1, h2⟩)
  · rename_i y x r
    intro hd hs
    unfold xst_61 at hx
    replace hs := xsr_i hs; obtain ⟨y1, v1, rfl, hy, hs⟩ := hs; replace hs := xsr_i hs; obtain ⟨x1, v2, rfl, hx1, hs⟩ := hs; unfold am_stp; rw [hd]; exact xjmp1 (o := 3) hx G hxs hE hx1 hy hH hl hs hf' (fun h0 h1 h2 => ⟨x1, y1, v2, rfl, h0, h1, h2⟩)
  · rename_i y x r
    intro hd hs
    unfold xst_62 at hx
    replace hs := xsr_i hs; obtain ⟨y1, v1, rfl, hy, hs⟩ := hs; replace hs := xsr_i hs; obtain ⟨x1, v2, rfl, hx1, hs⟩ := hs; unfold am_stp; rw [hd]; exact xjmp1 (o := 4) hx G hxs hE hx1 hy hH hl hs hf' (fun h0 h1 h2 => ⟨x1, y1, v2, rfl, h0, h1, h2⟩)
  · rename_i y x r
    intro hd hs
    unfold xst_63 at hx
    replace hs := xsr_i hs; obtain ⟨y1, v1, rfl, hy, hs⟩ := hs; replace hs := xsr_i hs; obtain ⟨x1, v2, rfl, hx1, hs⟩ := hs; unfold am_stp; rw [hd]; exact xjmp1 (o := 5) hx G hxs hE hx1 hy hH hl hs hf' (fun h0 h1 h2 => ⟨x1, y1, v2, rfl, h0, h1, h2⟩)
  · cases hx
theorem xone_goto {a0 : Int} (hx : xd_goto m pc l C S fs h E a0 len st = some ss) (hm : m < xm_n) (hd : decode (xc m) pc = .ok (.goto a0, len)) (G : ∀ s' ∈ ss, XGood n s') (hxs : XX L xs σ) (hE : xer σ E) (hH : xhr σ b Z ws h) (hl : xlr σ b (xads ws) lv l) (hs : xsr σ b (xads ws) vs st) (hf : xfr σ b (xads ws) (n + 1) cfs fs) : XR L Z b xs m cfs (n + 1) pc lv vs ws C S := by
  have hf' := xfr_le (Nat.le_succ n) hf
  show am_stp Z _ _ _ _ _ _ _ _ _ _ (XR L Z b xs m cfs n) pc lv vs ws C S ∨ _
  refine Or.inl ?_
  unfold xd_goto at hx
  revert hs hd
  split at hx
  · rename_i st
    intro hd hs
    unfold xst_64 at hx
    split at hx
    · rename_i t ht
      cases hx
      obtain ⟨h0, rfl⟩ := xtgt_ok ht
      unfold am_stp; rw [hd]; exact ⟨h0, (xg (G _ List.mem_cons_self) hxs hE hH hl hs hf')⟩
    · cases hx
  · cases hx
theorem xone_tableswitch {a0 : Int} {a1 : Int} {a2 : Int} {a3 : Array Int} (hx : xd_tableswitch m pc l C S fs h E a0 a1 a2 a3 len st = some ss) (hm : m < xm_n) (hd : decode (xc m) pc = .ok (.tableswitch a0 a1 a2 a3, len)) (G : ∀ s' ∈ ss, XGood n s') (hxs : XX L xs σ) (hE : xer σ E) (hH : xhr σ b Z ws h) (hl : xlr σ b (xads ws) lv l) (hs : xsr σ b (xads ws) vs st) (hf : xfr σ b (xads ws) (n + 1) cfs fs) : XR L Z b xs m cfs (n + 1) pc lv vs ws C S := by
  have hf' := xfr_le (Nat.le_succ n) hf
  show am_stp Z _ _ _ _ _ _ _ _ _ _ (XR L Z b xs m cfs n) pc lv vs ws C S ∨ _
  refine Or.inl ?_
  unfold xd_tableswitch at hx
  revert hs hd
  split at hx
  · rename_i w9 x r
    intro hd hs
    unfold xst_65 at hx
    replace hs := xsr_i hs; obtain ⟨x1, v1, rfl, hx1, hs⟩ := hs; unfold am_stp; rw [hd]; exact xswitch_ok hx G hxs hE hx1 hH hl hs hf'
  · cases hx
theorem xone_getfield {a0 : Nat} (hx : xd_getfield m pc l C S fs h E a0 len st = some ss) (hm : m < xm_n) (hd : decode (xc m) pc = .ok (.getfield a0, len)) (G : ∀ s' ∈ ss, XGood n s') (hxs : XX L xs σ) (hE : xer σ E) (hH : xhr σ b Z ws h) (hl : xlr σ b (xads ws) lv l) (hs : xsr σ b (xads ws) vs st) (hf : xfr σ b (xads ws) (n + 1) cfs fs) : XR L Z b xs m cfs (n + 1) pc lv vs ws C S := by
  have hf' := xfr_le (Nat.le_succ n) hf
  show am_stp Z _ _ _ _ _ _ _ _ _ _ (XR L Z b xs m cfs n) pc lv vs ws C S ∨ _
  refine Or.inl ?_
  unfold xd_getfield at hx
  revert hs hd
  split at hx
  · rename_i a r
    intro hd hs
    unfold xst_67 at hx
    split at hx
    · rename_i ci fv hha
      replace hha := xoc_w hha
      split at hx
      · rename_i cj k p9 hf9
        replace hx := xcond hx; obtain ⟨hb, hx⟩ := hx
        have hb := Nat.eq_of_beq_eq_true hb
        subst hb
        split at hx
        · rename_i v hv
          cases hx
          replace hs := xsr_c hs; obtain ⟨v1, v2, rfl, hv1, hs⟩ := hs
          obtain ⟨a1, rfl, ha⟩ := hv1
          obtain ⟨fs1, he, hfs⟩ := xhr_o hH ha hha
          obtain ⟨Cn, T, N, hcl, hk, hw⟩ := xf_w hm hf9
          obtain ⟨w, hw1, hw2⟩ := xor_get hfs hcl hk hv
          unfold am_stp; rw [hd]; exact Or.inl ⟨a1, v2, a, ci, fs1, Cn, T, N, k, w, rfl, he, hcl, hk, hw, hw1, (xg (G _ List.mem_cons_self) hxs hE hH hl ⟨hw2, hs⟩ hf')⟩
        · cases hx
      · cases hx
    · cases hx
  · cases hx
theorem xone_putfield {a0 : Nat} (hx : xd_putfield m pc l C S fs h E a0 len st = some ss) (hm : m < xm_n) (hd : decode (xc m) pc = .ok (.putfield a0, len)) (G : ∀ s' ∈ ss, XGood n s') (hxs : XX L xs σ) (hE : xer σ E) (hH : xhr σ b Z ws h) (hl : xlr σ b (xads ws) lv l) (hs : xsr σ b (xads ws) vs st) (hf : xfr σ b (xads ws) (n + 1) cfs fs) : XR L Z b xs m cfs (n + 1) pc lv vs ws C S := by
  have hf' := xfr_le (Nat.le_succ n) hf
  show am_stp Z _ _ _ _ _ _ _ _ _ _ (XR L Z b xs m cfs n) pc lv vs ws C S ∨ _
  refine Or.inl ?_
  unfold xd_putfield at hx
  revert hs hd
  split at hx
  · rename_i v a r
    intro hd hs
    unfold xst_68 at hx
    split at hx
    · rename_i ci fv hha
      replace hha := xoc_w hha
      split at hx
      · rename_i cj k p9 hf9
        replace hx := xcond hx; obtain ⟨hb, hx⟩ := hx
        have hb1 := Nat.eq_of_beq_eq_true hb
        subst hb1
        split at hx
        · rename_i ty fin hty
          replace hx := xcond hx; obtain ⟨hb2, hx⟩ := hx
          rw [Bool.and_eq_true] at hb2
          cases hx
          replace hs := xsr_c hs; obtain ⟨v1, v2, rfl, hv1, hs⟩ := hs
          replace hs := xsr_c hs; obtain ⟨w1, w2, rfl, hw1, hs⟩ := hs
          obtain ⟨a1, rfl, ha⟩ := hw1
          obtain ⟨fs1, he, hfs⟩ := xhr_o hH ha hha
          obtain ⟨Cn, T, N, hcl, hk, hw⟩ := xf_w hm hf9
          have hlen := xor_len hfs hcl
          obtain ⟨hn1, hn2, hn3⟩ := xt_w hcl (xtL_xt hcl hk hty) hv1 hb2.1
          unfold am_stp; rw [hd]; exact ⟨a1, w2, a, ci, fs1, Cn, T, N, k, v1, rfl, he, hcl, hk, hw, by rw [hlen]; exact hk, hn1, hn2, fun z => xfin_ok hn3 z hb2.2 hcl hk, (xg (G _ List.mem_cons_self) hxs hE (xhr_seto hH he hfs hcl hk hv1) (by rw [xads_eq he]; exact hl) (by rw [xads_eq he]; exact hs) (by rw [xads_eq he]; exact hf'))⟩
        · cases hx
      · cases hx
    · cases hx
  · cases hx
theorem xone_iaload (hx : xd_iaload m pc l C S fs h E  len st = some ss) (hm : m < xm_n) (hd : decode (xc m) pc = .ok (.iaload , len)) (G : ∀ s' ∈ ss, XGood n s') (hxs : XX L xs σ) (hE : xer σ E) (hH : xhr σ b Z ws h) (hl : xlr σ b (xads ws) lv l) (hs : xsr σ b (xads ws) vs st) (hf : xfr σ b (xads ws) (n + 1) cfs fs) : XR L Z b xs m cfs (n + 1) pc lv vs ws C S := by
  have hf' := xfr_le (Nat.le_succ n) hf
  show am_stp Z _ _ _ _ _ _ _ _ _ _ (XR L Z b xs m cfs n) pc lv vs ws C S ∨ _
  refine Or.inl ?_
  unfold xd_iaload at hx
  revert hs hd
  split at hx
  · rename_i c r
    intro hd hs
    unfold xst_69 at hx
    split at hx
    · rename_i lo hi9 h7
      replace hx := xcond hx; obtain ⟨hb, hx⟩ := hx
      cases hx
      simp only [Bool.and_eq_true] at hb
      replace hs := xsr_i hs; obtain ⟨x1, v1, rfl, hx1, hs⟩ := hs
      cases hx1
      replace hs := xsr_c hs; obtain ⟨w1, w2, rfl, hw1, hs⟩ := hs
      cases hw1
      have hc := of_decide_eq_true hb.1.1
      have h8 := (hE.1 7 _ h7).1
      rw [xlen7 hxs] at h8
      have hin : vp_in c L := vp_in_iff.mpr ⟨hc.1, Int.lt_of_lt_of_le hc.2 h8⟩
      have hlt : c.toNatClampNeg < L := Nat.not_le.mp fun q => hin (Or.inr q)
      unfold am_stp; rw [hd]; exact Or.inl ⟨b, L, xs, c, w2, if_pos (Nat.eq_of_beq_eq_true hb.1.2), rfl, hin, (xg (G _ List.mem_cons_self) hxs hE hH hl ⟨⟨_, rfl, hxs.1 _ (Nat.le_of_ble_eq_true hb.2)⟩, hs⟩ hf')⟩
    · cases hx
  · rename_i x a r
    intro hd hs
    unfold xst_70 at hx
    split at hx
    · rename_i tg9 n9 d ms hha
      replace hx := xcond hx; obtain ⟨hb9, hx⟩ := hx
      have hb9 := Nat.eq_of_beq_eq_true hb9
      subst hb9
      replace hha := xac_w hha
      split at hx
      · rename_i v hv
        cases hx
        replace hs := xsr_i hs; obtain ⟨x1, v1, rfl, hx1, hs⟩ := hs
        replace hs := xsr_c hs; obtain ⟨w1, w2, rfl, hw1, hs⟩ := hs
        obtain ⟨a1, rfl, ha⟩ := hw1
        obtain ⟨f, he, hcap, hfv⟩ := xhr_0 hH ha hha
        obtain ⟨hin, hrd⟩ := xread_ok hE hx1 hv
        unfold am_stp; rw [hd]; exact Or.inr ⟨a1, x1, w2, a, n9, f, rfl, he, hin, (xg (G _ List.mem_cons_self) hxs hE hH hl ⟨hrd _ (hfv _ (xin_lt hin)), hs⟩ hf')⟩
      · cases hx
    · cases hx
  · cases hx
theorem xone_iastore (hx : xd_iastore m pc l C S fs h E  len st = some ss) (hm : m < xm_n) (hd : decode (xc m) pc = .ok (.iastore , len)) (G : ∀ s' ∈ ss, XGood n s') (hxs : XX L xs σ) (hE : xer σ E) (hH : xhr σ b Z ws h) (hl : xlr σ b (xads ws) lv l) (hs : xsr σ b (xads ws) vs st) (hf : xfr σ b (xads ws) (n + 1) cfs fs) : XR L Z b xs m cfs (n + 1) pc lv vs ws C S := by
  have hf' := xfr_le (Nat.le_succ n) hf
  show am_stp Z _ _ _ _ _ _ _ _ _ _ (XR L Z b xs m cfs n) pc lv vs ws C S ∨ _
  refine Or.inl ?_
  unfold xd_iastore at hx
  revert hs hd
  split at hx
  · rename_i v c a r
    intro hd hs
    unfold xst_74 at hx
    split at hx
    · rename_i tg9 n9 d ms hha
      replace hx := xcond hx; obtain ⟨hb, hx⟩ := hx
      rw [Bool.and_eq_true] at hb
      have hb9 := Nat.eq_of_beq_eq_true hb.1
      subst hb9
      replace hha := xac_w hha
      cases hx
      replace hs := xsr_i hs; obtain ⟨x1, v1, rfl, hx1, hs⟩ := hs
      replace hs := xsr_i hs; obtain ⟨j1, v2, rfl, hj1, hs⟩ := hs
      cases hj1
      replace hs := xsr_c hs; obtain ⟨w1, w2, rfl, hw1, hs⟩ := hs
      obtain ⟨a1, rfl, ha⟩ := hw1
      obtain ⟨f, he, hcap, hfv⟩ := xhr_0 hH ha hha
      have hin : vp_in c n9 := vp_in_iff.mpr (of_decide_eq_true hb.2)
      unfold am_stp; rw [hd]; exact ⟨a1, c, x1, w2, a, n9, f, rfl, he, hin, (xg (G _ List.mem_cons_self) hxs hE (xhr_set0 hH he hcap hfv (xin_lt hin) ⟨_, rfl, xir_nar0 hx1⟩) (by rw [xads_eq he]; exact hl) (by rw [xads_eq he]; exact hs) (by rw [xads_eq he]; exact hf'))⟩
    · cases hx
  · cases hx
theorem xone_lastore (hx : xd_lastore m pc l C S fs h E  len st = some ss) (hm : m < xm_n) (hd : decode (xc m) pc = .ok (.lastore , len)) (G : ∀ s' ∈ ss, XGood n s') (hxs : XX L xs σ) (hE : xer σ E) (hH : xhr σ b Z ws h) (hl : xlr σ b (xads ws) lv l) (hs : xsr σ b (xads ws) vs st) (hf : xfr σ b (xads ws) (n + 1) cfs fs) : XR L Z b xs m cfs (n + 1) pc lv vs ws C S := by
  have hf' := xfr_le (Nat.le_succ n) hf
  show am_stp Z _ _ _ _ _ _ _ _ _ _ (XR L Z b xs m cfs n) pc lv vs ws C S ∨ _
  refine Or.inl ?_
  unfold xd_lastore at hx
  revert hs hd
  split at hx
  · rename_i v c a r
    intro hd hs
    unfold xst_77 at hx
    split at hx
    · rename_i tg9 n9 d ms hha
      replace hx := xcond hx; obtain ⟨hb, hx⟩ := hx
      rw [Bool.and_eq_true] at hb
      have hb9 := Nat.eq_of_beq_eq_true hb.1
      subst hb9
      replace hha := xac_w hha
      cases hx
      replace hs := xsr_l hs; obtain ⟨x1, v1, rfl, hx1, hs⟩ := hs
      replace hs := xsr_i hs; obtain ⟨j1, v2, rfl, hj1, hs⟩ := hs
      cases hj1
      replace hs := xsr_c hs; obtain ⟨w1, w2, rfl, hw1, hs⟩ := hs
      obtain ⟨a1, rfl, ha⟩ := hw1
      obtain ⟨f, he, hcap, hfv⟩ := xhr_1 hH ha hha
      have hin : vp_in c n9 := vp_in_iff.mpr (of_decide_eq_true hb.2)
      unfold am_stp; rw [hd]; exact ⟨a1, c, x1, w2, a, n9, f, rfl, he, hin, (xg (G _ List.mem_cons_self) hxs hE (xhr_set1 hH he hcap hfv (xin_lt hin) ⟨_, rfl, hx1⟩) (by rw [xads_eq he]; exact hl) (by rw [xads_eq he]; exact hs) (by rw [xads_eq he]; exact hf'))⟩
    · cases hx
  · cases hx
theorem xone_arraylength (hx : xd_arraylength m pc l C S fs h E  len st = some ss) (hm : m < xm_n) (hd : decode (xc m) pc = .ok (.arraylength , len)) (G : ∀ s' ∈ ss, XGood n s') (hxs : XX L xs σ) (hE : xer σ E) (hH : xhr σ b Z ws h) (hl : xlr σ b (xads ws) lv l) (hs : xsr σ b (xads ws) vs st) (hf : xfr σ b (xads ws) (n + 1) cfs fs) : XR L Z b xs m cfs (n + 1) pc lv vs ws C S := by
  have hf' := xfr_le (Nat.le_succ n) hf
  show am_stp Z _ _ _ _ _ _ _ _ _ _ (XR L Z b xs m cfs n) pc lv vs ws C S ∨ _
  refine Or.inl ?_
  unfold xd_arraylength at hx
  revert hs hd
  split at hx
  · rename_i r
    intro hd hs
    unfold xst_78 at hx
    split at hx
    · rename_i lo hi9 h7
      replace hx := xcond hx; obtain ⟨hb, hx⟩ := hx
      cases hx
      simp only [Bool.and_eq_true] at hb
      replace hs := xsr_c hs; obtain ⟨w1, w2, rfl, hw1, hs⟩ := hs
      cases hw1
      have h8 := hE.1 7 _ h7
      rw [xlen7 hxs] at h8
      have h9 := of_decide_eq_true hb.1
      have h10 : lo = (L : Int) := by have h1 := h8.1; have h2 := h8.2; simp only at h1 h2; omega
      unfold am_stp; rw [hd]; exact Or.inl ⟨b, L, xs, w2, if_pos (Nat.eq_of_beq_eq_true hb.2), rfl, (xg (G _ List.mem_cons_self) hxs hE hH hl ⟨⟨_, rfl, by rw [h10]; exact xofL hxs⟩, hs⟩ hf')⟩
    · cases hx
  · rename_i a r
    intro hd hs
    unfold xst_79 at hx
    split at hx
    · rename_i tg n9 d ms hha
      replace hx := xcond hx; obtain ⟨hb, hx⟩ := hx
      replace hha := xac_w hha
      cases hx
      replace hs := xsr_c hs; obtain ⟨w1, w2, rfl, hw1, hs⟩ := hs
      obtain ⟨a1, rfl, ha⟩ := hw1
      obtain ⟨cA, x, t, ty, he, hty, hn9⟩ := xhr_len hH ha hha
      subst hn9
      unfold am_stp; rw [hd]; exact Or.inr (Or.inl ⟨a1, w2, a, cA, x, t, ty, rfl, he, hty, (xg (G _ List.mem_cons_self) hxs hE hH hl ⟨⟨_, rfl, rfl⟩, hs⟩ hf')⟩)
    · cases hx
  · cases hx
theorem xone_new {a0 : Nat} (hx : xd_new m pc l C S fs h E a0 len st = some ss) (hm : m < xm_n) (hd : decode (xc m) pc = .ok (.new a0, len)) (G : ∀ s' ∈ ss, XGood n s') (hxs : XX L xs σ) (hE : xer σ E) (hH : xhr σ b Z ws h) (hl : xlr σ b (xads ws) lv l) (hs : xsr σ b (xads ws) vs st) (hf : xfr σ b (xads ws) (n + 1) cfs fs) : XR L Z b xs m cfs (n + 1) pc lv vs ws C S := by
  have hf' := xfr_le (Nat.le_succ n) hf
  show am_stp Z _ _ _ _ _ _ _ _ _ _ (XR L Z b xs m cfs n) pc lv vs ws C S ∨ _
  refine Or.inl ?_
  unfold xd_new at hx
  revert hs hd
  split at hx
  · rename_i st
    intro hd hs
    unfold xst_80 at hx
    split at hx
    · rename_i ci p9 hw9
      replace hx := xcond hx; obtain ⟨hb, hx⟩ := hx
      simp only [Bool.and_eq_true] at hb
      cases hx
      obtain ⟨Cn, T, N, hcl, hw, hN⟩ := xw_w hm hw9
      subst hN
      unfold am_stp; rw [hd]; refine ⟨ci, Cn, T, _, hcl, hw, Nat.le_of_ble_eq_true hb.1.1, Nat.le_of_ble_eq_true hb.1.2, fun q hq => ?_⟩
      exact (xg (G _ List.mem_cons_self) hxs hE (xhr_app hH (Nat.le_of_ble_eq_true hb.2) (xdf_o hcl)) (by rw [xads_push]; exact xlr_app q hl) ⟨xnew_ref hH, by rw [xads_push]; exact xsr_app q hs⟩ (by rw [xads_push]; exact xfr_app q hf'))
    · cases hx
  · cases hx
theorem xone_newarray {a0 : ArrayType} (hx : xd_newarray m pc l C S fs h E a0 len st = some ss) (hm : m < xm_n) (hd : decode (xc m) pc = .ok (.newarray a0, len)) (G : ∀ s' ∈ ss, XGood n s') (hxs : XX L xs σ) (hE : xer σ E) (hH : xhr σ b Z ws h) (hl : xlr σ b (xads ws) lv l) (hs : xsr σ b (xads ws) vs st) (hf : xfr σ b (xads ws) (n + 1) cfs fs) : XR L Z b xs m cfs (n + 1) pc lv vs ws C S := by
  have hf' := xfr_le (Nat.le_succ n) hf
  show am_stp Z _ _ _ _ _ _ _ _ _ _ (XR L Z b xs m cfs n) pc lv vs ws C S ∨ _
  refine Or.inl ?_
  unfold xd_newarray at hx
  revert hs hd
  split at hx
  · rename_i c r
    intro hd hs
    unfold xst_81 at hx
    replace hx := xcond hx; obtain ⟨hb, hx⟩ := hx
    simp only [Bool.and_eq_true] at hb
    cases hx
    replace hs := xsr_i hs; obtain ⟨x1, v1, rfl, hx1, hs⟩ := hs
    cases hx1
    unfold am_stp; rw [hd]; refine ⟨c, v1, rfl, xpos (of_decide_eq_true hb.1.1.1.1), Nat.le_trans (Nat.le_of_ble_eq_true hb.1.1.1.2) (by decide), Nat.le_of_ble_eq_true hb.1.1.2, Nat.le_of_ble_eq_true hb.1.2, fun q hq => ?_⟩
    exact (xg (G _ List.mem_cons_self) hxs hE (xhr_app hH (Nat.le_of_ble_eq_true hb.2) (xarr_0 (Nat.le_of_ble_eq_true hb.1.1.1.2))) (by rw [xads_push]; exact xlr_app q hl) ⟨xnew_ref hH, by rw [xads_push]; exact xsr_app q hs⟩ (by rw [xads_push]; exact xfr_app q hf'))
  · rename_i c r
    intro hd hs
    unfold xst_82 at hx
    replace hx := xcond hx; obtain ⟨hb, hx⟩ := hx
    simp only [Bool.and_eq_true] at hb
    cases hx
    replace hs := xsr_i hs; obtain ⟨x1, v1, rfl, hx1, hs⟩ := hs
    cases hx1
    unfold am_stp; rw [hd]; refine ⟨c, v1, rfl, xpos (of_decide_eq_true hb.1.1.1.1), Nat.le_trans (Nat.le_of_ble_eq_true hb.1.1.1.2) (by decide), Nat.le_of_ble_eq_true hb.1.1.2, Nat.le_of_ble_eq_true hb.1.2, fun q hq => ?_⟩
    exact (xg (G _ List.mem_cons_self) hxs hE (xhr_app hH (Nat.le_of_ble_eq_true hb.2) (xarr_1 (Nat.le_of_ble_eq_true hb.1.1.1.2))) (by rw [xads_push]; exact xlr_app q hl) ⟨xnew_ref hH, by rw [xads_push]; exact xsr_app q hs⟩ (by rw [xads_push]; exact xfr_app q hf'))
  · rename_i c r
    intro hd hs
    unfold xst_83 at hx
    replace hx := xcond hx; obtain ⟨hb, hx⟩ := hx
    simp only [Bool.and_eq_true] at hb
    cases hx
    replace hs := xsr_i hs; obtain ⟨x1, v1, rfl, hx1, hs⟩ := hs
    cases hx1
    unfold am_stp; rw [hd]; refine ⟨c, v1, rfl, xpos (of_decide_eq_true hb.1.1.1.1), Nat.le_trans (Nat.le_of_ble_eq_true hb.1.1.1.2) (by decide), Nat.le_of_ble_eq_true hb.1.1.2, Nat.le_of_ble_eq_true hb.1.2, fun q hq => ?_⟩
    exact (xg (G _ List.mem_cons_self) hxs hE (xhr_app hH (Nat.le_of_ble_eq_true hb.2) (xarr_2 (Nat.le_of_ble_eq_true hb.1.1.1.2))) (by rw [xads_push]; exact xlr_app q hl) ⟨xnew_ref hH, by rw [xads_push]; exact xsr_app q hs⟩ (by rw [xads_push]; exact xfr_app q hf'))
  · rename_i c r
    intro hd hs
    unfold xst_84 at hx
    replace hx := xcond hx; obtain ⟨hb, hx⟩ := hx
    simp only [Bool.and_eq_true] at hb
    cases hx
    replace hs := xsr_i hs; obtain ⟨x1, v1, rfl, hx1, hs⟩ := hs
    cases hx1
    unfold am_stp; rw [hd]; refine ⟨c, v1, rfl, xpos (of_decide_eq_true hb.1.1.1.1), Nat.le_trans (Nat.le_of_ble_eq_true hb.1.1.1.2) (by decide), Nat.le_of_ble_eq_true hb.1.1.2, Nat.le_of_ble_eq_true hb.1.2, fun q hq => ?_⟩
    exact (xg (G _ List.mem_cons_self) hxs hE (xhr_app hH (Nat.le_of_ble_eq_true hb.2) (xarr_3 (Nat.le_of_ble_eq_true hb.1.1.1.2))) (by rw [xads_push]; exact xlr_app q hl) ⟨xnew_ref hH, by rw [xads_push]; exact xsr_app q hs⟩ (by rw [xads_push]; exact xfr_app q hf'))
  · cases hx
theorem xone_invokevirtual {a0 : Nat} (hx : xd_invokevirtual m pc l C S fs h E a0 len st = some ss) (hm : m < xm_n) (hd : decode (xc m) pc = .ok (.invokevirtual a0, len)) (G : ∀ s' ∈ ss, XGood n s') (hxs : XX L xs σ) (hE : xer σ E) (hH : xhr σ b Z ws h) (hl : xlr σ b (xads ws) lv l) (hs : xsr σ b (xads ws) vs st) (hf : xfr σ b (xads ws) (n + 1) cfs fs) : XR L Z b xs m cfs (n + 1) pc lv vs ws C S := by
  have hf' := xfr_le (Nat.le_succ n) hf
  show am_stp Z _ _ _ _ _ _ _ _ _ _ (XR L Z b xs m cfs n) pc lv vs ws C S ∨ _
  refine Or.inl ?_
  unfold xd_invokevirtual at hx
  revert hs hd
  split at hx
  · rename_i st
    intro hd hs
    unfold xst_85 at hx
    unfold am_stp; rw [hd]; exact Or.inl (xinvV hm hx G hxs hE hH hl hs hf')
  · cases hx
theorem xone_invokestatic {a0 : Nat} (hx : xd_invokestatic m pc l C S fs h E a0 len st = some ss) (hm : m < xm_n) (hd : decode (xc m) pc = .ok (.invokestatic a0, len)) (G : ∀ s' ∈ ss, XGood n s') (hxs : XX L xs σ) (hE : xer σ E) (hH : xhr σ b Z ws h) (hl : xlr σ b (xads ws) lv l) (hs : xsr σ b (xads ws) vs st) (hf : xfr σ b (xads ws) (n + 1) cfs fs) : XR L Z b xs m cfs (n + 1) pc lv vs ws C S := by
  have hf' := xfr_le (Nat.le_succ n) hf
  show am_stp Z _ _ _ _ _ _ _ _ _ _ (XR L Z b xs m cfs n) pc lv vs ws C S ∨ _
  refine Or.inl ?_
  unfold xd_invokestatic at hx
  revert hs hd
  split at hx
  · rename_i st
    intro hd hs
    unfold xst_86 at hx
    unfold am_stp; rw [hd]; exact xinvS hm hx G hxs hE hH hl hs hf'
  · cases hx
theorem xone_invokespecial {a0 : Nat} (hx : xd_invokespecial m pc l C S fs h E a0 len st = some ss) (hm : m < xm_n) (hd : decode (xc m) pc = .ok (.invokespecial a0, len)) (G : ∀ s' ∈ ss, XGood n s') (hxs : XX L xs σ) (hE : xer σ E) (hH : xhr σ b Z ws h) (hl : xlr σ b (xads ws) lv l) (hs : xsr σ b (xads ws) vs st) (hf : xfr σ b (xads ws) (n + 1) cfs fs) : XR L Z b xs m cfs (n + 1) pc lv vs ws C S := by
  have hf' := xfr_le (Nat.le_succ n) hf
  show am_stp Z _ _ _ _ _ _ _ _ _ _ (XR L Z b xs m cfs n) pc lv vs ws C S ∨ _
  refine Or.inl ?_
  unfold xd_invokespecial at hx
  revert hs hd
  split at hx
  · rename_i st
    intro hd hs
    unfold xst_87 at hx
    unfold am_stp; rw [hd]; exact xinvI hm hx G hxs hE hH hl hs hf'
  · cases hx
theorem xone_return_ (hx : xd_return_ m pc l C S fs h E  len st = some ss) (hm : m < xm_n) (hd : decode (xc m) pc = .ok (.return_ , len)) (G : ∀ s' ∈ ss, XGood n s') (hxs : XX L xs σ) (hE : xer σ E) (hH : xhr σ b Z ws h) (hl : xlr σ b (xads ws) lv l) (hs : xsr σ b (xads ws) vs st) (hf : xfr σ b (xads ws) (n + 1) cfs fs) : XR L Z b xs m cfs (n + 1) pc lv vs ws C S := by
  have hf' := xfr_le (Nat.le_succ n) hf
  show am_stp Z _ _ _ _ _ _ _ _ _ _ (XR L Z b xs m cfs n) pc lv vs ws C S ∨ _
  refine Or.inl ?_
  unfold xd_return_ at hx
  revert hs hd
  split at hx
  · intro hd hs
    unfold xst_91 at hx
    split at hx
    · rename_i m2 pc2 l2 st2 C2 S2 f2 fs2 hr9
      cases hx
      rw [xsr_n hs]
      unfold am_stp; rw [hd]; exact ⟨rfl, hr9, xretK (x := none) (v := none) (G _ List.mem_cons_self) trivial hxs hE hH hf⟩
    · cases hx
  · cases hx
end XS1
theorem xone {s : XS} {ss : List XS} (hx : xstep s = some ss) {n : Nat} (G : ∀ s' ∈ ss, XGood n s') : XGood (n + 1) s := by
  unfold xstep at hx
  match s, hx with
  | ([], _, _), hx => cases hx
  | ((m, pc, l, st, C, S, f0) :: fs, h, E), hx =>
  intro L Z σ b xs ws lv vs cfs hxs hE hH hl hs hf
  simp only at hx
  split at hx
  · cases hx
  rename_i i0 len0 hlook
  obtain ⟨hm, hd⟩ := xi_w hlook
  clear hlook
  split at hx
  · exact xone_iconst hx hm hd G hxs hE hH hl hs hf
  · exact xone_bipush hx hm hd G hxs hE hH hl hs hf
  · exact xone_sipush hx hm hd G hxs hE hH hl hs hf
  · exact xone_lconst hx hm hd G hxs hE hH hl hs hf
  · exact xone_iload hx hm hd G hxs hE hH hl hs hf
  · exact xone_iload_n hx hm hd G hxs hE hH hl hs hf
  · exact xone_istore hx hm hd G hxs hE hH hl hs hf
  · exact xone_istore_n hx hm hd G hxs hE hH hl hs hf
  · exact xone_lload_n hx hm hd G hxs hE hH hl hs hf
  · exact xone_aload_n hx hm hd G hxs hE hH hl hs hf
  · exact xone_astore_n hx hm hd G hxs hE hH hl hs hf
  · exact xone_iinc hx hm hd G hxs hE hH hl hs hf
  · exact xone_iand hx hm hd G hxs hE hH hl hs hf
  · exact xone_isub hx hm hd G hxs hE hH hl hs hf
  · exact xone_dup hx hm hd G hxs hE hH hl hs hf
  · exact xone_if_icmp hx hm hd G hxs hE hH hl hs hf
  · exact xone_goto hx hm hd G hxs hE hH hl hs hf
  · exact xone_tableswitch hx hm hd G hxs hE hH hl hs hf
  · exact xone_getfield hx hm hd G hxs hE hH hl hs hf
  · exact xone_putfield hx hm hd G hxs hE hH hl hs hf
  · exact xone_iaload hx hm hd G hxs hE hH hl hs hf
  · exact xone_iastore hx hm hd G hxs hE hH hl hs hf
  · exact xone_lastore hx hm hd G hxs hE hH hl hs hf
  · exact xone_arraylength hx hm hd G hxs hE hH hl hs hf
  · exact xone_new hx hm hd G hxs hE hH hl hs hf
  · exact xone_newarray hx hm hd G hxs hE hH hl hs hf
  · exact xone_invokevirtual hx hm hd G hxs hE hH hl hs hf
  · exact xone_invokestatic hx hm hd G hxs hE hH hl hs hf
  · exact xone_invokespecial hx hm hd G hxs hE hH hl hs hf
  · exact xone_return_ hx hm hd G hxs hE hH hl hs hf
  · cases hx
end
section
/-! runs in stretches, and runs split by what a script's int is -/
noncomputable def xgo (n : Nat) : List XS → Option (List XS) := Nat.rec (fun w => some w) (fun _ ih w => match w with
  | [] => some []
  | s :: r => match xstep s with
    | none => none
    | some ss => ih (ss ++ r)) n
theorem XGood_mono {n k : Nat} (h : n ≤ k) : ∀ {s : XS}, XGood n s → XGood k s
  | ([], _, _), _ => trivial
  | ((m, pc, l, st, C, S, f) :: fs, hp, E), g => by
    intro L Z σ b xs ws lv vs cfs hxs hE hH hl hs hf
    exact XRun_mono h (g L Z σ b xs ws lv vs cfs hxs hE hH hl hs (xfr_le h hf))
theorem xgo_good : ∀ {n k : Nat} {w w2 : List XS}, xgo n w = some w2 → (∀ s ∈ w2, XGood k s) → ∀ s ∈ w, XGood (n + k) s := by
  intro n k
  induction n with
  | zero =>
    intro w w2 h g s hs
    have h : some w = some w2 := h
    cases h
    rw [Nat.zero_add]
    exact g s hs
  | succ n ih =>
    intro w w2 h g s hs
    match w, h, hs with
    | [], _, hs => cases hs
    | s0 :: r, h, hs =>
      have h : (match xstep s0 with
        | none => none
        | some ss => xgo n (ss ++ r)) = some w2 := h
      cases hx : xstep s0 with
      | none => rw [hx] at h; cases h
      | some ss =>
        rw [hx] at h
        have g2 := ih h g
        rw [Nat.succ_add]
        rcases List.mem_cons.mp hs with rfl | hs
        · exact xone hx (fun s' hs' => g2 s' (List.mem_append_left _ hs'))
        · exact XGood_mono (Nat.le_succ _) (g2 s (List.mem_append_right _ hs))
def xE0 : XE := [(-2147483648, 2147483647), (-2147483648, 2147483647), (-2147483648, 2147483647), (-2147483648, 2147483647), (-2147483648, 2147483647), (-2147483648, 2147483647), (0, 63), (0, 384)]
noncomputable def xstart : XS := ([(0, 0, [(0, .inr (.inr 2))], [], 600128, 7301098, 0)], (0, xtz 10), xE0)
theorem xand63 (x : Int32) : 0 ≤ (x &&& 63).toInt ∧ (x &&& 63).toInt ≤ 63 := by
  have h : (x &&& 63).toInt = ((x.toBitVec &&& 63#32).toNat : Int) := by
    have e : (x &&& 63).toBitVec = x.toBitVec &&& 63#32 := rfl
    have hl : (x.toBitVec &&& 63#32).toNat ≤ 63 := by rw [BitVec.toNat_and]; exact Nat.and_le_right
    show (x &&& 63).toBitVec.toInt = _
    rw [e, BitVec.toInt_eq_toNat_of_lt (by omega)]
  have hl : (x.toBitVec &&& 63#32).toNat ≤ 63 := by rw [BitVec.toNat_and]; exact Nat.and_le_right
  rw [h]
  omega
end
section
/-! states written down -/
noncomputable def xtdec {α : Type} (i : DecidableEq α) (d : Nat) : DecidableEq (XT α d) := @Nat.rec (fun d => DecidableEq (XT α d)) (inferInstanceAs (DecidableEq (Option α))) (fun d ih => @instDecidableEqProd (XT α d) (XT α d) ih ih) d
noncomputable def xdV : DecidableEq XV := inferInstance
noncomputable def xdA : DecidableEq XA := @instDecidableEqSum Unit _ inferInstance (@instDecidableEqSum _ _ (xtdec xdV 6) (@instDecidableEqSum _ _ (xtdec xdV 11) (xtdec xdV 18)))
noncomputable def xdC : DecidableEq XC := @instDecidableEqSum _ _ (@instDecidableEqProd _ _ inferInstance (@instDecidableEqProd _ _ inferInstance (@instDecidableEqProd _ _ xdV xdA))) (@instDecidableEqProd _ _ inferInstance (xtdec xdV 7))
noncomputable def xdH : DecidableEq XHp := @instDecidableEqProd _ _ inferInstance (xtdec xdC 10)
noncomputable def xdF1 : DecidableEq XF := @instDecidableEqProd _ _ inferInstance (@instDecidableEqProd _ _ inferInstance (@instDecidableEqProd _ _ (@instDecidableEqList _ (@instDecidableEqProd _ _ inferInstance xdV)) (@instDecidableEqProd _ _ (@instDecidableEqList _ xdV) inferInstance)))
noncomputable def xdF : DecidableEq (List XF) := @instDecidableEqList _ xdF1
noncomputable def xdE : DecidableEq XE := inferInstance
noncomputable def xdS : DecidableEq XS := @instDecidableEqProd _ _ xdF (@instDecidableEqProd _ _ xdH xdE)
noncomputable def xsame (a : Option (List XS)) (w : List XS) : Bool := match a with
  | some b => @decide (b = w) (@instDecidableEqList _ xdS b w)
  | none => false
theorem xsame_ok {a : Option (List XS)} {w : List XS} (h : xsame a w = true) : a = some w := by
  cases a with
  | none => cases h
  | some b =>
    have h : @decide (b = w) (@instDecidableEqList _ xdS b w) = true := h
    rw [@of_decide_eq_true _ (@instDecidableEqList _ xdS b w) h]
noncomputable def xvi (c : Int) : XV := .inl (.inl (Int32.ofInt c))
noncomputable def xvl (c : Int) : XV := .inr (.inl (some (.inl (Int64.ofInt c))))
noncomputable def xvr' (k : Nat) : XV := .inr (.inr k)
noncomputable def xtF {α : Type} (d lo n : Nat) (v : α) (t : XT α d) : XT α d := @Nat.rec (fun _ => XT α d) t (fun j ih => xtset d ih (lo + j) v) n
noncomputable def xtR {α : Type} (d : Nat) (l : List (Nat × Nat × α)) : XT α d := @List.rec (Nat × Nat × α) (fun _ => XT α d) (xtz d) (fun q _ ih => xtF d q.1 q.2.1 q.2.2 ih) l
noncomputable def xa0 : XA := .inl ()
noncomputable def xa6 (l : List (Nat × Nat × XV)) : XA := .inr (.inl (xtR 6 l))
noncomputable def xa11 (l : List (Nat × Nat × XV)) : XA := .inr (.inr (.inl (xtR 11 l)))
noncomputable def xca (t n : Nat) (d : XV) (a : XA) : XC := .inl (t, n, d, a)
noncomputable def xco (ci : Nat) (l : List (Nat × Nat × XV)) : XC := .inr (ci, xtR 7 l)
end
section
/-! the constructors: one stretch of the executor -/
noncomputable def xz_c0 : XC := xco 11 [(0, 1, xvr' 4), (1, 1, xvr' 35), (2, 1, xvi (-1)), (3, 1, xvr' 49), (4, 1, xvr' 52), (5, 1, xvr' 59), (6, 1, xvr' 63), (7, 1, xvr' 68), (8, 1, xvr' 79), (9, 1, xvr' 89), (10, 1, xvr' 97), (11, 1, xvr' 105)]
noncomputable def xz_c1 : XC := xco 5 [(0, 1, xvr' 5), (1, 1, xvr' 19), (2, 1, xvr' 33), (3, 1, xvr' 34)]
noncomputable def xz_c2 : XC := xco 3 [(0, 4, xvi 0), (4, 1, xvi (-1)), (5, 1, xvr' 6), (6, 1, xvr' 7), (7, 1, xvr' 8), (8, 1, xvr' 9), (9, 1, xvr' 10), (10, 1, xvr' 11), (11, 1, xvr' 12), (12, 1, xvr' 13), (13, 1, xvr' 14), (14, 1, xvr' 15), (15, 1, xvr' 16), (16, 1, xvr' 17), (17, 1, xvr' 18)]
noncomputable def xz_c3 : XC := xca 0 32 (xvi 0) xa0
noncomputable def xz_c4 : XC := xca 0 160 (xvi 0) (xa11 [(0, 160, xvi (-1))])
noncomputable def xz_c5 : XC := xca 0 160 (xvi 0) xa0
noncomputable def xz_c6 : XC := xca 0 33 (xvi 0) xa0
noncomputable def xz_c7 : XC := xco 3 [(0, 4, xvi 0), (4, 1, xvi (-1)), (5, 1, xvr' 20), (6, 1, xvr' 21), (7, 1, xvr' 22), (8, 1, xvr' 23), (9, 1, xvr' 24), (10, 1, xvr' 25), (11, 1, xvr' 26), (12, 1, xvr' 27), (13, 1, xvr' 28), (14, 1, xvr' 29), (15, 1, xvr' 30), (16, 1, xvr' 31), (17, 1, xvr' 32)]
noncomputable def xz_c8 : XC := xca 0 448 (xvi 0) xa0
noncomputable def xz_c9 : XC := xca 0 5 (xvi 0) xa0
noncomputable def xz_c10 : XC := xco 3 [(0, 4, xvi 0), (4, 1, xvi (-1)), (5, 1, xvr' 36), (6, 1, xvr' 37), (7, 1, xvr' 38), (8, 1, xvr' 39), (9, 1, xvr' 40), (10, 1, xvr' 41), (11, 1, xvr' 42), (12, 1, xvr' 43), (13, 1, xvr' 44), (14, 1, xvr' 45), (15, 1, xvr' 46), (16, 1, xvr' 47), (17, 1, xvr' 48)]
noncomputable def xz_c11 : XC := xco 8 [(0, 1, xvr' 50), (1, 5, xvi 0), (6, 2, xvi (-1)), (8, 1, xvr' 51), (9, 1, xvi 0)]
noncomputable def xz_c12 : XC := xca 2 1000 (xvi 0) xa0
noncomputable def xz_c13 : XC := xca 2 4608 (xvi 0) xa0
noncomputable def xz_c14 : XC := xco 10 [(0, 1, xvi (-1)), (1, 2, xvi 0), (3, 1, xvr' 53), (4, 1, xvr' 54), (5, 1, xvr' 55), (6, 1, xvr' 56), (7, 1, xvr' 57), (8, 1, xvi (-1)), (9, 3, xvi 0), (12, 1, xvr' 58)]
noncomputable def xz_c15 : XC := xca 1 32 (xvl 0) xa0
noncomputable def xz_c16 : XC := xca 1 2001 (xvl 0) xa0
noncomputable def xz_c17 : XC := xco 6 [(0, 1, xvi (-1)), (1, 1, xvi 0), (2, 1, xvr' 60), (3, 1, xvi (-1)), (4, 1, xvr' 61), (5, 1, xvr' 62)]
noncomputable def xz_c18 : XC := xco 0 [(0, 1, xvi (-1)), (1, 1, xvi 0), (2, 1, xvi (-1)), (3, 1, xvi 0), (4, 1, xvr' 64), (5, 1, xvr' 65), (6, 1, xvr' 66), (7, 1, xvi 0), (8, 1, xvr' 67)]
noncomputable def xz_c19 : XC := xco 2 [(0, 1, xvi (-1)), (1, 2, xvi 0), (3, 1, xvl 0), (4, 1, xvi 0), (5, 1, xvr' 69), (6, 1, xvr' 70), (7, 1, xvr' 71), (8, 1, xvi 0), (9, 1, xvr' 72), (10, 1, xvr' 73), (11, 1, xvr' 74), (12, 1, xvr' 75), (13, 1, xvr' 76), (14, 1, xvr' 77), (15, 1, xvr' 78), (16, 1, xvi (-1)), (17, 1, xvi 0), (18, 1, xvl 0)]
noncomputable def xz_c20 : XC := xca 0 1024 (xvi 0) xa0
noncomputable def xz_c21 : XC := xco 9 [(0, 1, xvi 0), (1, 1, xvr' 80), (2, 1, xvr' 81), (3, 1, xvr' 82), (4, 1, xvr' 83), (5, 1, xvr' 84), (6, 1, xvr' 85), (7, 1, xvr' 86), (8, 1, xvr' 87), (9, 1, xvi (-1)), (10, 1, xvi 0), (11, 1, xvr' 88)]
noncomputable def xz_c22 : XC := xca 1 160 (xvl 0) xa0
noncomputable def xz_c23 : XC := xca 1 1024 (xvl 0) xa0
noncomputable def xz_c24 : XC := xco 4 [(0, 1, xvi (-1)), (1, 1, xvi 0), (2, 1, xvr' 90), (3, 1, xvr' 91), (4, 1, xvi (-1)), (5, 1, xvi 0), (6, 1, xvr' 92), (7, 1, xvr' 93), (8, 1, xvr' 94), (9, 1, xvr' 95), (10, 1, xvr' 96)]
noncomputable def xz_c25 : XC := xco 7 [(0, 2, xvl 1), (2, 1, xvr' 98), (3, 1, xvr' 99), (4, 1, xvr' 100), (5, 1, xvr' 101), (6, 1, xvr' 102), (7, 1, xvr' 103), (8, 1, xvr' 104)]
noncomputable def xz_c26 : XC := xca 1 61 (xvl 0) xa0
noncomputable def xz_c27 : XC := xca 1 26 (xvl 0) xa0
noncomputable def xz_c28 : XC := xca 0 11 (xvi 0) xa0
noncomputable def xz_c29 : XC := xca 1 11 (xvl 0) xa0
noncomputable def xz_c30 : XC := xco 1 [(0, 1, xvr' 106), (1, 1, xvi 1), (2, 1, xvi 2), (3, 1, xvr' 107), (4, 1, xvi 0), (5, 1, xvr' 108), (6, 1, xvr' 109), (7, 1, xvr' 110), (8, 1, xvr' 111), (9, 4, xvi 0)]
noncomputable def xz_c31 : XC := xca 0 120 (xvi 0) xa0
noncomputable def xz_c32 : XC := xca 1 120 (xvl 0) xa0
noncomputable def xz_c33 : XC := xca 1 9 (xvl 0) xa0
noncomputable def xz_c34 : XC := xco 12 [(0, 1, xvi 0), (1, 1, xvr' 113), (2, 1, xvr' 114), (3, 1, xvr' 115), (4, 1, xvr' 116), (5, 1, xvr' 117), (6, 1, xvr' 118), (7, 1, xvr' 119), (8, 1, xvr' 120), (9, 1, xvi 0), (10, 1, xvr' 121), (11, 1, xvr' 122), (12, 1, xvr' 123), (13, 1, xvr' 124), (14, 1, xvr' 125), (15, 1, xvr' 126), (16, 1, xvr' 127), (17, 1, xvi (-1)), (18, 3, xvi 0), (21, 1, xvr' 128), (22, 3, xvi 0), (25, 1, xvr' 129), (26, 5, xvi 0), (31, 1, xvl 0), (32, 1, xvi 0), (33, 1, xvr' 130), (34, 1, xvr' 131), (35, 1, xvr' 132), (36, 1, xvr' 133), (37, 1, xvr' 134), (38, 1, xvr' 135), (39, 1, xvr' 136), (40, 1, xvi 0), (41, 1, xvr' 137), (42, 1, xvr' 138), (43, 1, xvr' 139), (44, 1, xvr' 140), (45, 1, xvr' 141), (46, 1, xvr' 142), (47, 1, xvr' 143), (48, 1, xvr' 144), (49, 1, xvr' 145), (50, 1, xvr' 146), (51, 1, xvr' 147), (52, 1, xvr' 148), (53, 1, xvi 0), (54, 1, xvr' 149), (55, 1, xvr' 150), (56, 1, xvr' 151), (57, 1, xvr' 152), (58, 1, xvr' 153), (59, 1, xvr' 154), (60, 1, xvr' 155), (61, 1, xvr' 156), (62, 1, xvr' 157), (63, 1, xvr' 158), (64, 1, xvr' 159), (65, 1, xvr' 160), (66, 1, xvr' 161), (67, 1, xvr' 162), (68, 1, xvr' 163), (69, 1, xvr' 164), (70, 1, xvr' 165), (71, 1, xvr' 166), (72, 1, xvr' 167), (73, 1, xvr' 168), (74, 1, xvr' 169), (75, 1, xvr' 170), (76, 1, xvr' 171), (77, 1, xvr' 172), (78, 1, xvr' 173), (79, 1, xvr' 174), (80, 2, xvi 0), (82, 1, xvr' 175), (83, 1, xvr' 176), (84, 1, xvi 1), (85, 2, xvl 0), (87, 1, xvr' 177), (88, 1, xvr' 178), (89, 1, xvr' 179), (90, 1, xvr' 180), (91, 1, xvr' 181), (92, 1, xvr' 182), (93, 1, xvr' 183), (94, 1, xvr' 184), (95, 1, xvr' 185), (96, 4, xvi 0), (100, 2, xvl 0), (102, 1, xvr' 186), (103, 1, xvr' 187), (104, 1, xvr' 188), (105, 1, xvr' 189), (106, 1, xvr' 190), (107, 1, xvr' 191), (108, 1, xvr' 192), (109, 1, xvi 0), (110, 1, xvr' 193), (111, 3, xvi 0), (114, 1, xvr' 194), (115, 1, xvr' 195), (116, 3, xvi 0), (119, 1, xvr' 196), (120, 1, xvr' 197), (121, 1, xvl 0)]
noncomputable def xz_c35 : XC := xca 0 3 (xvi 0) xa0
noncomputable def xz_c36 : XC := xca 0 96 (xvi 0) xa0
noncomputable def xz_c37 : XC := xca 3 480 (xvi 0) xa0
noncomputable def xz_c38 : XC := xca 0 480 (xvi 0) xa0
noncomputable def xz_c39 : XC := xca 0 4000 (xvi 0) xa0
noncomputable def xz_c40 : XC := xca 0 1000 (xvi 0) xa0
noncomputable def xz_c41 : XC := xca 0 8000 (xvi 0) xa0
noncomputable def xz_c42 : XC := xca 0 500 (xvi 0) xa0
noncomputable def xz_c43 : XC := xca 0 2500 (xvi 0) xa0
noncomputable def xz_c44 : XC := xca 0 10005 (xvi 0) xa0
noncomputable def xz_c45 : XC := xca 0 2001 (xvi 0) xa0
noncomputable def xz_c46 : XC := xca 0 34 (xvi 0) xa0
noncomputable def xz_c47 : XC := xca 1 34 (xvl 0) xa0
noncomputable def xz_c48 : XC := xca 0 60 (xvi 0) xa0
noncomputable def xz_c49 : XC := xca 1 60 (xvl 0) xa0
noncomputable def xz_c50 : XC := xca 3 12 (xvi 0) xa0
noncomputable def xz_c51 : XC := xca 1 12 (xvl 0) xa0
noncomputable def xz_c52 : XC := xca 0 2000 (xvi 0) xa0
noncomputable def xz_c53 : XC := xca 0 400 (xvi 0) xa0
noncomputable def xz_c54 : XC := xca 0 3 (xvi 0) (xa6 [(1, 1, xvi 1), (2, 1, xvi 2)])
noncomputable def xz_c55 : XC := xca 0 200 (xvi 0) xa0
noncomputable def xz_c56 : XC := xca 1 200 (xvl 0) xa0
noncomputable def xz_c57 : XC := xca 1 1 (xvl 0) xa0
noncomputable def xz_h0 : XHp := (196, xtR 10 [(0, 1, xz_c0), (1, 1, xz_c1), (2, 1, xz_c2), (3, 1, xz_c3), (4, 1, xz_c4), (5, 1, xz_c5), (6, 1, xz_c5), (7, 1, xz_c5), (8, 1, xz_c5), (9, 1, xz_c3), (10, 1, xz_c3), (11, 1, xz_c3), (12, 1, xz_c6), (13, 1, xz_c5), (14, 1, xz_c6), (15, 1, xz_c5), (16, 1, xz_c7), (17, 1, xz_c3), (18, 1, xz_c4), (19, 1, xz_c5), (20, 1, xz_c5), (21, 1, xz_c5), (22, 1, xz_c5), (23, 1, xz_c3), (24, 1, xz_c3), (25, 1, xz_c3), (26, 1, xz_c6), (27, 1, xz_c5), (28, 1, xz_c6), (29, 1, xz_c5), (30, 1, xz_c8), (31, 1, xz_c9), (32, 1, xz_c10), (33, 1, xz_c3), (34, 1, xz_c4), (35, 1, xz_c5), (36, 1, xz_c5), (37, 1, xz_c5), (38, 1, xz_c5), (39, 1, xz_c3), (40, 1, xz_c3), (41, 1, xz_c3), (42, 1, xz_c6), (43, 1, xz_c5), (44, 1, xz_c6), (45, 1, xz_c5), (46, 1, xz_c11), (47, 1, xz_c12), (48, 1, xz_c13), (49, 1, xz_c14), (50, 1, xz_c15), (51, 1, xz_c3), (52, 1, xz_c3), (53, 1, xz_c15), (54, 1, xz_c3), (55, 1, xz_c16), (56, 1, xz_c17), (57, 1, xz_c3), (58, 1, xz_c3), (59, 1, xz_c3), (60, 1, xz_c18), (61, 1, xz_c3), (62, 1, xz_c3), (63, 1, xz_c3), (64, 1, xz_c3), (65, 1, xz_c19), (66, 1, xz_c20), (67, 1, xz_c3), (68, 1, xz_c3), (69, 1, xz_c5), (70, 1, xz_c5), (71, 1, xz_c5), (72, 1, xz_c5), (73, 1, xz_c5), (74, 1, xz_c3), (75, 1, xz_c15), (76, 1, xz_c21), (77, 1, xz_c5), (78, 1, xz_c5), (79, 1, xz_c22), (80, 1, xz_c15), (81, 1, xz_c3), (82, 1, xz_c3), (83, 1, xz_c3), (84, 1, xz_c3), (85, 1, xz_c23), (86, 1, xz_c24), (87, 1, xz_c15), (88, 1, xz_c15), (89, 1, xz_c3), (90, 1, xz_c3), (91, 1, xz_c3), (92, 1, xz_c3), (93, 1, xz_c3), (94, 1, xz_c25), (95, 1, xz_c26), (96, 1, xz_c27), (97, 1, xz_c28), (98, 1, xz_c29), (99, 1, xz_c15), (100, 1, xz_c15), (101, 1, xz_c15), (102, 1, xz_c30), (103, 1, xz_c31), (104, 1, xz_c31), (105, 1, xz_c32), (106, 1, xz_c33), (107, 1, xz_c15), (108, 1, xz_c15), (109, 1, xz_c34), (110, 1, xz_c35), (111, 1, xz_c36), (112, 1, xz_c37), (113, 1, xz_c38), (114, 1, xz_c38), (115, 1, xz_c38), (116, 1, xz_c38), (117, 1, xz_c38), (118, 1, xz_c39), (119, 1, xz_c39), (120, 1, xz_c39), (121, 1, xz_c39), (122, 1, xz_c39), (123, 1, xz_c39), (124, 1, xz_c39), (125, 1, xz_c40), (126, 1, xz_c41), (127, 1, xz_c42), (128, 1, xz_c43), (129, 1, xz_c3), (130, 1, xz_c15), (131, 1, xz_c3), (132, 1, xz_c39), (133, 1, xz_c3), (134, 1, xz_c44), (135, 1, xz_c16), (136, 1, xz_c45), (137, 1, xz_c45), (138, 1, xz_c3), (139, 1, xz_c6), (140, 1, xz_c6), (141, 1, xz_c3), (142, 1, xz_c3), (143, 1, xz_c3), (144, 1, xz_c6), (145, 1, xz_c6), (146, 1, xz_c6), (147, 1, xz_c22), (148, 1, xz_c46), (149, 1, xz_c47), (150, 1, xz_c15), (151, 1, xz_c3), (152, 1, xz_c23), (153, 1, xz_c5), (154, 1, xz_c5), (155, 1, xz_c22), (156, 1, xz_c15), (157, 1, xz_c3), (158, 1, xz_c3), (159, 1, xz_c3), (160, 1, xz_c3), (161, 1, xz_c23), (162, 1, xz_c15), (163, 1, xz_c15), (164, 1, xz_c3), (165, 1, xz_c3), (166, 1, xz_c15), (167, 1, xz_c3), (168, 1, xz_c15), (169, 1, xz_c3), (170, 1, xz_c3), (171, 1, xz_c20), (172, 1, xz_c48), (173, 1, xz_c49), (174, 1, xz_c48), (175, 1, xz_c49), (176, 1, xz_c50), (177, 1, xz_c50), (178, 1, xz_c51), (179, 1, xz_c51), (180, 1, xz_c50), (181, 1, xz_c51), (182, 1, xz_c51), (183, 1, xz_c52), (184, 1, xz_c53), (185, 1, xz_c53), (186, 1, xz_c54), (187, 1, xz_c53), (188, 1, xz_c53), (189, 1, xz_c35), (190, 1, xz_c55), (191, 1, xz_c15), (192, 1, xz_c15), (193, 1, xz_c56), (194, 1, xz_c33), (195, 1, xz_c57)])
noncomputable def xz_S0 : XS := ([(0, 23, [(4, xvi 0), (3, xvr' 198), (2, xvr' 112), (1, xvr' 3), (0, xvr' 2)], [], 599695, 7090963, 0)], xz_h0, xE0)
theorem xz_s0 : xsame (xgo 5284 [xstart]) [xz_S0] = true := by decide +kernel
end
section
/-! THE LAW AND ITS WRAPPERS: rows -/
/-- where a throw (e 0: an illegal argument, 1: an illegal state) at pc of the wrapper m goes on -/
noncomputable def hxc (m pc e : Nat) : Option Nat := match xh m with
  | [] => none
  | q :: r => cond (Nat.ble q.1 pc && Nat.blt pc q.2.1 && !(Nat.beq q.2.2.2 0)) (match xlook q.2.2.2 xq with
      | some (t, _) => cond (Nat.beq t e) (some q.2.2.1) (cond (Nat.beq t 0 && Nat.beq e 1) (match r with
        | q2 :: _ => cond (Nat.ble q2.1 pc && Nat.blt pc q2.2.1 && !(Nat.beq q2.2.2.2 0)) (match xlook q2.2.2.2 xq with
          | some (t2, _) => cond (Nat.beq t2 1) (some q2.2.2.1) none
          | none => none) none
        | [] => none) none)
      | none => none) none
theorem hxc_ok {m pc e hp : Nat} {K : AmK} {lv : List (Nat × Value)} {C S : Nat} {u : va_W} (hm : m < xm_n) (h1 : xk m = 1) (he : e < 2) (h : hxc m pc e = some hp) (hK : ∀ q, K hp lv [.ref q] u C S) : am_hx (xcls (xo m)) (xh m) K pc lv C S (if e = 0 then am_IA else am_IS) u := by
  have hRL : xcls (xo m) = RL := xwr_all hm h1
  unfold hxc at h
  cases hq : xh m with
  | nil => rw [hq] at h; cases h
  | cons q r =>
    rw [hq] at h
    obtain ⟨hb, h⟩ := xcond h
    simp only [Bool.and_eq_true] at hb
    split at h
    · rename_i t p hlq
      cases hte : Nat.beq t e with
      | true =>
        rw [hte] at h
        have hte := Nat.eq_of_beq_eq_true hte
        subst hte
        have h := Option.some.inj h
        subst h
        refine ⟨[], ⟨q.1, q.2.1, q.2.2.1, q.2.2.2⟩, tableOf r, rfl, ?_, ?_, ?_, ?_, fun z hz => by (cases hz), hK⟩
        · exact xcov hb.1.1 hb.1.2
        · exact xne0 hb.2
        · rw [hRL]; exact xq_w hlq
        · exact xcast_all he
      | false =>
        rw [hte] at h
        obtain ⟨hb2, h⟩ := xcond (h : cond _ _ none = _)
        rw [Bool.and_eq_true] at hb2
        have t0 := Nat.eq_of_beq_eq_true hb2.1
        have e1 := Nat.eq_of_beq_eq_true hb2.2
        subst t0; subst e1
        cases r with
        | cons q2 r2 =>
          obtain ⟨hb3, h⟩ := xcond h
          simp only [Bool.and_eq_true] at hb3
          split at h
          · rename_i t2 p2 hlq2
            obtain ⟨hb4, h⟩ := xcond h
            have ht2 := Nat.eq_of_beq_eq_true hb4
            subst ht2
            have h := Option.some.inj h
            subst h
            refine ⟨[⟨q.1, q.2.1, q.2.2.1, q.2.2.2⟩], ⟨q2.1, q2.2.1, q2.2.2.1, q2.2.2.2⟩, tableOf r2, rfl, ?_, ?_, ?_, ?_, fun z hz => ?_, hK⟩
            · exact xcov hb3.1.1 hb3.1.2
            · exact xne0 hb3.2
            · rw [hRL]; exact xq_w hlq2
            · exact xcast_all he
            · rw [List.mem_singleton.mp hz]
              refine ⟨xne0 hb.2, rfl, ?_⟩
              rw [hRL]; exact xq_w hlq
          · cases h
        | nil => cases h
    · cases h
/-- the rest of a wrapper's run: a throw goes to its handlers -/
noncomputable def gw (k : Nat) : GX := (none, am_no, am_hx (xcls (xo k)) (xh k))
/-- the rest of the law's run -/
def gl (Z : AmZ) (b L : Nat) (xs : Nat → Int32) : GX := (some (b, L, xs), am_wpW Z am_leaf 1300, fun _ _ _ _ _ _ _ => False)
/-- what a wrapper promises -/
def WC (Z : AmZ) (d k : Nat) (as : List Value) (ws : va_W) (mc ms : Nat) (P : AmR) : Prop := ∀ post : AmR, (∀ v u, P v u → post v u) → ∀ xp, am_wpW Z am_leaf d (xy k) as ws mc ms post xp
section WR
variable {Z : AmZ} {d m N pc : Nat} {ret : AmR} {xp : GX} {f : Nat → Option Value} {st r : List Value} {ws : va_W} {C S : Nat}
theorem w_enter {k : Nat} {as : List Value} {mc ms : Nat} {X : AmX} (hk : (Nat.blt 0 k && Nat.blt k xm_n && Nat.beq (xk k) 1) = true) (hlen : (lg_sl as).length ≤ xn k) (h : GG Z d k ret (gw k) N 0 (fun j => xlook j (lv_args 0 as)) [] ws mc ms) : am_wpW Z am_leaf (d + 1) (xy k) as ws mc ms ret X := by
  simp only [Bool.and_eq_true] at hk
  have h0 : 0 < k := Nat.le_of_ble_eq_true hk.1.1
  have h1 : k < xm_n := Nat.le_of_ble_eq_true hk.1.2
  have h2 := Nat.eq_of_beq_eq_true hk.2
  obtain ⟨c1, c2, c3, -, -, c6, -, -, -, -, -⟩ := xm_w h0 h1
  refine ⟨xc k, xn k, xr k, xh k, N, c6 (by rw [h2]; decide), c1, hlen, c2, ?_⟩
  have g := h (lv_args 0 as) (fun i v hv => xlook_mem hv) N (Nat.le_refl N)
  have e : xin k = false := xwi_all h1 h2
  rw [e] at g
  unfold gw at g
  rw [← c3] at g
  exact g
theorem g_callW {i k nn p0 : Nat} {As : List Value} {mc ms b L : Nat} {xs : Nat → Int32} {P : AmR} (p : Nat) (hd : GD m pc (.invokestatic i) 3) (hp : pc + 3 = p) (hl : xlD (xo m) i = some (k, nn, p0, 0)) (hk : (Nat.blt 0 k && Nat.blt k 1000 && Nat.beq (xsta k) 1) = true) (hst : st = As.reverse ++ r) (hn : As.length = nn) (hr : (r.map fun v => v.category).sum ≤ 8) (hC : mc ≤ C) (hS : ms ≤ S)
    (hc : WC Z 1300 k As ws mc ms P) (h : ∀ v u, P v u → GG Z d m ret (gl Z b L xs) N p f (v.toList ++ r) u (C - mc) (S - ms)) : GG Z d m ret (gl Z b L xs) (N + 1) pc f st ws C S := by
  simp only [Bool.and_eq_true] at hk
  obtain ⟨⟨k1, k2⟩, k4⟩ := hk
  have k1 := Nat.lt_of_lt_of_le Nat.zero_lt_one (Nat.le_of_ble_eq_true k1)
  have k2 : k < 1000 := Nat.le_of_ble_eq_true k2
  have k4 := Nat.eq_of_beq_eq_true k4
  obtain ⟨l1, l2, l3, -⟩ := xl_w hd.1 hl k2
  obtain ⟨-, -, c3, c4, -, -, c7, -, c9, -, -⟩ := xm_w k1 l1
  refine g_st fun lv hlv n hn2 => ?_
  unfold am_stp
  rw [hd.2]
  subst hp
  refine Or.inr ⟨xy k, As, r, mc, ms, hst, ⟨c4.1, c4.2, by rw [l2, hn]⟩, c7 k4, c9, hr, hC, hS, ?_⟩
  exact Or.inr (Or.inl ⟨l3 rfl, hc _ (fun v u hv => h v u hv lv hlv n hn2) (fun _ _ => False)⟩)
/-- a call inside a wrapper: a throw goes to a handler -/
theorem g_callvH {i k nn p0 b q : Nat} {As fs : List Value} {mc ms : Nat} {P : AmR} {Y : AmX} (p : Nat) (hd : GD m pc (.invokevirtual i) 3) (hp : pc + 3 = p) (hl : xlD (xo m) i = some (k, nn, p0, 0)) (hm : Nat.beq (xk m) 1 = true) (hk : (Nat.blt 0 k && Nat.blt k 1000 && Nat.beq (xk k) 0 && Nat.beq (xsta k) 0 && !(xin k)) = true) (hst : st = As.reverse ++ .ref b :: r) (hn : As.length = nn) (hq : ws[q]? = some (b, .inr (xo k, fs))) (hr : (r.map fun v => v.category).sum ≤ 8) (hC : mc ≤ C) (hS : ms ≤ S)
    (hc : GC Z d k (.ref b :: As) ws mc ms P Y) (hY : ∀ e u, Y e u → ∃ t hp, t < 2 ∧ e = (if t = 0 then am_IA else am_IS) ∧ hxc m pc t = some hp ∧ ∀ a, GG Z d m ret (gw m) N hp f [.ref a] u (C - mc) (S - ms)) (h : ∀ v u, P v u → GG Z d m ret (gw m) N p f (v.toList ++ r) u (C - mc) (S - ms)) : GG Z d m ret (gw m) (N + 1) pc f st ws C S := by
  simp only [Bool.and_eq_true] at hk
  obtain ⟨⟨⟨⟨k1, k2⟩, k3⟩, k4⟩, k5⟩ := hk
  have k1 := Nat.lt_of_lt_of_le Nat.zero_lt_one (Nat.le_of_ble_eq_true k1)
  have k2 : k < 1000 := Nat.le_of_ble_eq_true k2
  have k3 := Nat.eq_of_beq_eq_true k3
  have k4 := Nat.eq_of_beq_eq_true k4
  obtain ⟨l1, l2, l3, -⟩ := xl_w hd.1 hl k2
  obtain ⟨-, -, c3, c4, -, -, -, c8, c9, c10, -⟩ := xm_w k1 l1
  refine g_st fun lv hlv n hn2 => ?_
  unfold am_stp
  rw [hd.2]
  subst hp
  have hxo : xo k < 13 := xins_all k1 l1 k4
  obtain ⟨T, NN, hT⟩ : ∃ T NN, vwCl[xo k]? = some ((xy k).cls, T, NN) := by
    have e : (xo k) < vwCl.length := by
      have : vwCl.length = 13 := by decide +kernel
      omega
    obtain ⟨⟨Cn, T, NN⟩, hv⟩ : ∃ q, vwCl[xo k]? = some q := ⟨_, List.getElem?_eq_getElem e⟩
    refine ⟨T, NN, ?_⟩
    rw [hv, c3, ← (xcls_all hv).1]
  refine Or.inl ⟨xy k, b, As, r, mc, ms, q, xo k, fs, T, NN, hst, ⟨c4.1, c4.2, by rw [l2, hn]⟩, l3 rfl, c8 (by rw [k4]; decide), c10 k4 (by cases hx : xin k with
    | true => rw [hx] at k5; cases k5
    | false => rfl), c9, hq, hT, hr, hC, hS, ?_⟩
  refine hc _ _ (fun v u hv => h v u hv lv hlv n hn2) (fun e u hy => ?_)
  obtain ⟨t, hp, ht, rfl, hx, hg⟩ := hY e u hy
  exact hxc_ok hd.1 (Nat.eq_of_beq_eq_true hm) ht hx (fun a => hg a lv hlv n hn2)
/-- the script -/
theorem g_sld {b L : Nat} {xs : Nat → Int32} {j : Int32} {cW : AmC} {hx : AmH} (p : Nat) (hd : GD m pc (.iaload) 1) (hp : pc + 1 = p) (hj : vp_in j L) (h : ∀ z, z = xs j.toNatClampNeg → GG Z d m ret (some (b, L, xs), cW, hx) N p f (.int z :: r) ws C S) : GG Z d m ret (some (b, L, xs), cW, hx) (N + 1) pc f (.int j :: .ref b :: r) ws C S := by
  refine g_st fun lv hlv n hn2 => ?_
  unfold am_stp
  rw [hd.2]
  subst hp
  exact Or.inl ⟨b, L, xs, j, r, rfl, rfl, hj, h _ rfl lv hlv n hn2⟩
theorem g_slen {b L : Nat} {xs : Nat → Int32} {cW : AmC} {hx : AmH} (p : Nat) (hd : GD m pc (.arraylength) 1) (hp : pc + 1 = p) (h : GG Z d m ret (some (b, L, xs), cW, hx) N p f (.int (Int32.ofNat L) :: r) ws C S) : GG Z d m ret (some (b, L, xs), cW, hx) (N + 1) pc f (.ref b :: r) ws C S := by
  refine g_st fun lv hlv n hn2 => ?_
  unfold am_stp
  rw [hd.2]
  subst hp
  exact Or.inl ⟨b, L, xs, r, rfl, rfl, h lv hlv n hn2⟩
/-- the law's row of one long: the world's last cell -/
theorem g_ouS {A : Nat → Nat} {s : GS} {ex : va_W} {x : Int64} (p : Nat) (hd : GD m pc (.lastore) 1) (hp : pc + 1 = p) (h : GG Z d m ret xp N p f r (WW Z A (sL s 195 0 x) ++ ex) C S) : GG Z d m ret xp (N + 1) pc f (.long x :: .int (Int32.ofInt 0) :: .ref (A 195) :: r) (WW Z A s ++ ex) C S :=
  g_lastore (q := 195) (n := 1) p hd hp rfl (in_ix (in_c 0 rfl) rfl) h
theorem g_ouL {A : Nat → Nat} {s : GS} {ex : va_W} (p : Nat) (hd : GD m pc (.laload) 1) (hp : pc + 1 = p) (h : GG Z d m ret xp N p f (.long (s.2.1 195 0) :: r) (WW Z A s ++ ex) C S) : GG Z d m ret xp (N + 1) pc f (.int (Int32.ofInt 0) :: .ref (A 195) :: r) (WW Z A s ++ ex) C S :=
  g_laload (q := 195) (n := 1) p hd hp rfl (in_ix (in_c 0 rfl) rfl) (fun z e => by subst e; exact h)
/-- a call of the law's own: it doesn't throw -/
theorem g_callvL {i k nn p0 b q bb L : Nat} {xs : Nat → Int32} {As fs : List Value} {mc ms : Nat} {P : AmR} {Y : AmX} (p : Nat) (hd : GD m pc (.invokevirtual i) 3) (hp : pc + 3 = p) (hl : xlD (xo m) i = some (k, nn, p0, 0)) (hk : (Nat.blt 0 k && Nat.blt k 1000 && Nat.beq (xk k) 0 && Nat.beq (xsta k) 0 && !(xin k)) = true) (hst : st = As.reverse ++ .ref b :: r) (hn : As.length = nn) (hq : ws[q]? = some (b, .inr (xo k, fs))) (hr : (r.map fun v => v.category).sum ≤ 8) (hC : mc ≤ C) (hS : ms ≤ S)
    (hc : GC Z d k (.ref b :: As) ws mc ms P Y) (hY : ∀ e u, Y e u → False) (h : ∀ v u, P v u → GG Z d m ret (gl Z bb L xs) N p f (v.toList ++ r) u (C - mc) (S - ms)) : GG Z d m ret (gl Z bb L xs) (N + 1) pc f st ws C S := by
  simp only [Bool.and_eq_true] at hk
  obtain ⟨⟨⟨⟨k1, k2⟩, k3⟩, k4⟩, k5⟩ := hk
  have k1 := Nat.lt_of_lt_of_le Nat.zero_lt_one (Nat.le_of_ble_eq_true k1)
  have k2 : k < 1000 := Nat.le_of_ble_eq_true k2
  have k3 := Nat.eq_of_beq_eq_true k3
  have k4 := Nat.eq_of_beq_eq_true k4
  obtain ⟨l1, l2, l3, -⟩ := xl_w hd.1 hl k2
  obtain ⟨-, -, c3, c4, -, -, -, c8, c9, c10, -⟩ := xm_w k1 l1
  refine g_st fun lv hlv n hn2 => ?_
  unfold am_stp
  rw [hd.2]
  subst hp
  have hxo : xo k < 13 := xins_all k1 l1 k4
  obtain ⟨T, NN, hT⟩ : ∃ T NN, vwCl[xo k]? = some ((xy k).cls, T, NN) := by
    have e : (xo k) < vwCl.length := by
      have : vwCl.length = 13 := by decide +kernel
      omega
    obtain ⟨⟨Cn, T, NN⟩, hv⟩ : ∃ q, vwCl[xo k]? = some q := ⟨_, List.getElem?_eq_getElem e⟩
    refine ⟨T, NN, ?_⟩
    rw [hv, c3, ← (xcls_all hv).1]
  refine Or.inl ⟨xy k, b, As, r, mc, ms, q, xo k, fs, T, NN, hst, ⟨c4.1, c4.2, by rw [l2, hn]⟩, l3 rfl, c8 (by rw [k4]; decide), c10 k4 (by cases hx : xin k with
    | true => rw [hx] at k5; cases k5
    | false => rfl), c9, hq, hT, hr, hC, hS, ?_⟩
  exact hc _ _ (fun v u hv => h v u hv lv hlv n hn2) (fun e u hy => (hY e u hy).elim)
theorem g_sldL {b L : Nat} {xs : Nat → Int32} {j : Int32} (p : Nat) (hd : GD m pc (.iaload) 1) (hp : pc + 1 = p) (hj : vp_in j L) (h : ∀ z, GG Z d m ret (gl Z b L xs) N p f (.int z :: r) ws C S) : GG Z d m ret (gl Z b L xs) (N + 1) pc f (.int j :: .ref b :: r) ws C S := g_sld p hd hp hj (fun z _ => h z)
theorem g_slenL {b L : Nat} {xs : Nat → Int32} (p : Nat) (hd : GD m pc (.arraylength) 1) (hp : pc + 1 = p) (h : GG Z d m ret (gl Z b L xs) N p f (.int (Int32.ofNat L) :: r) ws C S) : GG Z d m ret (gl Z b L xs) (N + 1) pc f (.ref b :: r) ws C S := g_slen p hd hp h
/-- both texts have one length -/
def REL (s : GS) : Prop := s.2.2.1 46 1 = s.2.2.1 109 22
theorem sx_in {i z : Int32} {c : Int} {L : Nat} (e : z = i + Int32.ofInt c) (h0 : 0 ≤ i.toInt) (h : i.toInt + 6 ≤ (L : Int)) (hL : L ≤ 384) (hc : decide (0 ≤ c ∧ c ≤ 5) = true) : vp_in z L := by
  have hc := of_decide_eq_true hc
  have a : In i 0 384 := ⟨h0, by omega⟩
  have b : In (Int32.ofInt c) 0 5 := by
    have q := in_c c (decide_eq_true (by omega))
    exact ⟨Int.le_trans hc.1 q.1, Int.le_trans q.2 hc.2⟩
  have b2 : (Int32.ofInt c).toInt ≤ 5 := b.2
  have t := t_add e a b rfl
  have g : 0 ≤ z.toInt := by have := b.1; omega
  exact vp_in_iff.mpr ⟨g, by omega⟩
theorem fr_195 {s t : GS} {F : FM} {x : Int64} (h : Fr F s t) : Fr (F.1, 195 :: F.2.1, F.2.2) s (sL t 195 0 x) := by
  refine fr_sL (by simp [qI]) ⟨h.1, fun q hq => h.2.1 q ?_, h.2.2.1, h.2.2.2⟩
  unfold qI at hq ⊢
  rw [List.any_cons] at hq
  cases hb : F.2.1.any (fun e => Nat.beq e q) with
  | false => rfl
  | true => rw [hb, Bool.or_true] at hq; cases hq
theorem fr_195' {s t : GS} {F : FM} (h : Fr F s t) : Fr (F.1, 195 :: F.2.1, F.2.2) s t := by
  refine ⟨h.1, fun q hq => h.2.1 q ?_, h.2.2.1, h.2.2.2⟩
  unfold qI at hq ⊢
  rw [List.any_cons] at hq
  cases hb : F.2.1.any (fun e => Nat.beq e q) with
  | false => rfl
  | true => rw [hb, Bool.or_true] at hq; cases hq
theorem inv_195 {t : GS} {x : Int64} (h : Inv t) : Inv (sL t 195 0 x) := inv_sL h rfl (l_rng x)
theorem kl_195 {t : GS} {x : Int64} (h : KL t) : KL (sL t 195 0 x) := kl_fr (L := ([], [195], [], [])) h (fr_sL rfl fr_rf) rfl
end WR
end
section
/-! THE LAW'S WRAPPERS: what they promise -/
noncomputable def WPr (Z : AmZ) (A : Nat → Nat) (L : FM) (s : GS) : AmR := fun v u => ∃ (c : Int32) (A2 : Nat → Nat) (t : GS), v = some (.int c) ∧ u = WW Z A2 t ++ [] ∧ A2 0 = A 0 ∧ A2 109 = A 109 ∧ A2 195 = A 195 ∧ Inv t ∧ Fr (L.1, 195 :: L.2.1, L.2.2) s t ∧ KL t
theorem fr_up {L : FM} {s t : GS} (h : Fr ([], [], [], []) s t) : Fr L s t := ⟨fun q _ => h.1 q rfl, fun q _ => h.2.1 q rfl, fun q k _ => h.2.2.1 q k rfl, fun q k _ => h.2.2.2 q k rfl⟩
theorem kl_p {s : GS} (q : KL s) : 7 * (s.2.2.1 2 0).toInt ≤ (s.2.2.1 30 0).toInt := q.2.1

theorem w_7 {Z : AmZ} {A : Nat → Nat} {s : GS} {x1 : Int32} (hI : Inv s) (q : KL s) : WC Z 1300 7 [.ref (A 0), .int x1, .ref (A 195)] (WW Z A s ++ []) 3 18 (WPr Z A fm_219_0 s) := by
  intro post hP xp
  refine w_enter (k := 7) (d := 1299) (N := 60) rfl (Nat.le_of_ble_eq_true rfl) ?_
  refine g_aload_n 1 (gd rfl) rfl rfl ?_
  refine g_iconst 0 2 (gd rfl) rfl rfl ?_
  refine g_aload_n 3 (gd rfl) rfl rfl ?_
  refine g_iload_n 4 (gd rfl) rfl rfl ?_
  refine g_callvH (As := [.int x1]) (r := [.int (Int32.ofInt 0), .ref (A 195)]) (b := A 0) (q := 0) 7 (gd rfl) rfl rfl rfl rfl rfl rfl (ww_o rfl) (Nat.le_of_ble_eq_true rfl) (Nat.le_refl _) (Nat.le_refl _) (k_219_0 (by omega) hI ) (fun e u h => ?_) (fun v u h => ?_)
  · obtain ⟨rfl, t, hI2, hF2, rfl⟩ := h
    refine ⟨0, 12, by decide, rfl, rfl, fun a => ?_⟩
    refine g_astore_n 13 (gd rfl) rfl (Nat.le_of_ble_eq_true rfl) ?_
    refine g_iconst 1 14 (gd rfl) rfl rfl ?_
    exact g_ireturn (gd rfl) rfl rfl (hP _ _ ⟨_, A, t, rfl, rfl, rfl, rfl, rfl, hI2, fr_195' (hF2), (kl_fr q hF2 rfl)⟩)
  · obtain ⟨t, hI2, hF2, z, rfl, rfl, tl⟩ := h
    show GG _ _ _ _ _ _ _ _ [.int z, .int (Int32.ofInt 0), .ref (A 195)] _ _ _
    refine g_i2l 8 (gd rfl) rfl (fun z7 e7 => ?_)
    refine g_ouS (A := A) 9 (gd rfl) rfl ?_
    refine g_goto 15 (gd rfl) rfl ?_
    refine g_iconst 0 16 (gd rfl) rfl rfl ?_
    exact g_ireturn (gd rfl) rfl rfl (hP _ _ ⟨_, A, sL t 195 0 _, rfl, rfl, rfl, rfl, rfl, inv_195 hI2, fr_195 (hF2), kl_195 ((kl_fr q hF2 rfl))⟩)

theorem w_8 {Z : AmZ} {A : Nat → Nat} {s : GS} {x1 : Int32} {x2 : Int32} (hI : Inv s) (q : KL s) : WC Z 1300 8 [.ref (A 0), .int x1, .int x2, .ref (A 195)] (WW Z A s ++ []) 3 18 (WPr Z A fm_220_0 s) := by
  intro post hP xp
  refine w_enter (k := 8) (d := 1299) (N := 60) rfl (Nat.le_of_ble_eq_true rfl) ?_
  refine g_aload_n 1 (gd rfl) rfl rfl ?_
  refine g_iconst 0 2 (gd rfl) rfl rfl ?_
  refine g_aload_n 3 (gd rfl) rfl rfl ?_
  refine g_iload_n 4 (gd rfl) rfl rfl ?_
  refine g_iload_n 5 (gd rfl) rfl rfl ?_
  refine g_callvH (As := [.int x1, .int x2]) (r := [.int (Int32.ofInt 0), .ref (A 195)]) (b := A 0) (q := 0) 8 (gd rfl) rfl rfl rfl rfl rfl rfl (ww_o rfl) (Nat.le_of_ble_eq_true rfl) (Nat.le_refl _) (Nat.le_refl _) (k_220_0 (by omega) hI ) (fun e u h => ?_) (fun v u h => ?_)
  · obtain ⟨rfl, t, hI2, hF2, rfl⟩ := h
    refine ⟨0, 12, by decide, rfl, rfl, fun a => ?_⟩
    refine g_astore 14 (gd rfl) rfl (Nat.le_of_ble_eq_true rfl) ?_
    refine g_iconst 1 15 (gd rfl) rfl rfl ?_
    exact g_ireturn (gd rfl) rfl rfl (hP _ _ ⟨_, A, t, rfl, rfl, rfl, rfl, rfl, hI2, fr_195' (hF2), (kl_fr q hF2 rfl)⟩)
  · obtain ⟨t, hI2, hF2, z, rfl, rfl⟩ := h
    show GG _ _ _ _ _ _ _ _ [.long z, .int (Int32.ofInt 0), .ref (A 195)] _ _ _
    refine g_ouS (A := A) 9 (gd rfl) rfl ?_
    refine g_goto 16 (gd rfl) rfl ?_
    refine g_iconst 0 17 (gd rfl) rfl rfl ?_
    exact g_ireturn (gd rfl) rfl rfl (hP _ _ ⟨_, A, sL t 195 0 _, rfl, rfl, rfl, rfl, rfl, inv_195 hI2, fr_195 (hF2), kl_195 ((kl_fr q hF2 rfl))⟩)

theorem w_9 {Z : AmZ} {A : Nat → Nat} {s : GS} {x1 : Int32} (hI : Inv s) (q : KL s) : WC Z 1300 9 [.ref (A 0), .int x1, .ref (A 195)] (WW Z A s ++ []) 3 18 (WPr Z A fm_221_0 s) := by
  intro post hP xp
  refine w_enter (k := 9) (d := 1299) (N := 60) rfl (Nat.le_of_ble_eq_true rfl) ?_
  refine g_aload_n 1 (gd rfl) rfl rfl ?_
  refine g_iconst 0 2 (gd rfl) rfl rfl ?_
  refine g_aload_n 3 (gd rfl) rfl rfl ?_
  refine g_iload_n 4 (gd rfl) rfl rfl ?_
  refine g_callvH (As := [.int x1]) (r := [.int (Int32.ofInt 0), .ref (A 195)]) (b := A 0) (q := 0) 7 (gd rfl) rfl rfl rfl rfl rfl rfl (ww_o rfl) (Nat.le_of_ble_eq_true rfl) (Nat.le_refl _) (Nat.le_refl _) (k_221_0 (by omega) hI ) (fun e u h => ?_) (fun v u h => ?_)
  · obtain ⟨rfl, t, hI2, hF2, rfl⟩ := h
    refine ⟨0, 12, by decide, rfl, rfl, fun a => ?_⟩
    refine g_astore_n 13 (gd rfl) rfl (Nat.le_of_ble_eq_true rfl) ?_
    refine g_iconst 1 14 (gd rfl) rfl rfl ?_
    exact g_ireturn (gd rfl) rfl rfl (hP _ _ ⟨_, A, t, rfl, rfl, rfl, rfl, rfl, hI2, fr_195' (hF2), (kl_fr q hF2 rfl)⟩)
  · obtain ⟨t, hI2, hF2, z, rfl, rfl, tl⟩ := h
    show GG _ _ _ _ _ _ _ _ [.int z, .int (Int32.ofInt 0), .ref (A 195)] _ _ _
    refine g_i2l 8 (gd rfl) rfl (fun z7 e7 => ?_)
    refine g_ouS (A := A) 9 (gd rfl) rfl ?_
    refine g_goto 15 (gd rfl) rfl ?_
    refine g_iconst 0 16 (gd rfl) rfl rfl ?_
    exact g_ireturn (gd rfl) rfl rfl (hP _ _ ⟨_, A, sL t 195 0 _, rfl, rfl, rfl, rfl, rfl, inv_195 hI2, fr_195 (hF2), kl_195 ((kl_fr q hF2 rfl))⟩)

theorem w_10 {Z : AmZ} {A : Nat → Nat} {s : GS} {x1 : Int32} {x2 : Int32} {x3 : Int32} (hI : Inv s) (q : KL s) : WC Z 1300 10 [.ref (A 0), .int x1, .int x2, .int x3, .ref (A 195)] (WW Z A s ++ []) 3 18 (WPr Z A fm_222_0 s) := by
  intro post hP xp
  refine w_enter (k := 10) (d := 1299) (N := 60) rfl (Nat.le_of_ble_eq_true rfl) ?_
  refine g_aload 2 (gd rfl) rfl rfl ?_
  refine g_iconst 0 3 (gd rfl) rfl rfl ?_
  refine g_aload_n 4 (gd rfl) rfl rfl ?_
  refine g_iload_n 5 (gd rfl) rfl rfl ?_
  refine g_iload_n 6 (gd rfl) rfl rfl ?_
  refine g_iload_n 7 (gd rfl) rfl rfl ?_
  refine g_callvH (As := [.int x1, .int x2, .int x3]) (r := [.int (Int32.ofInt 0), .ref (A 195)]) (b := A 0) (q := 0) 10 (gd rfl) rfl rfl rfl rfl rfl rfl (ww_o rfl) (Nat.le_of_ble_eq_true rfl) (Nat.le_refl _) (Nat.le_refl _) (k_222_0 (by omega) hI ) (fun e u h => ?_) (fun v u h => ?_)
  · obtain ⟨rfl, t, hI2, hF2, rfl⟩ := h
    refine ⟨0, 15, by decide, rfl, rfl, fun a => ?_⟩
    refine g_astore 17 (gd rfl) rfl (Nat.le_of_ble_eq_true rfl) ?_
    refine g_iconst 1 18 (gd rfl) rfl rfl ?_
    exact g_ireturn (gd rfl) rfl rfl (hP _ _ ⟨_, A, t, rfl, rfl, rfl, rfl, rfl, hI2, fr_195' (hF2), (kl_fr q hF2 rfl)⟩)
  · obtain ⟨t, hI2, hF2, z, rfl, rfl, tl⟩ := h
    show GG _ _ _ _ _ _ _ _ [.int z, .int (Int32.ofInt 0), .ref (A 195)] _ _ _
    refine g_i2l 11 (gd rfl) rfl (fun z10 e10 => ?_)
    refine g_ouS (A := A) 12 (gd rfl) rfl ?_
    refine g_goto 19 (gd rfl) rfl ?_
    refine g_iconst 0 20 (gd rfl) rfl rfl ?_
    exact g_ireturn (gd rfl) rfl rfl (hP _ _ ⟨_, A, sL t 195 0 _, rfl, rfl, rfl, rfl, rfl, inv_195 hI2, fr_195 (hF2), kl_195 ((kl_fr q hF2 rfl))⟩)

theorem w_12 {Z : AmZ} {A : Nat → Nat} {s : GS} {x1 : Int32} (hI : Inv s) (q : KL s) : WC Z 1300 12 [.ref (A 0), .int x1, .ref (A 195)] (WW Z A s ++ []) 3 18 (WPr Z A fm_226_0 s) := by
  intro post hP xp
  refine w_enter (k := 12) (d := 1299) (N := 60) rfl (Nat.le_of_ble_eq_true rfl) ?_
  refine g_aload_n 1 (gd rfl) rfl rfl ?_
  refine g_iconst 0 2 (gd rfl) rfl rfl ?_
  refine g_aload_n 3 (gd rfl) rfl rfl ?_
  refine g_iload_n 4 (gd rfl) rfl rfl ?_
  refine g_callvH (As := [.int x1]) (r := [.int (Int32.ofInt 0), .ref (A 195)]) (b := A 0) (q := 0) 7 (gd rfl) rfl rfl rfl rfl rfl rfl (ww_o rfl) (Nat.le_of_ble_eq_true rfl) (Nat.le_refl _) (Nat.le_refl _) (k_226_0 (by omega) hI ) (fun e u h => ?_) (fun v u h => ?_)
  · obtain ⟨rfl, t, hI2, hF2, rfl⟩ := h
    refine ⟨0, 12, by decide, rfl, rfl, fun a => ?_⟩
    refine g_astore_n 13 (gd rfl) rfl (Nat.le_of_ble_eq_true rfl) ?_
    refine g_iconst 1 14 (gd rfl) rfl rfl ?_
    exact g_ireturn (gd rfl) rfl rfl (hP _ _ ⟨_, A, t, rfl, rfl, rfl, rfl, rfl, hI2, fr_195' (hF2), (kl_fr q hF2 rfl)⟩)
  · obtain ⟨t, hI2, hF2, z, rfl, rfl, tl⟩ := h
    show GG _ _ _ _ _ _ _ _ [.int z, .int (Int32.ofInt 0), .ref (A 195)] _ _ _
    refine g_i2l 8 (gd rfl) rfl (fun z7 e7 => ?_)
    refine g_ouS (A := A) 9 (gd rfl) rfl ?_
    refine g_goto 15 (gd rfl) rfl ?_
    refine g_iconst 0 16 (gd rfl) rfl rfl ?_
    exact g_ireturn (gd rfl) rfl rfl (hP _ _ ⟨_, A, sL t 195 0 _, rfl, rfl, rfl, rfl, rfl, inv_195 hI2, fr_195 (hF2), kl_195 ((kl_fr q hF2 rfl))⟩)

theorem w_13 {Z : AmZ} {A : Nat → Nat} {s : GS} {x1 : Int32} (hI : Inv s) (q : KL s) : WC Z 1300 13 [.ref (A 0), .int x1, .ref (A 195)] (WW Z A s ++ []) 3 18 (WPr Z A fm_228_0 s) := by
  intro post hP xp
  refine w_enter (k := 13) (d := 1299) (N := 60) rfl (Nat.le_of_ble_eq_true rfl) ?_
  refine g_aload_n 1 (gd rfl) rfl rfl ?_
  refine g_iconst 0 2 (gd rfl) rfl rfl ?_
  refine g_aload_n 3 (gd rfl) rfl rfl ?_
  refine g_iload_n 4 (gd rfl) rfl rfl ?_
  refine g_callvH (As := [.int x1]) (r := [.int (Int32.ofInt 0), .ref (A 195)]) (b := A 0) (q := 0) 7 (gd rfl) rfl rfl rfl rfl rfl rfl (ww_o rfl) (Nat.le_of_ble_eq_true rfl) (Nat.le_refl _) (Nat.le_refl _) (k_228_0 (by omega) hI ) (fun e u h => ?_) (fun v u h => ?_)
  · obtain ⟨rfl, t, hI2, hF2, rfl⟩ := h
    refine ⟨0, 12, by decide, rfl, rfl, fun a => ?_⟩
    refine g_astore_n 13 (gd rfl) rfl (Nat.le_of_ble_eq_true rfl) ?_
    refine g_iconst 1 14 (gd rfl) rfl rfl ?_
    exact g_ireturn (gd rfl) rfl rfl (hP _ _ ⟨_, A, t, rfl, rfl, rfl, rfl, rfl, hI2, fr_195' (hF2), (kl_fr q hF2 rfl)⟩)
  · obtain ⟨t, hI2, hF2, z, rfl, rfl, tl⟩ := h
    show GG _ _ _ _ _ _ _ _ [.int z, .int (Int32.ofInt 0), .ref (A 195)] _ _ _
    refine g_i2l 8 (gd rfl) rfl (fun z7 e7 => ?_)
    refine g_ouS (A := A) 9 (gd rfl) rfl ?_
    refine g_goto 15 (gd rfl) rfl ?_
    refine g_iconst 0 16 (gd rfl) rfl rfl ?_
    exact g_ireturn (gd rfl) rfl rfl (hP _ _ ⟨_, A, sL t 195 0 _, rfl, rfl, rfl, rfl, rfl, inv_195 hI2, fr_195 (hF2), kl_195 ((kl_fr q hF2 rfl))⟩)

theorem w_14 {Z : AmZ} {A : Nat → Nat} {s : GS} {x1 : Int32} {x2 : Int32} (hI : Inv s) (q : KL s) : WC Z 1300 14 [.ref (A 0), .int x1, .int x2, .ref (A 195)] (WW Z A s ++ []) 3 18 (WPr Z A fm_229_0 s) := by
  intro post hP xp
  refine w_enter (k := 14) (d := 1299) (N := 60) rfl (Nat.le_of_ble_eq_true rfl) ?_
  refine g_aload_n 1 (gd rfl) rfl rfl ?_
  refine g_iconst 0 2 (gd rfl) rfl rfl ?_
  refine g_aload_n 3 (gd rfl) rfl rfl ?_
  refine g_iload_n 4 (gd rfl) rfl rfl ?_
  refine g_iload_n 5 (gd rfl) rfl rfl ?_
  refine g_callvH (As := [.int x1, .int x2]) (r := [.int (Int32.ofInt 0), .ref (A 195)]) (b := A 0) (q := 0) 8 (gd rfl) rfl rfl rfl rfl rfl rfl (ww_o rfl) (Nat.le_of_ble_eq_true rfl) (Nat.le_refl _) (Nat.le_refl _) (k_229_0 (by omega) hI ) (fun e u h => ?_) (fun v u h => ?_)
  · obtain ⟨rfl, t, hI2, hF2, rfl⟩ := h
    refine ⟨0, 12, by decide, rfl, rfl, fun a => ?_⟩
    refine g_astore 14 (gd rfl) rfl (Nat.le_of_ble_eq_true rfl) ?_
    refine g_iconst 1 15 (gd rfl) rfl rfl ?_
    exact g_ireturn (gd rfl) rfl rfl (hP _ _ ⟨_, A, t, rfl, rfl, rfl, rfl, rfl, hI2, fr_195' (hF2), (kl_fr q hF2 rfl)⟩)
  · obtain ⟨t, hI2, hF2, z, rfl, rfl⟩ := h
    show GG _ _ _ _ _ _ _ _ [.long z, .int (Int32.ofInt 0), .ref (A 195)] _ _ _
    refine g_ouS (A := A) 9 (gd rfl) rfl ?_
    refine g_goto 16 (gd rfl) rfl ?_
    refine g_iconst 0 17 (gd rfl) rfl rfl ?_
    exact g_ireturn (gd rfl) rfl rfl (hP _ _ ⟨_, A, sL t 195 0 _, rfl, rfl, rfl, rfl, rfl, inv_195 hI2, fr_195 (hF2), kl_195 ((kl_fr q hF2 rfl))⟩)

theorem w_15 {Z : AmZ} {A : Nat → Nat} {s : GS} {x1 : Int32} {x2 : Int32} {x3 : Int32} (hI : Inv s) (q : KL s) : WC Z 1300 15 [.ref (A 0), .int x1, .int x2, .int x3, .ref (A 195)] (WW Z A s ++ []) 3 18 (WPr Z A fm_230_0 s) := by
  intro post hP xp
  refine w_enter (k := 15) (d := 1299) (N := 60) rfl (Nat.le_of_ble_eq_true rfl) ?_
  refine g_aload 2 (gd rfl) rfl rfl ?_
  refine g_iconst 0 3 (gd rfl) rfl rfl ?_
  refine g_aload_n 4 (gd rfl) rfl rfl ?_
  refine g_iload_n 5 (gd rfl) rfl rfl ?_
  refine g_iload_n 6 (gd rfl) rfl rfl ?_
  refine g_iload_n 7 (gd rfl) rfl rfl ?_
  refine g_callvH (As := [.int x1, .int x2, .int x3]) (r := [.int (Int32.ofInt 0), .ref (A 195)]) (b := A 0) (q := 0) 10 (gd rfl) rfl rfl rfl rfl rfl rfl (ww_o rfl) (Nat.le_of_ble_eq_true rfl) (Nat.le_refl _) (Nat.le_refl _) (k_230_0 (by omega) hI ) (fun e u h => ?_) (fun v u h => ?_)
  · obtain ⟨rfl, t, hI2, hF2, rfl⟩ := h
    refine ⟨0, 15, by decide, rfl, rfl, fun a => ?_⟩
    refine g_astore 17 (gd rfl) rfl (Nat.le_of_ble_eq_true rfl) ?_
    refine g_iconst 1 18 (gd rfl) rfl rfl ?_
    exact g_ireturn (gd rfl) rfl rfl (hP _ _ ⟨_, A, t, rfl, rfl, rfl, rfl, rfl, hI2, fr_195' (hF2), (kl_fr q hF2 rfl)⟩)
  · obtain ⟨t, hI2, hF2, z, rfl, rfl, tl⟩ := h
    show GG _ _ _ _ _ _ _ _ [.int z, .int (Int32.ofInt 0), .ref (A 195)] _ _ _
    refine g_i2l 11 (gd rfl) rfl (fun z10 e10 => ?_)
    refine g_ouS (A := A) 12 (gd rfl) rfl ?_
    refine g_goto 19 (gd rfl) rfl ?_
    refine g_iconst 0 20 (gd rfl) rfl rfl ?_
    exact g_ireturn (gd rfl) rfl rfl (hP _ _ ⟨_, A, sL t 195 0 _, rfl, rfl, rfl, rfl, rfl, inv_195 hI2, fr_195 (hF2), kl_195 ((kl_fr q hF2 rfl))⟩)

theorem w_16 {Z : AmZ} {A : Nat → Nat} {s : GS} {x1 : Int32} {x2 : Int32} (hI : Inv s) (q : KL s) : WC Z 1300 16 [.ref (A 0), .int x1, .int x2, .ref (A 195)] (WW Z A s ++ []) 3 18 (WPr Z A fm_231_0 s) := by
  intro post hP xp
  refine w_enter (k := 16) (d := 1299) (N := 60) rfl (Nat.le_of_ble_eq_true rfl) ?_
  refine g_aload_n 1 (gd rfl) rfl rfl ?_
  refine g_iconst 0 2 (gd rfl) rfl rfl ?_
  refine g_aload_n 3 (gd rfl) rfl rfl ?_
  refine g_iload_n 4 (gd rfl) rfl rfl ?_
  refine g_iload_n 5 (gd rfl) rfl rfl ?_
  refine g_callvH (As := [.int x1, .int x2]) (r := [.int (Int32.ofInt 0), .ref (A 195)]) (b := A 0) (q := 0) 8 (gd rfl) rfl rfl rfl rfl rfl rfl (ww_o rfl) (Nat.le_of_ble_eq_true rfl) (Nat.le_refl _) (Nat.le_refl _) (k_231_0 (by omega) hI ) (fun e u h => ?_) (fun v u h => ?_)
  · obtain ⟨rfl, t, hI2, hF2, rfl⟩ := h
    refine ⟨0, 13, by decide, rfl, rfl, fun a => ?_⟩
    refine g_astore 15 (gd rfl) rfl (Nat.le_of_ble_eq_true rfl) ?_
    refine g_iconst 1 16 (gd rfl) rfl rfl ?_
    exact g_ireturn (gd rfl) rfl rfl (hP _ _ ⟨_, A, t, rfl, rfl, rfl, rfl, rfl, hI2, fr_195' (hF2), (kl_fr q hF2 rfl)⟩)
  · obtain ⟨t, hI2, hF2, z, rfl, rfl, tl⟩ := h
    show GG _ _ _ _ _ _ _ _ [.int z, .int (Int32.ofInt 0), .ref (A 195)] _ _ _
    refine g_i2l 9 (gd rfl) rfl (fun z8 e8 => ?_)
    refine g_ouS (A := A) 10 (gd rfl) rfl ?_
    refine g_goto 17 (gd rfl) rfl ?_
    refine g_iconst 0 18 (gd rfl) rfl rfl ?_
    exact g_ireturn (gd rfl) rfl rfl (hP _ _ ⟨_, A, sL t 195 0 _, rfl, rfl, rfl, rfl, rfl, inv_195 hI2, fr_195 (hF2), kl_195 ((kl_fr q hF2 rfl))⟩)

theorem w_19 {Z : AmZ} {A : Nat → Nat} {s : GS} {x1 : Int32} {x2 : Int32} (hI : Inv s) (q : KL s) : WC Z 1300 19 [.ref (A 0), .int x1, .int x2, .ref (A 195)] (WW Z A s ++ []) 3 18 (WPr Z A fm_234_0 s) := by
  intro post hP xp
  refine w_enter (k := 19) (d := 1299) (N := 60) rfl (Nat.le_of_ble_eq_true rfl) ?_
  refine g_aload_n 1 (gd rfl) rfl rfl ?_
  refine g_iconst 0 2 (gd rfl) rfl rfl ?_
  refine g_aload_n 3 (gd rfl) rfl rfl ?_
  refine g_iload_n 4 (gd rfl) rfl rfl ?_
  refine g_iload_n 5 (gd rfl) rfl rfl ?_
  refine g_callvH (As := [.int x1, .int x2]) (r := [.int (Int32.ofInt 0), .ref (A 195)]) (b := A 0) (q := 0) 8 (gd rfl) rfl rfl rfl rfl rfl rfl (ww_o rfl) (Nat.le_of_ble_eq_true rfl) (Nat.le_refl _) (Nat.le_refl _) (k_234_0 (by omega) hI ) (fun e u h => ?_) (fun v u h => ?_)
  · obtain ⟨rfl, t, hI2, hF2, rfl⟩ := h
    refine ⟨0, 13, by decide, rfl, rfl, fun a => ?_⟩
    refine g_astore 15 (gd rfl) rfl (Nat.le_of_ble_eq_true rfl) ?_
    refine g_iconst 1 16 (gd rfl) rfl rfl ?_
    exact g_ireturn (gd rfl) rfl rfl (hP _ _ ⟨_, A, t, rfl, rfl, rfl, rfl, rfl, hI2, fr_195' (hF2), (kl_fr q hF2 rfl)⟩)
  · obtain ⟨t, hI2, hF2, z, rfl, rfl, tl⟩ := h
    show GG _ _ _ _ _ _ _ _ [.int z, .int (Int32.ofInt 0), .ref (A 195)] _ _ _
    refine g_i2l 9 (gd rfl) rfl (fun z8 e8 => ?_)
    refine g_ouS (A := A) 10 (gd rfl) rfl ?_
    refine g_goto 17 (gd rfl) rfl ?_
    refine g_iconst 0 18 (gd rfl) rfl rfl ?_
    exact g_ireturn (gd rfl) rfl rfl (hP _ _ ⟨_, A, sL t 195 0 _, rfl, rfl, rfl, rfl, rfl, inv_195 hI2, fr_195 (hF2), kl_195 ((kl_fr q hF2 rfl))⟩)

theorem w_20 {Z : AmZ} {A : Nat → Nat} {s : GS} {x1 : Int32} (hI : Inv s) (q : KL s) : WC Z 1300 20 [.ref (A 0), .int x1, .ref (A 195)] (WW Z A s ++ []) 3 18 (WPr Z A fm_235_0 s) := by
  intro post hP xp
  refine w_enter (k := 20) (d := 1299) (N := 60) rfl (Nat.le_of_ble_eq_true rfl) ?_
  refine g_aload_n 1 (gd rfl) rfl rfl ?_
  refine g_iconst 0 2 (gd rfl) rfl rfl ?_
  refine g_aload_n 3 (gd rfl) rfl rfl ?_
  refine g_iload_n 4 (gd rfl) rfl rfl ?_
  refine g_callvH (As := [.int x1]) (r := [.int (Int32.ofInt 0), .ref (A 195)]) (b := A 0) (q := 0) 7 (gd rfl) rfl rfl rfl rfl rfl rfl (ww_o rfl) (Nat.le_of_ble_eq_true rfl) (Nat.le_refl _) (Nat.le_refl _) (k_235_0 (by omega) hI ) (fun e u h => ?_) (fun v u h => ?_)
  · obtain ⟨rfl, t, hI2, hF2, rfl⟩ := h
    refine ⟨0, 19, by decide, rfl, rfl, fun a => ?_⟩
    refine g_astore_n 20 (gd rfl) rfl (Nat.le_of_ble_eq_true rfl) ?_
    refine g_iconst 1 21 (gd rfl) rfl rfl ?_
    exact g_ireturn (gd rfl) rfl rfl (hP _ _ ⟨_, A, t, rfl, rfl, rfl, rfl, rfl, hI2, fr_195' (hF2), (kl_fr q hF2 rfl)⟩)
  · obtain ⟨t, hI2, hF2, z, rfl, rfl, tl⟩ := h
    show GG _ _ _ _ _ _ _ _ [.int z, .int (Int32.ofInt 0), .ref (A 195)] _ _ _
    refine g_if_eq 10 14 (gd rfl) rfl rfl (fun c => ?_) (fun c => ?_)
    · refine g_lconst 0 15 (gd rfl) rfl rfl ?_
      refine g_ouS (A := A) 16 (gd rfl) rfl ?_
      refine g_goto 22 (gd rfl) rfl ?_
      refine g_iconst 0 23 (gd rfl) rfl rfl ?_
      exact g_ireturn (gd rfl) rfl rfl (hP _ _ ⟨_, A, sL t 195 0 _, rfl, rfl, rfl, rfl, rfl, inv_195 hI2, fr_195 (hF2), kl_195 ((kl_fr q hF2 rfl))⟩)
    · refine g_lconst 1 11 (gd rfl) rfl rfl ?_
      refine g_goto 15 (gd rfl) rfl ?_
      refine g_ouS (A := A) 16 (gd rfl) rfl ?_
      refine g_goto 22 (gd rfl) rfl ?_
      refine g_iconst 0 23 (gd rfl) rfl rfl ?_
      exact g_ireturn (gd rfl) rfl rfl (hP _ _ ⟨_, A, sL t 195 0 _, rfl, rfl, rfl, rfl, rfl, inv_195 hI2, fr_195 (hF2), kl_195 ((kl_fr q hF2 rfl))⟩)

theorem w_21 {Z : AmZ} {A : Nat → Nat} {s : GS} {x1 : Int32} (hI : Inv s) (q : KL s) : WC Z 1300 21 [.ref (A 0), .int x1, .ref (A 195)] (WW Z A s ++ []) 3 18 (WPr Z A fm_236_0 s) := by
  intro post hP xp
  refine w_enter (k := 21) (d := 1299) (N := 60) rfl (Nat.le_of_ble_eq_true rfl) ?_
  refine g_aload_n 1 (gd rfl) rfl rfl ?_
  refine g_iconst 0 2 (gd rfl) rfl rfl ?_
  refine g_aload_n 3 (gd rfl) rfl rfl ?_
  refine g_iload_n 4 (gd rfl) rfl rfl ?_
  refine g_callvH (As := [.int x1]) (r := [.int (Int32.ofInt 0), .ref (A 195)]) (b := A 0) (q := 0) 7 (gd rfl) rfl rfl rfl rfl rfl rfl (ww_o rfl) (Nat.le_of_ble_eq_true rfl) (Nat.le_refl _) (Nat.le_refl _) (k_236_0 (by omega) hI ) (fun e u h => ?_) (fun v u h => ?_)
  · obtain ⟨rfl, t, hI2, hF2, rfl⟩ := h
    refine ⟨0, 19, by decide, rfl, rfl, fun a => ?_⟩
    refine g_astore_n 20 (gd rfl) rfl (Nat.le_of_ble_eq_true rfl) ?_
    refine g_iconst 1 21 (gd rfl) rfl rfl ?_
    exact g_ireturn (gd rfl) rfl rfl (hP _ _ ⟨_, A, t, rfl, rfl, rfl, rfl, rfl, hI2, fr_195' (hF2), (kl_fr q hF2 rfl)⟩)
  · obtain ⟨t, hI2, hF2, z, rfl, rfl, tl⟩ := h
    show GG _ _ _ _ _ _ _ _ [.int z, .int (Int32.ofInt 0), .ref (A 195)] _ _ _
    refine g_if_eq 10 14 (gd rfl) rfl rfl (fun c => ?_) (fun c => ?_)
    · refine g_lconst 0 15 (gd rfl) rfl rfl ?_
      refine g_ouS (A := A) 16 (gd rfl) rfl ?_
      refine g_goto 22 (gd rfl) rfl ?_
      refine g_iconst 0 23 (gd rfl) rfl rfl ?_
      exact g_ireturn (gd rfl) rfl rfl (hP _ _ ⟨_, A, sL t 195 0 _, rfl, rfl, rfl, rfl, rfl, inv_195 hI2, fr_195 (hF2), kl_195 ((kl_fr q hF2 rfl))⟩)
    · refine g_lconst 1 11 (gd rfl) rfl rfl ?_
      refine g_goto 15 (gd rfl) rfl ?_
      refine g_ouS (A := A) 16 (gd rfl) rfl ?_
      refine g_goto 22 (gd rfl) rfl ?_
      refine g_iconst 0 23 (gd rfl) rfl rfl ?_
      exact g_ireturn (gd rfl) rfl rfl (hP _ _ ⟨_, A, sL t 195 0 _, rfl, rfl, rfl, rfl, rfl, inv_195 hI2, fr_195 (hF2), kl_195 ((kl_fr q hF2 rfl))⟩)

theorem w_22 {Z : AmZ} {A : Nat → Nat} {s : GS} {x1 : Int32} (hI : Inv s) (q : KL s) : WC Z 1300 22 [.ref (A 0), .int x1, .ref (A 195)] (WW Z A s ++ []) 3 18 (WPr Z A fm_237_0 s) := by
  intro post hP xp
  refine w_enter (k := 22) (d := 1299) (N := 60) rfl (Nat.le_of_ble_eq_true rfl) ?_
  refine g_aload_n 1 (gd rfl) rfl rfl ?_
  refine g_iconst 0 2 (gd rfl) rfl rfl ?_
  refine g_aload_n 3 (gd rfl) rfl rfl ?_
  refine g_iload_n 4 (gd rfl) rfl rfl ?_
  refine g_callvH (As := [.int x1]) (r := [.int (Int32.ofInt 0), .ref (A 195)]) (b := A 0) (q := 0) 7 (gd rfl) rfl rfl rfl rfl rfl rfl (ww_o rfl) (Nat.le_of_ble_eq_true rfl) (Nat.le_refl _) (Nat.le_refl _) (k_237_0 (by omega) hI ) (fun e u h => ?_) (fun v u h => ?_)
  · obtain ⟨rfl, t, hI2, hF2, rfl⟩ := h
    refine ⟨0, 12, by decide, rfl, rfl, fun a => ?_⟩
    refine g_astore_n 13 (gd rfl) rfl (Nat.le_of_ble_eq_true rfl) ?_
    refine g_iconst 1 14 (gd rfl) rfl rfl ?_
    exact g_ireturn (gd rfl) rfl rfl (hP _ _ ⟨_, A, t, rfl, rfl, rfl, rfl, rfl, hI2, fr_195' (hF2), (kl_fr q hF2 rfl)⟩)
  · obtain ⟨t, hI2, hF2, z, rfl, rfl, tl⟩ := h
    show GG _ _ _ _ _ _ _ _ [.int z, .int (Int32.ofInt 0), .ref (A 195)] _ _ _
    refine g_i2l 8 (gd rfl) rfl (fun z7 e7 => ?_)
    refine g_ouS (A := A) 9 (gd rfl) rfl ?_
    refine g_goto 15 (gd rfl) rfl ?_
    refine g_iconst 0 16 (gd rfl) rfl rfl ?_
    exact g_ireturn (gd rfl) rfl rfl (hP _ _ ⟨_, A, sL t 195 0 _, rfl, rfl, rfl, rfl, rfl, inv_195 hI2, fr_195 (hF2), kl_195 ((kl_fr q hF2 rfl))⟩)

theorem w_23 {Z : AmZ} {A : Nat → Nat} {s : GS} {x1 : Int32} (hI : Inv s) (q : KL s) : WC Z 1300 23 [.ref (A 0), .int x1, .ref (A 195)] (WW Z A s ++ []) 3 18 (WPr Z A fm_238_0 s) := by
  intro post hP xp
  refine w_enter (k := 23) (d := 1299) (N := 60) rfl (Nat.le_of_ble_eq_true rfl) ?_
  refine g_aload_n 1 (gd rfl) rfl rfl ?_
  refine g_iconst 0 2 (gd rfl) rfl rfl ?_
  refine g_aload_n 3 (gd rfl) rfl rfl ?_
  refine g_iload_n 4 (gd rfl) rfl rfl ?_
  refine g_callvH (As := [.int x1]) (r := [.int (Int32.ofInt 0), .ref (A 195)]) (b := A 0) (q := 0) 7 (gd rfl) rfl rfl rfl rfl rfl rfl (ww_o rfl) (Nat.le_of_ble_eq_true rfl) (Nat.le_refl _) (Nat.le_refl _) (k_238_0 (by omega) hI ) (fun e u h => ?_) (fun v u h => ?_)
  · obtain ⟨rfl, t, hI2, hF2, rfl⟩ := h
    refine ⟨0, 12, by decide, rfl, rfl, fun a => ?_⟩
    refine g_astore_n 13 (gd rfl) rfl (Nat.le_of_ble_eq_true rfl) ?_
    refine g_iconst 1 14 (gd rfl) rfl rfl ?_
    exact g_ireturn (gd rfl) rfl rfl (hP _ _ ⟨_, A, t, rfl, rfl, rfl, rfl, rfl, hI2, fr_195' (hF2), (kl_fr q hF2 rfl)⟩)
  · obtain ⟨t, hI2, hF2, z, rfl, rfl, tl⟩ := h
    show GG _ _ _ _ _ _ _ _ [.int z, .int (Int32.ofInt 0), .ref (A 195)] _ _ _
    refine g_i2l 8 (gd rfl) rfl (fun z7 e7 => ?_)
    refine g_ouS (A := A) 9 (gd rfl) rfl ?_
    refine g_goto 15 (gd rfl) rfl ?_
    refine g_iconst 0 16 (gd rfl) rfl rfl ?_
    exact g_ireturn (gd rfl) rfl rfl (hP _ _ ⟨_, A, sL t 195 0 _, rfl, rfl, rfl, rfl, rfl, inv_195 hI2, fr_195 (hF2), kl_195 ((kl_fr q hF2 rfl))⟩)

theorem w_24 {Z : AmZ} {A : Nat → Nat} {s : GS} {x1 : Int32} (hI : Inv s) (q : KL s) : WC Z 1300 24 [.ref (A 0), .int x1, .ref (A 195)] (WW Z A s ++ []) 3 18 (WPr Z A fm_239_0 s) := by
  intro post hP xp
  refine w_enter (k := 24) (d := 1299) (N := 60) rfl (Nat.le_of_ble_eq_true rfl) ?_
  refine g_aload_n 1 (gd rfl) rfl rfl ?_
  refine g_iconst 0 2 (gd rfl) rfl rfl ?_
  refine g_aload_n 3 (gd rfl) rfl rfl ?_
  refine g_iload_n 4 (gd rfl) rfl rfl ?_
  refine g_callvH (As := [.int x1]) (r := [.int (Int32.ofInt 0), .ref (A 195)]) (b := A 0) (q := 0) 7 (gd rfl) rfl rfl rfl rfl rfl rfl (ww_o rfl) (Nat.le_of_ble_eq_true rfl) (Nat.le_refl _) (Nat.le_refl _) (k_239_0 (by omega) hI ) (fun e u h => ?_) (fun v u h => ?_)
  · obtain ⟨rfl, t, hI2, hF2, rfl⟩ := h
    refine ⟨0, 12, by decide, rfl, rfl, fun a => ?_⟩
    refine g_astore_n 13 (gd rfl) rfl (Nat.le_of_ble_eq_true rfl) ?_
    refine g_iconst 1 14 (gd rfl) rfl rfl ?_
    exact g_ireturn (gd rfl) rfl rfl (hP _ _ ⟨_, A, t, rfl, rfl, rfl, rfl, rfl, hI2, fr_195' (hF2), (kl_fr q hF2 rfl)⟩)
  · obtain ⟨t, hI2, hF2, z, rfl, rfl, tl⟩ := h
    show GG _ _ _ _ _ _ _ _ [.int z, .int (Int32.ofInt 0), .ref (A 195)] _ _ _
    refine g_i2l 8 (gd rfl) rfl (fun z7 e7 => ?_)
    refine g_ouS (A := A) 9 (gd rfl) rfl ?_
    refine g_goto 15 (gd rfl) rfl ?_
    refine g_iconst 0 16 (gd rfl) rfl rfl ?_
    exact g_ireturn (gd rfl) rfl rfl (hP _ _ ⟨_, A, sL t 195 0 _, rfl, rfl, rfl, rfl, rfl, inv_195 hI2, fr_195 (hF2), kl_195 ((kl_fr q hF2 rfl))⟩)

theorem w_25 {Z : AmZ} {A : Nat → Nat} {s : GS} {x1 : Int32} (hI : Inv s) (q : KL s) : WC Z 1300 25 [.ref (A 0), .int x1, .ref (A 195)] (WW Z A s ++ []) 3 18 (WPr Z A fm_240_0 s) := by
  intro post hP xp
  refine w_enter (k := 25) (d := 1299) (N := 60) rfl (Nat.le_of_ble_eq_true rfl) ?_
  refine g_aload_n 1 (gd rfl) rfl rfl ?_
  refine g_iconst 0 2 (gd rfl) rfl rfl ?_
  refine g_aload_n 3 (gd rfl) rfl rfl ?_
  refine g_iload_n 4 (gd rfl) rfl rfl ?_
  refine g_callvH (As := [.int x1]) (r := [.int (Int32.ofInt 0), .ref (A 195)]) (b := A 0) (q := 0) 7 (gd rfl) rfl rfl rfl rfl rfl rfl (ww_o rfl) (Nat.le_of_ble_eq_true rfl) (Nat.le_refl _) (Nat.le_refl _) (k_240_0 (by omega) hI ) (fun e u h => ?_) (fun v u h => ?_)
  · obtain ⟨rfl, t, hI2, hF2, rfl⟩ := h
    refine ⟨0, 12, by decide, rfl, rfl, fun a => ?_⟩
    refine g_astore_n 13 (gd rfl) rfl (Nat.le_of_ble_eq_true rfl) ?_
    refine g_iconst 1 14 (gd rfl) rfl rfl ?_
    exact g_ireturn (gd rfl) rfl rfl (hP _ _ ⟨_, A, t, rfl, rfl, rfl, rfl, rfl, hI2, fr_195' (hF2), (kl_fr q hF2 rfl)⟩)
  · obtain ⟨t, hI2, hF2, z, rfl, rfl, tl⟩ := h
    show GG _ _ _ _ _ _ _ _ [.int z, .int (Int32.ofInt 0), .ref (A 195)] _ _ _
    refine g_i2l 8 (gd rfl) rfl (fun z7 e7 => ?_)
    refine g_ouS (A := A) 9 (gd rfl) rfl ?_
    refine g_goto 15 (gd rfl) rfl ?_
    refine g_iconst 0 16 (gd rfl) rfl rfl ?_
    exact g_ireturn (gd rfl) rfl rfl (hP _ _ ⟨_, A, sL t 195 0 _, rfl, rfl, rfl, rfl, rfl, inv_195 hI2, fr_195 (hF2), kl_195 ((kl_fr q hF2 rfl))⟩)

theorem w_26 {Z : AmZ} {A : Nat → Nat} {s : GS} {x1 : Int32} {x2 : Int32} (hI : Inv s) (q : KL s) : WC Z 1300 26 [.ref (A 0), .int x1, .int x2, .ref (A 195)] (WW Z A s ++ []) 3 18 (WPr Z A fm_241_0 s) := by
  intro post hP xp
  refine w_enter (k := 26) (d := 1299) (N := 60) rfl (Nat.le_of_ble_eq_true rfl) ?_
  refine g_aload_n 1 (gd rfl) rfl rfl ?_
  refine g_iconst 0 2 (gd rfl) rfl rfl ?_
  refine g_aload_n 3 (gd rfl) rfl rfl ?_
  refine g_iload_n 4 (gd rfl) rfl rfl ?_
  refine g_iload_n 5 (gd rfl) rfl rfl ?_
  refine g_callvH (As := [.int x1, .int x2]) (r := [.int (Int32.ofInt 0), .ref (A 195)]) (b := A 0) (q := 0) 8 (gd rfl) rfl rfl rfl rfl rfl rfl (ww_o rfl) (Nat.le_of_ble_eq_true rfl) (Nat.le_refl _) (Nat.le_refl _) (k_241_0 (by omega) hI ) (fun e u h => ?_) (fun v u h => ?_)
  · obtain ⟨rfl, t, hI2, hF2, rfl⟩ := h
    refine ⟨0, 12, by decide, rfl, rfl, fun a => ?_⟩
    refine g_astore 14 (gd rfl) rfl (Nat.le_of_ble_eq_true rfl) ?_
    refine g_iconst 1 15 (gd rfl) rfl rfl ?_
    exact g_ireturn (gd rfl) rfl rfl (hP _ _ ⟨_, A, t, rfl, rfl, rfl, rfl, rfl, hI2, fr_195' (hF2), (kl_fr q hF2 rfl)⟩)
  · obtain ⟨t, hI2, hF2, z, rfl, rfl⟩ := h
    show GG _ _ _ _ _ _ _ _ [.long z, .int (Int32.ofInt 0), .ref (A 195)] _ _ _
    refine g_ouS (A := A) 9 (gd rfl) rfl ?_
    refine g_goto 16 (gd rfl) rfl ?_
    refine g_iconst 0 17 (gd rfl) rfl rfl ?_
    exact g_ireturn (gd rfl) rfl rfl (hP _ _ ⟨_, A, sL t 195 0 _, rfl, rfl, rfl, rfl, rfl, inv_195 hI2, fr_195 (hF2), kl_195 ((kl_fr q hF2 rfl))⟩)

theorem w_27 {Z : AmZ} {A : Nat → Nat} {s : GS} {x1 : Int32} {x2 : Int32} {x3 : Int32} (hI : Inv s) (q : KL s) : WC Z 1300 27 [.ref (A 0), .int x1, .int x2, .int x3, .ref (A 195)] (WW Z A s ++ []) 3 18 (WPr Z A fm_242_0 s) := by
  intro post hP xp
  refine w_enter (k := 27) (d := 1299) (N := 60) rfl (Nat.le_of_ble_eq_true rfl) ?_
  refine g_aload 2 (gd rfl) rfl rfl ?_
  refine g_iconst 0 3 (gd rfl) rfl rfl ?_
  refine g_aload_n 4 (gd rfl) rfl rfl ?_
  refine g_iload_n 5 (gd rfl) rfl rfl ?_
  refine g_iload_n 6 (gd rfl) rfl rfl ?_
  refine g_iload_n 7 (gd rfl) rfl rfl ?_
  refine g_callvH (As := [.int x1, .int x2, .int x3]) (r := [.int (Int32.ofInt 0), .ref (A 195)]) (b := A 0) (q := 0) 10 (gd rfl) rfl rfl rfl rfl rfl rfl (ww_o rfl) (Nat.le_of_ble_eq_true rfl) (Nat.le_refl _) (Nat.le_refl _) (k_242_0 (by omega) hI ) (fun e u h => ?_) (fun v u h => ?_)
  · obtain ⟨rfl, t, hI2, hF2, rfl⟩ := h
    refine ⟨0, 22, by decide, rfl, rfl, fun a => ?_⟩
    refine g_astore 24 (gd rfl) rfl (Nat.le_of_ble_eq_true rfl) ?_
    refine g_iconst 1 25 (gd rfl) rfl rfl ?_
    exact g_ireturn (gd rfl) rfl rfl (hP _ _ ⟨_, A, t, rfl, rfl, rfl, rfl, rfl, hI2, fr_195' (hF2), (kl_fr q hF2 rfl)⟩)
  · obtain ⟨t, hI2, hF2, z, rfl, rfl, tl⟩ := h
    show GG _ _ _ _ _ _ _ _ [.int z, .int (Int32.ofInt 0), .ref (A 195)] _ _ _
    refine g_if_eq 13 17 (gd rfl) rfl rfl (fun c => ?_) (fun c => ?_)
    · refine g_lconst 0 18 (gd rfl) rfl rfl ?_
      refine g_ouS (A := A) 19 (gd rfl) rfl ?_
      refine g_goto 26 (gd rfl) rfl ?_
      refine g_iconst 0 27 (gd rfl) rfl rfl ?_
      exact g_ireturn (gd rfl) rfl rfl (hP _ _ ⟨_, A, sL t 195 0 _, rfl, rfl, rfl, rfl, rfl, inv_195 hI2, fr_195 (hF2), kl_195 ((kl_fr q hF2 rfl))⟩)
    · refine g_lconst 1 14 (gd rfl) rfl rfl ?_
      refine g_goto 18 (gd rfl) rfl ?_
      refine g_ouS (A := A) 19 (gd rfl) rfl ?_
      refine g_goto 26 (gd rfl) rfl ?_
      refine g_iconst 0 27 (gd rfl) rfl rfl ?_
      exact g_ireturn (gd rfl) rfl rfl (hP _ _ ⟨_, A, sL t 195 0 _, rfl, rfl, rfl, rfl, rfl, inv_195 hI2, fr_195 (hF2), kl_195 ((kl_fr q hF2 rfl))⟩)

theorem w_28 {Z : AmZ} {A : Nat → Nat} {s : GS} {x1 : Int32} {x2 : Int32} {x3 : Int32} (hI : Inv s) (q : KL s) : WC Z 1300 28 [.ref (A 0), .int x1, .int x2, .int x3, .ref (A 195)] (WW Z A s ++ []) 3 18 (WPr Z A fm_243_0 s) := by
  intro post hP xp
  refine w_enter (k := 28) (d := 1299) (N := 60) rfl (Nat.le_of_ble_eq_true rfl) ?_
  refine g_aload 2 (gd rfl) rfl rfl ?_
  refine g_iconst 0 3 (gd rfl) rfl rfl ?_
  refine g_aload_n 4 (gd rfl) rfl rfl ?_
  refine g_iload_n 5 (gd rfl) rfl rfl ?_
  refine g_iload_n 6 (gd rfl) rfl rfl ?_
  refine g_iload_n 7 (gd rfl) rfl rfl ?_
  refine g_callvH (As := [.int x1, .int x2, .int x3]) (r := [.int (Int32.ofInt 0), .ref (A 195)]) (b := A 0) (q := 0) 10 (gd rfl) rfl rfl rfl rfl rfl rfl (ww_o rfl) (Nat.le_of_ble_eq_true rfl) (Nat.le_refl _) (Nat.le_refl _) (k_243_0 (by omega) hI ) (fun e u h => ?_) (fun v u h => ?_)
  · obtain ⟨rfl, t, hI2, hF2, rfl⟩ := h
    refine ⟨0, 14, by decide, rfl, rfl, fun a => ?_⟩
    refine g_astore 16 (gd rfl) rfl (Nat.le_of_ble_eq_true rfl) ?_
    refine g_iconst 1 17 (gd rfl) rfl rfl ?_
    exact g_ireturn (gd rfl) rfl rfl (hP _ _ ⟨_, A, t, rfl, rfl, rfl, rfl, rfl, hI2, fr_195' (hF2), (kl_fr q hF2 rfl)⟩)
  · obtain ⟨t, hI2, hF2, z, rfl, rfl⟩ := h
    show GG _ _ _ _ _ _ _ _ [.long z, .int (Int32.ofInt 0), .ref (A 195)] _ _ _
    refine g_ouS (A := A) 11 (gd rfl) rfl ?_
    refine g_goto 18 (gd rfl) rfl ?_
    refine g_iconst 0 19 (gd rfl) rfl rfl ?_
    exact g_ireturn (gd rfl) rfl rfl (hP _ _ ⟨_, A, sL t 195 0 _, rfl, rfl, rfl, rfl, rfl, inv_195 hI2, fr_195 (hF2), kl_195 ((kl_fr q hF2 rfl))⟩)

theorem w_29 {Z : AmZ} {A : Nat → Nat} {s : GS} {x1 : Int32} (hI : Inv s) (q : KL s) : WC Z 1300 29 [.ref (A 0), .int x1, .ref (A 195)] (WW Z A s ++ []) 3 18 (WPr Z A fm_244_0 s) := by
  intro post hP xp
  refine w_enter (k := 29) (d := 1299) (N := 60) rfl (Nat.le_of_ble_eq_true rfl) ?_
  refine g_aload_n 1 (gd rfl) rfl rfl ?_
  refine g_iconst 0 2 (gd rfl) rfl rfl ?_
  refine g_aload_n 3 (gd rfl) rfl rfl ?_
  refine g_iload_n 4 (gd rfl) rfl rfl ?_
  refine g_callvH (As := [.int x1]) (r := [.int (Int32.ofInt 0), .ref (A 195)]) (b := A 0) (q := 0) 7 (gd rfl) rfl rfl rfl rfl rfl rfl (ww_o rfl) (Nat.le_of_ble_eq_true rfl) (Nat.le_refl _) (Nat.le_refl _) (k_244_0 (by omega) hI ) (fun e u h => ?_) (fun v u h => ?_)
  · obtain ⟨rfl, t, hI2, hF2, rfl⟩ := h
    refine ⟨0, 11, by decide, rfl, rfl, fun a => ?_⟩
    refine g_astore_n 12 (gd rfl) rfl (Nat.le_of_ble_eq_true rfl) ?_
    refine g_iconst 1 13 (gd rfl) rfl rfl ?_
    exact g_ireturn (gd rfl) rfl rfl (hP _ _ ⟨_, A, t, rfl, rfl, rfl, rfl, rfl, hI2, fr_195' (hF2), (kl_fr q hF2 rfl)⟩)
  · obtain ⟨t, hI2, hF2, z, rfl, rfl⟩ := h
    show GG _ _ _ _ _ _ _ _ [.long z, .int (Int32.ofInt 0), .ref (A 195)] _ _ _
    refine g_ouS (A := A) 8 (gd rfl) rfl ?_
    refine g_goto 14 (gd rfl) rfl ?_
    refine g_iconst 0 15 (gd rfl) rfl rfl ?_
    exact g_ireturn (gd rfl) rfl rfl (hP _ _ ⟨_, A, sL t 195 0 _, rfl, rfl, rfl, rfl, rfl, inv_195 hI2, fr_195 (hF2), kl_195 ((kl_fr q hF2 rfl))⟩)

theorem w_30 {Z : AmZ} {A : Nat → Nat} {s : GS} {x1 : Int32} (hI : Inv s) (q : KL s) : WC Z 1300 30 [.ref (A 0), .int x1, .ref (A 195)] (WW Z A s ++ []) 3 18 (WPr Z A fm_245_0 s) := by
  intro post hP xp
  refine w_enter (k := 30) (d := 1299) (N := 60) rfl (Nat.le_of_ble_eq_true rfl) ?_
  refine g_aload_n 1 (gd rfl) rfl rfl ?_
  refine g_iconst 0 2 (gd rfl) rfl rfl ?_
  refine g_aload_n 3 (gd rfl) rfl rfl ?_
  refine g_iload_n 4 (gd rfl) rfl rfl ?_
  refine g_callvH (As := [.int x1]) (r := [.int (Int32.ofInt 0), .ref (A 195)]) (b := A 0) (q := 0) 7 (gd rfl) rfl rfl rfl rfl rfl rfl (ww_o rfl) (Nat.le_of_ble_eq_true rfl) (Nat.le_refl _) (Nat.le_refl _) (k_245_0 (by omega) hI rfl rfl q) (fun e u h => ?_) (fun v u h => ?_)
  · obtain ⟨rfl, t, hI2, hF2, rfl⟩ := h
    refine ⟨0, 11, by decide, rfl, rfl, fun a => ?_⟩
    refine g_astore_n 12 (gd rfl) rfl (Nat.le_of_ble_eq_true rfl) ?_
    refine g_iconst 1 13 (gd rfl) rfl rfl ?_
    exact g_ireturn (gd rfl) rfl rfl (hP _ _ ⟨_, A, t, rfl, rfl, rfl, rfl, rfl, hI2, fr_195' (fr_up hF2), (kl_fr q hF2 rfl)⟩)
  · obtain ⟨t, hI2, hF2, z, rfl, rfl⟩ := h
    show GG _ _ _ _ _ _ _ _ [.long z, .int (Int32.ofInt 0), .ref (A 195)] _ _ _
    refine g_ouS (A := A) 8 (gd rfl) rfl ?_
    refine g_goto 14 (gd rfl) rfl ?_
    refine g_iconst 0 15 (gd rfl) rfl rfl ?_
    exact g_ireturn (gd rfl) rfl rfl (hP _ _ ⟨_, A, sL t 195 0 _, rfl, rfl, rfl, rfl, rfl, inv_195 hI2, fr_195 (hF2), kl_195 ((kl_fr q hF2 rfl))⟩)

theorem w_31 {Z : AmZ} {A : Nat → Nat} {s : GS} {x1 : Int32} (hI : Inv s) (q : KL s) : WC Z 1300 31 [.ref (A 0), .int x1, .ref (A 195)] (WW Z A s ++ []) 3 18 (WPr Z A fm_246_0 s) := by
  intro post hP xp
  refine w_enter (k := 31) (d := 1299) (N := 60) rfl (Nat.le_of_ble_eq_true rfl) ?_
  refine g_aload_n 1 (gd rfl) rfl rfl ?_
  refine g_iconst 0 2 (gd rfl) rfl rfl ?_
  refine g_aload_n 3 (gd rfl) rfl rfl ?_
  refine g_iload_n 4 (gd rfl) rfl rfl ?_
  refine g_callvH (As := [.int x1]) (r := [.int (Int32.ofInt 0), .ref (A 195)]) (b := A 0) (q := 0) 7 (gd rfl) rfl rfl rfl rfl rfl rfl (ww_o rfl) (Nat.le_of_ble_eq_true rfl) (Nat.le_refl _) (Nat.le_refl _) (k_246_0 (by omega) hI ) (fun e u h => ?_) (fun v u h => ?_)
  · obtain ⟨rfl, t, hI2, hF2, rfl⟩ := h
    refine ⟨0, 19, by decide, rfl, rfl, fun a => ?_⟩
    refine g_astore_n 20 (gd rfl) rfl (Nat.le_of_ble_eq_true rfl) ?_
    refine g_iconst 1 21 (gd rfl) rfl rfl ?_
    exact g_ireturn (gd rfl) rfl rfl (hP _ _ ⟨_, A, t, rfl, rfl, rfl, rfl, rfl, hI2, fr_195' (hF2), (kl_fr q hF2 rfl)⟩)
  · obtain ⟨t, hI2, hF2, z, rfl, rfl, tl⟩ := h
    show GG _ _ _ _ _ _ _ _ [.int z, .int (Int32.ofInt 0), .ref (A 195)] _ _ _
    refine g_if_eq 10 14 (gd rfl) rfl rfl (fun c => ?_) (fun c => ?_)
    · refine g_lconst 0 15 (gd rfl) rfl rfl ?_
      refine g_ouS (A := A) 16 (gd rfl) rfl ?_
      refine g_goto 22 (gd rfl) rfl ?_
      refine g_iconst 0 23 (gd rfl) rfl rfl ?_
      exact g_ireturn (gd rfl) rfl rfl (hP _ _ ⟨_, A, sL t 195 0 _, rfl, rfl, rfl, rfl, rfl, inv_195 hI2, fr_195 (hF2), kl_195 ((kl_fr q hF2 rfl))⟩)
    · refine g_lconst 1 11 (gd rfl) rfl rfl ?_
      refine g_goto 15 (gd rfl) rfl ?_
      refine g_ouS (A := A) 16 (gd rfl) rfl ?_
      refine g_goto 22 (gd rfl) rfl ?_
      refine g_iconst 0 23 (gd rfl) rfl rfl ?_
      exact g_ireturn (gd rfl) rfl rfl (hP _ _ ⟨_, A, sL t 195 0 _, rfl, rfl, rfl, rfl, rfl, inv_195 hI2, fr_195 (hF2), kl_195 ((kl_fr q hF2 rfl))⟩)

theorem w_32 {Z : AmZ} {A : Nat → Nat} {s : GS} {x1 : Int32} {x2 : Int32} (hI : Inv s) (q : KL s) : WC Z 1300 32 [.ref (A 0), .int x1, .int x2, .ref (A 195)] (WW Z A s ++ []) 3 18 (WPr Z A fm_248_0 s) := by
  intro post hP xp
  refine w_enter (k := 32) (d := 1299) (N := 60) rfl (Nat.le_of_ble_eq_true rfl) ?_
  refine g_aload_n 1 (gd rfl) rfl rfl ?_
  refine g_iconst 0 2 (gd rfl) rfl rfl ?_
  refine g_aload_n 3 (gd rfl) rfl rfl ?_
  refine g_iload_n 4 (gd rfl) rfl rfl ?_
  refine g_iload_n 5 (gd rfl) rfl rfl ?_
  refine g_callvH (As := [.int x1, .int x2]) (r := [.int (Int32.ofInt 0), .ref (A 195)]) (b := A 0) (q := 0) 8 (gd rfl) rfl rfl rfl rfl rfl rfl (ww_o rfl) (Nat.le_of_ble_eq_true rfl) (Nat.le_refl _) (Nat.le_refl _) (k_248_0 (by omega) hI ) (fun e u h => ?_) (fun v u h => ?_)
  · obtain ⟨rfl, t, hI2, hF2, rfl⟩ := h
    refine ⟨0, 12, by decide, rfl, rfl, fun a => ?_⟩
    refine g_astore 14 (gd rfl) rfl (Nat.le_of_ble_eq_true rfl) ?_
    refine g_iconst 1 15 (gd rfl) rfl rfl ?_
    exact g_ireturn (gd rfl) rfl rfl (hP _ _ ⟨_, A, t, rfl, rfl, rfl, rfl, rfl, hI2, fr_195' (hF2), (kl_fr q hF2 rfl)⟩)
  · obtain ⟨xa, ya, t, hI2, hF2, z, rfl, rfl⟩ := h
    show GG _ _ _ _ _ _ _ _ [.long z, .int (Int32.ofInt 0), .ref (A 195)] _ _ _
    refine g_ouS (A := (a2 A xa ya)) 9 (gd rfl) rfl ?_
    refine g_goto 16 (gd rfl) rfl ?_
    refine g_iconst 0 17 (gd rfl) rfl rfl ?_
    exact g_ireturn (gd rfl) rfl rfl (hP _ _ ⟨_, (a2 A xa ya), sL t 195 0 _, rfl, rfl, (a2_ne (by decide) (by decide)), (a2_ne (by decide) (by decide)), (a2_ne (by decide) (by decide)), inv_195 hI2, fr_195 (hF2), kl_195 ((kl_fr q hF2 rfl))⟩)

theorem w_33 {Z : AmZ} {A : Nat → Nat} {s : GS} {x1 : Int32} {x2 : Int32} {x3 : Int32} {x4 : Int32} (hI : Inv s) (q : KL s) : WC Z 1300 33 [.ref (A 0), .int x1, .int x2, .int x3, .int x4, .ref (A 195)] (WW Z A s ++ []) 3 18 (WPr Z A fm_249_0 s) := by
  intro post hP xp
  refine w_enter (k := 33) (d := 1299) (N := 60) rfl (Nat.le_of_ble_eq_true rfl) ?_
  refine g_aload 2 (gd rfl) rfl rfl ?_
  refine g_iconst 0 3 (gd rfl) rfl rfl ?_
  refine g_aload_n 4 (gd rfl) rfl rfl ?_
  refine g_iload_n 5 (gd rfl) rfl rfl ?_
  refine g_iload_n 6 (gd rfl) rfl rfl ?_
  refine g_iload_n 7 (gd rfl) rfl rfl ?_
  refine g_iload 9 (gd rfl) rfl rfl ?_
  refine g_callvH (As := [.int x1, .int x2, .int x3, .int x4]) (r := [.int (Int32.ofInt 0), .ref (A 195)]) (b := A 0) (q := 0) 12 (gd rfl) rfl rfl rfl rfl rfl rfl (ww_o rfl) (Nat.le_of_ble_eq_true rfl) (Nat.le_refl _) (Nat.le_refl _) (k_249_0 (by omega) hI ) (fun e u h => ?_) (fun v u h => ?_)
  · obtain ⟨rfl, t, hI2, hF2, rfl⟩ := h
    refine ⟨0, 17, by decide, rfl, rfl, fun a => ?_⟩
    refine g_astore 19 (gd rfl) rfl (Nat.le_of_ble_eq_true rfl) ?_
    refine g_iconst 1 20 (gd rfl) rfl rfl ?_
    exact g_ireturn (gd rfl) rfl rfl (hP _ _ ⟨_, A, t, rfl, rfl, rfl, rfl, rfl, hI2, fr_195' (hF2), (kl_fr q hF2 rfl)⟩)
  · obtain ⟨t, hI2, hF2, z, rfl, rfl, tl⟩ := h
    show GG _ _ _ _ _ _ _ _ [.int z, .int (Int32.ofInt 0), .ref (A 195)] _ _ _
    refine g_i2l 13 (gd rfl) rfl (fun z12 e12 => ?_)
    refine g_ouS (A := A) 14 (gd rfl) rfl ?_
    refine g_goto 21 (gd rfl) rfl ?_
    refine g_iconst 0 22 (gd rfl) rfl rfl ?_
    exact g_ireturn (gd rfl) rfl rfl (hP _ _ ⟨_, A, sL t 195 0 _, rfl, rfl, rfl, rfl, rfl, inv_195 hI2, fr_195 (hF2), kl_195 ((kl_fr q hF2 rfl))⟩)

theorem w_34 {Z : AmZ} {A : Nat → Nat} {s : GS} {x1 : Int32} (hI : Inv s) (q : KL s) : WC Z 1300 34 [.ref (A 0), .int x1, .ref (A 195)] (WW Z A s ++ []) 3 18 (WPr Z A fm_250_0 s) := by
  intro post hP xp
  refine w_enter (k := 34) (d := 1299) (N := 60) rfl (Nat.le_of_ble_eq_true rfl) ?_
  refine g_aload_n 1 (gd rfl) rfl rfl ?_
  refine g_iconst 0 2 (gd rfl) rfl rfl ?_
  refine g_aload_n 3 (gd rfl) rfl rfl ?_
  refine g_iload_n 4 (gd rfl) rfl rfl ?_
  refine g_callvH (As := [.int x1]) (r := [.int (Int32.ofInt 0), .ref (A 195)]) (b := A 0) (q := 0) 7 (gd rfl) rfl rfl rfl rfl rfl rfl (ww_o rfl) (Nat.le_of_ble_eq_true rfl) (Nat.le_refl _) (Nat.le_refl _) (k_250_0 (by omega) hI ) (fun e u h => ?_) (fun v u h => ?_)
  · obtain ⟨rfl, t, hI2, hF2, rfl⟩ := h
    refine ⟨0, 12, by decide, rfl, rfl, fun a => ?_⟩
    refine g_astore_n 13 (gd rfl) rfl (Nat.le_of_ble_eq_true rfl) ?_
    refine g_iconst 1 14 (gd rfl) rfl rfl ?_
    exact g_ireturn (gd rfl) rfl rfl (hP _ _ ⟨_, A, t, rfl, rfl, rfl, rfl, rfl, hI2, fr_195' (hF2), (kl_fr q hF2 rfl)⟩)
  · obtain ⟨t, hI2, hF2, z, rfl, rfl, tl⟩ := h
    show GG _ _ _ _ _ _ _ _ [.int z, .int (Int32.ofInt 0), .ref (A 195)] _ _ _
    refine g_i2l 8 (gd rfl) rfl (fun z7 e7 => ?_)
    refine g_ouS (A := A) 9 (gd rfl) rfl ?_
    refine g_goto 15 (gd rfl) rfl ?_
    refine g_iconst 0 16 (gd rfl) rfl rfl ?_
    exact g_ireturn (gd rfl) rfl rfl (hP _ _ ⟨_, A, sL t 195 0 _, rfl, rfl, rfl, rfl, rfl, inv_195 hI2, fr_195 (hF2), kl_195 ((kl_fr q hF2 rfl))⟩)

theorem w_35 {Z : AmZ} {A : Nat → Nat} {s : GS} {x1 : Int32} (hI : Inv s) (q : KL s) : WC Z 1300 35 [.ref (A 0), .int x1, .ref (A 195)] (WW Z A s ++ []) 3 18 (WPr Z A fm_252_0 s) := by
  intro post hP xp
  refine w_enter (k := 35) (d := 1299) (N := 60) rfl (Nat.le_of_ble_eq_true rfl) ?_
  refine g_aload_n 1 (gd rfl) rfl rfl ?_
  refine g_iconst 0 2 (gd rfl) rfl rfl ?_
  refine g_aload_n 3 (gd rfl) rfl rfl ?_
  refine g_iload_n 4 (gd rfl) rfl rfl ?_
  refine g_callvH (As := [.int x1]) (r := [.int (Int32.ofInt 0), .ref (A 195)]) (b := A 0) (q := 0) 7 (gd rfl) rfl rfl rfl rfl rfl rfl (ww_o rfl) (Nat.le_of_ble_eq_true rfl) (Nat.le_refl _) (Nat.le_refl _) (k_252_0 (by omega) hI ) (fun e u h => ?_) (fun v u h => ?_)
  · obtain ⟨rfl, t, hI2, hF2, rfl⟩ := h
    refine ⟨0, 11, by decide, rfl, rfl, fun a => ?_⟩
    refine g_astore_n 12 (gd rfl) rfl (Nat.le_of_ble_eq_true rfl) ?_
    refine g_iconst 1 13 (gd rfl) rfl rfl ?_
    exact g_ireturn (gd rfl) rfl rfl (hP _ _ ⟨_, A, t, rfl, rfl, rfl, rfl, rfl, hI2, fr_195' (hF2), (kl_fr q hF2 rfl)⟩)
  · obtain ⟨t, hI2, hF2, z, rfl, rfl⟩ := h
    show GG _ _ _ _ _ _ _ _ [.long z, .int (Int32.ofInt 0), .ref (A 195)] _ _ _
    refine g_ouS (A := A) 8 (gd rfl) rfl ?_
    refine g_goto 14 (gd rfl) rfl ?_
    refine g_iconst 0 15 (gd rfl) rfl rfl ?_
    exact g_ireturn (gd rfl) rfl rfl (hP _ _ ⟨_, A, sL t 195 0 _, rfl, rfl, rfl, rfl, rfl, inv_195 hI2, fr_195 (hF2), kl_195 ((kl_fr q hF2 rfl))⟩)

theorem w_36 {Z : AmZ} {A : Nat → Nat} {s : GS} {x1 : Int32} {x2 : Int32} (hI : Inv s) (q : KL s) : WC Z 1300 36 [.ref (A 0), .int x1, .int x2, .ref (A 195)] (WW Z A s ++ []) 3 18 (WPr Z A fm_254_0 s) := by
  intro post hP xp
  refine w_enter (k := 36) (d := 1299) (N := 60) rfl (Nat.le_of_ble_eq_true rfl) ?_
  refine g_aload_n 1 (gd rfl) rfl rfl ?_
  refine g_iconst 0 2 (gd rfl) rfl rfl ?_
  refine g_aload_n 3 (gd rfl) rfl rfl ?_
  refine g_iload_n 4 (gd rfl) rfl rfl ?_
  refine g_iload_n 5 (gd rfl) rfl rfl ?_
  refine g_callvH (As := [.int x1, .int x2]) (r := [.int (Int32.ofInt 0), .ref (A 195)]) (b := A 0) (q := 0) 8 (gd rfl) rfl rfl rfl rfl rfl rfl (ww_o rfl) (Nat.le_of_ble_eq_true rfl) (Nat.le_refl _) (Nat.le_refl _) (k_254_0 (by omega) hI ) (fun e u h => ?_) (fun v u h => ?_)
  · obtain ⟨rfl, t, hI2, hF2, rfl⟩ := h
    refine ⟨0, 13, by decide, rfl, rfl, fun a => ?_⟩
    refine g_astore 15 (gd rfl) rfl (Nat.le_of_ble_eq_true rfl) ?_
    refine g_iconst 1 16 (gd rfl) rfl rfl ?_
    exact g_ireturn (gd rfl) rfl rfl (hP _ _ ⟨_, A, t, rfl, rfl, rfl, rfl, rfl, hI2, fr_195' (hF2), (kl_fr q hF2 rfl)⟩)
  · obtain ⟨t, hI2, hF2, z, rfl, rfl, tl⟩ := h
    show GG _ _ _ _ _ _ _ _ [.int z, .int (Int32.ofInt 0), .ref (A 195)] _ _ _
    refine g_i2l 9 (gd rfl) rfl (fun z8 e8 => ?_)
    refine g_ouS (A := A) 10 (gd rfl) rfl ?_
    refine g_goto 17 (gd rfl) rfl ?_
    refine g_iconst 0 18 (gd rfl) rfl rfl ?_
    exact g_ireturn (gd rfl) rfl rfl (hP _ _ ⟨_, A, sL t 195 0 _, rfl, rfl, rfl, rfl, rfl, inv_195 hI2, fr_195 (hF2), kl_195 ((kl_fr q hF2 rfl))⟩)

theorem w_37 {Z : AmZ} {A : Nat → Nat} {s : GS} {x1 : Int32} {x2 : Int32} {x3 : Int32} {x4 : Int64} (hI : Inv s) (q : KL s) : WC Z 1300 37 [.ref (A 0), .int x1, .int x2, .int x3, .long x4, .ref (A 195)] (WW Z A s ++ []) 3 18 (WPr Z A fm_256_0 s) := by
  intro post hP xp
  refine w_enter (k := 37) (d := 1299) (N := 60) rfl (Nat.le_of_ble_eq_true rfl) ?_
  refine g_aload 2 (gd rfl) rfl rfl ?_
  refine g_iconst 0 3 (gd rfl) rfl rfl ?_
  refine g_aload_n 4 (gd rfl) rfl rfl ?_
  refine g_iload_n 5 (gd rfl) rfl rfl ?_
  refine g_iload_n 6 (gd rfl) rfl rfl ?_
  refine g_iload_n 7 (gd rfl) rfl rfl ?_
  refine g_lload 9 (gd rfl) rfl rfl ?_
  refine g_callvH (As := [.int x1, .int x2, .int x3, .long x4]) (r := [.int (Int32.ofInt 0), .ref (A 195)]) (b := A 0) (q := 0) 12 (gd rfl) rfl rfl rfl rfl rfl rfl (ww_o rfl) (Nat.le_of_ble_eq_true rfl) (Nat.le_refl _) (Nat.le_refl _) (k_256_0 (by omega) hI ) (fun e u h => ?_) (fun v u h => ?_)
  · obtain ⟨rfl, t, hI2, hF2, rfl⟩ := h
    refine ⟨0, 17, by decide, rfl, rfl, fun a => ?_⟩
    refine g_astore 19 (gd rfl) rfl (Nat.le_of_ble_eq_true rfl) ?_
    refine g_iconst 1 20 (gd rfl) rfl rfl ?_
    exact g_ireturn (gd rfl) rfl rfl (hP _ _ ⟨_, A, t, rfl, rfl, rfl, rfl, rfl, hI2, fr_195' (hF2), (kl_fr q hF2 rfl)⟩)
  · obtain ⟨t, hI2, hF2, z, rfl, rfl, tl⟩ := h
    show GG _ _ _ _ _ _ _ _ [.int z, .int (Int32.ofInt 0), .ref (A 195)] _ _ _
    refine g_i2l 13 (gd rfl) rfl (fun z12 e12 => ?_)
    refine g_ouS (A := A) 14 (gd rfl) rfl ?_
    refine g_goto 21 (gd rfl) rfl ?_
    refine g_iconst 0 22 (gd rfl) rfl rfl ?_
    exact g_ireturn (gd rfl) rfl rfl (hP _ _ ⟨_, A, sL t 195 0 _, rfl, rfl, rfl, rfl, rfl, inv_195 hI2, fr_195 (hF2), kl_195 ((kl_fr q hF2 rfl))⟩)

theorem w_38 {Z : AmZ} {A : Nat → Nat} {s : GS} {x1 : Int32} (hI : Inv s) (q : KL s) : WC Z 1300 38 [.ref (A 0), .int x1, .ref (A 195)] (WW Z A s ++ []) 3 18 (WPr Z A fm_257_0 s) := by
  intro post hP xp
  refine w_enter (k := 38) (d := 1299) (N := 60) rfl (Nat.le_of_ble_eq_true rfl) ?_
  refine g_aload_n 1 (gd rfl) rfl rfl ?_
  refine g_iconst 0 2 (gd rfl) rfl rfl ?_
  refine g_aload_n 3 (gd rfl) rfl rfl ?_
  refine g_iload_n 4 (gd rfl) rfl rfl ?_
  refine g_callvH (As := [.int x1]) (r := [.int (Int32.ofInt 0), .ref (A 195)]) (b := A 0) (q := 0) 7 (gd rfl) rfl rfl rfl rfl rfl rfl (ww_o rfl) (Nat.le_of_ble_eq_true rfl) (Nat.le_refl _) (Nat.le_refl _) (k_257_0 (by omega) hI ) (fun e u h => ?_) (fun v u h => ?_)
  · obtain ⟨rfl, t, hI2, hF2, rfl⟩ := h
    refine ⟨0, 11, by decide, rfl, rfl, fun a => ?_⟩
    refine g_astore_n 12 (gd rfl) rfl (Nat.le_of_ble_eq_true rfl) ?_
    refine g_iconst 1 13 (gd rfl) rfl rfl ?_
    exact g_ireturn (gd rfl) rfl rfl (hP _ _ ⟨_, A, t, rfl, rfl, rfl, rfl, rfl, hI2, fr_195' (hF2), (kl_fr q hF2 rfl)⟩)
  · obtain ⟨t, hI2, hF2, z, rfl, rfl⟩ := h
    show GG _ _ _ _ _ _ _ _ [.long z, .int (Int32.ofInt 0), .ref (A 195)] _ _ _
    refine g_ouS (A := A) 8 (gd rfl) rfl ?_
    refine g_goto 14 (gd rfl) rfl ?_
    refine g_iconst 0 15 (gd rfl) rfl rfl ?_
    exact g_ireturn (gd rfl) rfl rfl (hP _ _ ⟨_, A, sL t 195 0 _, rfl, rfl, rfl, rfl, rfl, inv_195 hI2, fr_195 (hF2), kl_195 ((kl_fr q hF2 rfl))⟩)

theorem w_39 {Z : AmZ} {A : Nat → Nat} {s : GS} {x1 : Int32} (hI : Inv s) (q : KL s) : WC Z 1300 39 [.ref (A 0), .int x1, .ref (A 195)] (WW Z A s ++ []) 3 18 (WPr Z A fm_258_0 s) := by
  intro post hP xp
  refine w_enter (k := 39) (d := 1299) (N := 60) rfl (Nat.le_of_ble_eq_true rfl) ?_
  refine g_aload_n 1 (gd rfl) rfl rfl ?_
  refine g_iconst 0 2 (gd rfl) rfl rfl ?_
  refine g_aload_n 3 (gd rfl) rfl rfl ?_
  refine g_iload_n 4 (gd rfl) rfl rfl ?_
  refine g_callvH (As := [.int x1]) (r := [.int (Int32.ofInt 0), .ref (A 195)]) (b := A 0) (q := 0) 7 (gd rfl) rfl rfl rfl rfl rfl rfl (ww_o rfl) (Nat.le_of_ble_eq_true rfl) (Nat.le_refl _) (Nat.le_refl _) (k_258_0 (by omega) hI ) (fun e u h => ?_) (fun v u h => ?_)
  · obtain ⟨rfl, t, hI2, hF2, rfl⟩ := h
    refine ⟨0, 12, by decide, rfl, rfl, fun a => ?_⟩
    refine g_astore_n 13 (gd rfl) rfl (Nat.le_of_ble_eq_true rfl) ?_
    refine g_iconst 1 14 (gd rfl) rfl rfl ?_
    exact g_ireturn (gd rfl) rfl rfl (hP _ _ ⟨_, A, t, rfl, rfl, rfl, rfl, rfl, hI2, fr_195' (hF2), (kl_fr q hF2 rfl)⟩)
  · obtain ⟨t, hI2, hF2, z, rfl, rfl, tl⟩ := h
    show GG _ _ _ _ _ _ _ _ [.int z, .int (Int32.ofInt 0), .ref (A 195)] _ _ _
    refine g_i2l 8 (gd rfl) rfl (fun z7 e7 => ?_)
    refine g_ouS (A := A) 9 (gd rfl) rfl ?_
    refine g_goto 15 (gd rfl) rfl ?_
    refine g_iconst 0 16 (gd rfl) rfl rfl ?_
    exact g_ireturn (gd rfl) rfl rfl (hP _ _ ⟨_, A, sL t 195 0 _, rfl, rfl, rfl, rfl, rfl, inv_195 hI2, fr_195 (hF2), kl_195 ((kl_fr q hF2 rfl))⟩)
end
section
/-! TYPE AND WIPE: what they do on both sides -/
/-- the class's type: it answers the new length, or throws and leaves all as it was -/
def TYc (s : GS) (x : Int32) (t : GS) (z : Int32) : Prop := In x 32 126 ∧ (s.2.2.1 46 1).toInt ≤ 999 ∧ z.toInt = (s.2.2.1 46 1).toInt + 1 ∧ t.2.2.1 46 1 = z ∧ t.1 47 = upd (s.1 47) (s.2.2.1 46 1).toNatClampNeg x
noncomputable def TYx (Z : AmZ) (A : Nat → Nat) (ex : va_W) (s : GS) (x : Int32) : AmX := fun e u => u = WW Z A s ++ ex ∧ ((e = am_IA ∧ (x.toInt < 32 ∨ 126 < x.toInt)) ∨ (e = am_IS ∧ In x 32 126 ∧ 1000 ≤ (s.2.2.1 46 1).toInt))
/-- the reference's -/
def TYr (s : GS) (x : Int32) (t : GS) (z : Int32) : Prop := ((t.2.2.1 109 0).toInt = 1 ∧ (x.toInt < 32 ∨ 126 < x.toInt) ∧ t.2.2.1 109 22 = s.2.2.1 109 22 ∧ t.1 125 = s.1 125) ∨ ((t.2.2.1 109 0).toInt = 2 ∧ In x 32 126 ∧ 1000 ≤ (s.2.2.1 109 22).toInt ∧ t.2.2.1 109 22 = s.2.2.1 109 22 ∧ t.1 125 = s.1 125) ∨ ((t.2.2.1 109 0).toInt = 0 ∧ In x 32 126 ∧ (s.2.2.1 109 22).toInt ≤ 999 ∧ z.toInt = (s.2.2.1 109 22).toInt + 1 ∧ t.2.2.1 109 22 = z ∧ t.1 125 = upd (s.1 125) (s.2.2.1 109 22).toNatClampNeg x)
theorem i2c_id {x z : Int32} (hz : z = (x.toUInt32 % 65536).toInt32) (h : In x 0 65535) : z = x := by
  have e : z.toBitVec.toNat = x.toBitVec.toNat % 65536 := by rw [hz]; rfl
  have hl : z.toBitVec.toNat < 65536 := by rw [e]; exact Nat.mod_lt _ (by decide)
  have e2 : z.toInt = (z.toBitVec.toNat : Int) := BitVec.toInt_eq_toNat_of_lt (by omega)
  have q : x.toInt = _ := BitVec.toInt_eq_toNat_cond x.toBitVec
  have b := x.toBitVec.isLt
  obtain ⟨h1, h2⟩ := h
  have r : x.toInt = (x.toBitVec.toNat : Int) := by
    split at q
    · exact q
    · exfalso; rw [q] at h1; omega
  exact i_eq.mpr (by omega)
theorem ch_x {x z : Int32} (hz : z = (x.toUInt32 % 65536).toInt32) (h : In x 32 126) : vp_nar .char z = x := by
  have hx : In x 0 65535 := in_w 0 65535 h rfl
  have e := i2c_id hz hx
  rw [e]
  exact i2c_id (z := vp_nar .char x) rfl hx


theorem y_223 {Z : AmZ} {A : Nat → Nat} {s : GS} {ex : va_W} {d : Nat} {x1 : Int32} (hd : 7 ≤ d) (hI : Inv s)  : GC Z d 223 [.ref (A 0), .int x1] (WW Z A s ++ ex) 3 18 (fun v u => ∃ t : GS, Inv t ∧ Fr fm_223_0 s t ∧ ∃ z : Int32, v = some (.int z) ∧ u = WW Z A t ++ ex ∧ TYc s x1 t z) (TYx Z A ex s x1) := by
  intro post xp hP hX
  refine g_enter2 (k := 223) (N := 900) (by omega) rfl (Nat.le_of_ble_eq_true rfl) ?_
  refine g_iload_n 1 (gd rfl) rfl rfl ?_
  refine g_bipush 32 3 (gd rfl) rfl rfl ?_
  refine g_cmp_lt 6 16 (gd rfl) rfl rfl (fun c3 => ?_) (fun c3 => ?_)
  · skip
    have i3 := r_lt1 (-2147483648) 31 c3 (i_rng x1) (in_c 32 rfl) rfl
    refine g_iconst 0 17 (gd rfl) rfl rfl ?_
    refine g_thr (E := am_IA) (y := yX11_allow) 20 (gd rfl) rfl rfl (Or.inl ⟨rfl, rfl, rfl⟩) (by omega) (Nat.le_of_ble_eq_true rfl) (Nat.le_of_ble_eq_true rfl) (Nat.le_of_ble_eq_true rfl) (fun c17 => ?_) (fun c17 => ?_)
    · skip
      exact zn_ne c17 (in_c 0 rfl) rfl
    · skip
      exact (hX _ _ ⟨rfl, Or.inl ⟨rfl, Or.inl (by have := i3.2; omega)⟩⟩)
  · skip
    have i3 := r_le2 32 2147483647 c3 (in_c 32 rfl) (i_rng x1) rfl
    refine g_iload_n 7 (gd rfl) rfl rfl ?_
    refine g_bipush 126 9 (gd rfl) rfl rfl ?_
    refine g_cmp_gt 12 16 (gd rfl) rfl rfl (fun c9 => ?_) (fun c9 => ?_)
    · skip
      have i9 := r_lt2 127 2147483647 c9 (in_c 126 rfl) i3 rfl
      refine g_iconst 0 17 (gd rfl) rfl rfl ?_
      refine g_thr (E := am_IA) (y := yX11_allow) 20 (gd rfl) rfl rfl (Or.inl ⟨rfl, rfl, rfl⟩) (by omega) (Nat.le_of_ble_eq_true rfl) (Nat.le_of_ble_eq_true rfl) (Nat.le_of_ble_eq_true rfl) (fun c17 => ?_) (fun c17 => ?_)
      · skip
        exact zn_ne c17 (in_c 0 rfl) rfl
      · skip
        exact (hX _ _ ⟨rfl, Or.inl ⟨rfl, Or.inr (by have := i9.1; omega)⟩⟩)
    · skip
      have i9 := r_le1 32 126 c9 i3 (in_c 126 rfl) rfl
      refine g_iconst 1 13 (gd rfl) rfl rfl ?_
      refine g_goto 17 (gd rfl) rfl ?_
      refine g_thr (E := am_IA) (y := yX11_allow) 20 (gd rfl) rfl rfl (Or.inl ⟨rfl, rfl, rfl⟩) (by omega) (Nat.le_of_ble_eq_true rfl) (Nat.le_of_ble_eq_true rfl) (Nat.le_of_ble_eq_true rfl) (fun c17 => ?_) (fun c17 => ?_)
      · skip
        refine g_aload_n 21 (gd rfl) rfl rfl ?_
        refine g_getA (q2 := 46) 24 (gd rfl) rfl rfl rfl rfl ?_
        refine g_getI 27 (gd rfl) rfl rfl rfl (fun z24 e24 => ?_)
        have i24 := inv_F hI 0 1000 rfl e24
        refine g_sipush 1000 30 (gd rfl) rfl rfl ?_
        refine g_cmp_ge 33 37 (gd rfl) rfl rfl (fun c30 => ?_) (fun c30 => ?_)
        · skip
          have i30 := r_le2 1000 1000 c30 (in_c 1000 rfl) i24 rfl
          refine g_iconst 0 38 (gd rfl) rfl rfl ?_
          refine g_thr (E := am_IS) (y := yX11_ready) 41 (gd rfl) rfl rfl (Or.inr ⟨rfl, rfl, rfl⟩) (by omega) (Nat.le_of_ble_eq_true rfl) (Nat.le_of_ble_eq_true rfl) (Nat.le_of_ble_eq_true rfl) (fun c38 => ?_) (fun c38 => ?_)
          · skip
            exact zn_ne c38 (in_c 0 rfl) rfl
          · skip
            exact (hX _ _ ⟨rfl, Or.inr ⟨rfl, i9, by rw [← e24]; exact i30.1⟩⟩)
        · skip
          have i30 := r_lt1 0 999 c30 i24 (in_c 1000 rfl) rfl
          refine g_iconst 1 34 (gd rfl) rfl rfl ?_
          refine g_goto 38 (gd rfl) rfl ?_
          refine g_thr (E := am_IS) (y := yX11_ready) 41 (gd rfl) rfl rfl (Or.inr ⟨rfl, rfl, rfl⟩) (by omega) (Nat.le_of_ble_eq_true rfl) (Nat.le_of_ble_eq_true rfl) (Nat.le_of_ble_eq_true rfl) (fun c38 => ?_) (fun c38 => ?_)
          · skip
            refine g_aload_n 42 (gd rfl) rfl rfl ?_
            refine g_getA (q2 := 46) 45 (gd rfl) rfl rfl rfl rfl ?_
            refine g_getA (q2 := 47) 48 (gd rfl) rfl rfl rfl rfl ?_
            refine g_aload_n 49 (gd rfl) rfl rfl ?_
            refine g_getA (q2 := 46) 52 (gd rfl) rfl rfl rfl rfl ?_
            refine g_getI 55 (gd rfl) rfl rfl rfl (fun z52 e52 => ?_)
            have q52 : z24 = z52 := (e24).trans e52.symm
            subst q52
            refine g_iload_n 56 (gd rfl) rfl rfl ?_
            refine g_i2c 57 (gd rfl) rfl (fun z56 e56 => ?_)
            have i56 := in_i2c e56
            refine g_castore 58 (gd rfl) rfl (n := 1000) rfl (in_ix i30 rfl) ?_
            have hI57 := inv_sI (q := 47) (j := z24.toNatClampNeg) hI rfl (in_w 0 65535 (nar_c z56) rfl)
            refine g_aload_n 59 (gd rfl) rfl rfl ?_
            refine g_getA (q2 := 46) 62 (gd rfl) rfl rfl rfl rfl ?_
            refine g_dup 63 (gd rfl) rfl rfl ?_
            refine g_getI 66 (gd rfl) rfl rfl rfl (fun z63 e63 => ?_)
            have q63 : z24 = z63 := (sI_F (e24)).trans e63.symm
            subst q63
            refine g_iconst 1 67 (gd rfl) rfl rfl ?_
            refine g_iadd 68 (gd rfl) rfl (fun z67 e67 => ?_)
            have i67 := in_add 1 1000 e67 i30 (in_c 1 rfl) rfl rfl
            refine g_putI 71 (gd rfl) rfl rfl rfl rfl ?_
            have hI68 := inv_sF (q := 46) (j := 1) hI57 rfl (in_w 0 1000 i67 rfl)
            refine g_aload_n 72 (gd rfl) rfl rfl ?_
            refine g_getA (q2 := 46) 75 (gd rfl) rfl rfl rfl rfl ?_
            refine g_getI 78 (gd rfl) rfl rfl rfl (fun z75 e75 => ?_)
            have q75 : z67 = z75 := (sF_get).trans e75.symm
            subst q75
            exact g_ireturn (gd rfl) rfl rfl (hP _ _ ⟨(sF (sI s 47 z24.toNatClampNeg (vp_nar .char z56)) 46 1 z67), hI68, (fr_sF rfl (fr_sI rfl fr_rf)), z67, rfl, rfl, i9, by rw [← e24]; exact i30.2, by rw [← e24]; exact (t_add e67 i30 (in_c 1 rfl) rfl), sF_get.symm, by rw [← e24]; show (sI s 47 z24.toNatClampNeg (vp_nar .char z56)).1 47 = _; rw [sI_q, ch_x e56 i9]⟩)
          · skip
            exact zn_eq c38 (in_c 1 rfl) rfl
      · skip
        exact zn_eq c17 (in_c 1 rfl) rfl


theorem y_293 {Z : AmZ} {A : Nat → Nat} {s : GS} {ex : va_W} {d : Nat} {X : AmX} {x1 : Int32} (hd : 3 ≤ d) (hI : Inv s)  : GC Z d 293 [.ref (A 109), .int x1] (WW Z A s ++ ex) 0 0 (fun v u => ∃ t : GS, Inv t ∧ Fr fm_293 s t ∧ ∃ z : Int32, v = some (.int z) ∧ u = WW Z A t ++ ex ∧ TYr s x1 t z) X := by
  intro post xp hP hX
  refine g_enter2 (k := 293) (N := 900) (by omega) rfl (Nat.le_of_ble_eq_true rfl) ?_
  refine g_aload_n 1 (gd rfl) rfl rfl ?_
  refine g_iload_n 2 (gd rfl) rfl rfl ?_
  refine g_i2l 3 (gd rfl) rfl (fun z2 e2 => ?_)
  have i2 := l_i e2 (i_rng x1)
  refine g_ldc2_w 32 6 (gd rfl) rfl rfl ?_
  refine g_ldc2_w 126 9 (gd rfl) rfl rfl ?_
  refine g_calls (As := [.long z2, .long (Int64.ofInt 32), .long (Int64.ofInt 126)]) (r := [.ref (A 109)]) 12 (gd rfl) rfl rfl rfl rfl rfl (Nat.le_of_ble_eq_true rfl) (mc := 0) (ms := 0) (Nat.zero_le _) (Nat.zero_le _) (P := fun v u => _) ?_ (fun v u h => h)
  intro po9 xx9 hp9 hx9
  refine g_enter2 (k := 269) (N := 300) (by omega) rfl (Nat.le_of_ble_eq_true rfl) ?_
  refine g_lload_n 1 (gd rfl) rfl rfl ?_
  refine g_lload_n 2 (gd rfl) rfl rfl ?_
  refine g_lcmp 3 (gd rfl) rfl (fun z9x2 e9x2 => ?_)
  have i9x2 := lc_in e9x2
  refine g_if_lt 6 17 (gd rfl) rfl rfl (fun c9x3 => ?_) (fun c9x3 => ?_)
  · skip
    have i9x3 := z_lt (-1) (-1) c9x3 i9x2 rfl
    have c9x3a := lc_lt e9x2 c9x3
    have i9x3a := lr_lt1 (-2147483648) 31 c9x3a i2 (l_c 32 rfl) rfl
    have i9x3b := l_b e2 i9x3a
    refine g_iconst 0 18 (gd rfl) rfl rfl ?_
    refine g_ireturn (gd rfl) rfl (nb01 (in_w 0 1 (in_c 0 rfl) rfl)) (hp9 _ _ ?_)
    show GG _ _ _ _ _ _ _ _ [.int (Int32.ofInt 0), .ref (A 109)] _ _ _
    refine g_aload_n 13 (gd rfl) rfl rfl ?_
    refine g_getI 16 (gd rfl) rfl rfl rfl (fun z13 e13 => ?_)
    have i13 := inv_F hI 0 1000 rfl e13
    refine g_sipush 1000 19 (gd rfl) rfl rfl ?_
    refine g_cmp_ge 22 26 (gd rfl) rfl rfl (fun c19 => ?_) (fun c19 => ?_)
    · skip
      have i19 := r_le2 1000 1000 c19 (in_c 1000 rfl) i13 rfl
      refine g_iconst 0 27 (gd rfl) rfl rfl ?_
      refine g_callv (X := _) (As := [.int (Int32.ofInt 0), .int (Int32.ofInt 0)]) (r := []) (b := A 109) (q := 109) 30 (gd rfl) rfl rfl rfl rfl rfl (ww_o rfl) (Nat.le_of_ble_eq_true rfl) (mc := 0) (ms := 0) (Nat.zero_le _) (Nat.zero_le _) (P := fun v u => _) ?_ (fun e u h => h) (fun v u h => h)
      intro po27 xx27 hp27 hx27
      refine g_enter2 (k := 270) (N := 300) (by omega) rfl (Nat.le_of_ble_eq_true rfl) ?_
      refine g_aload_n 1 (gd rfl) rfl rfl ?_
      refine g_iload_n 2 (gd rfl) rfl rfl ?_
      refine g_if_ne 5 9 (gd rfl) rfl rfl (fun c27x2 => ?_) (fun c27x2 => ?_)
      · skip
        exact zn_ne c27x2 (in_c 0 rfl) rfl
      · skip
        refine g_iconst 1 6 (gd rfl) rfl rfl ?_
        refine g_goto 18 (gd rfl) rfl ?_
        refine g_putI 21 (gd rfl) rfl rfl rfl rfl ?_
        have hI27x18 := inv_sF (q := 109) (j := 0) hI rfl (in_w 0 2 (in_c 1 rfl) rfl)
        refine g_aload_n 22 (gd rfl) rfl rfl ?_
        refine g_getI 25 (gd rfl) rfl rfl rfl (fun z27x22 e27x22 => ?_)
        have q27x22 : (Int32.ofInt 1) = z27x22 := (sF_get).trans e27x22.symm
        subst q27x22
        refine g_if_le 28 32 (gd rfl) rfl rfl (fun c27x25 => ?_) (fun c27x25 => ?_)
        · skip
          exact zn_le c27x25 (in_c 1 rfl) rfl
        · skip
          refine g_iconst 1 29 (gd rfl) rfl rfl ?_
          refine g_goto 33 (gd rfl) rfl ?_
          refine g_ireturn (gd rfl) rfl (nb01 (in_w 0 1 (in_c 1 rfl) rfl)) (hp27 _ _ ?_)
          show GG _ _ _ _ _ _ _ _ [.int (Int32.ofInt 1)] _ _ _
          refine g_if_eq 33 35 (gd rfl) rfl rfl (fun c30 => ?_) (fun c30 => ?_)
          · skip
            exact zn_eq c30 (in_c 1 rfl) rfl
          · skip
            refine g_iconst 0 34 (gd rfl) rfl rfl ?_
            exact g_ireturn (gd rfl) rfl rfl (hP _ _ ⟨(sF s 109 0 (Int32.ofInt 1)), hI27x18, (fr_sF rfl fr_rf), (Int32.ofInt 0), rfl, rfl, Or.inl ⟨rfl, Or.inl (by have := i9x3b.2; omega), rfl, rfl⟩⟩)
    · skip
      have i19 := r_lt1 0 999 c19 i13 (in_c 1000 rfl) rfl
      refine g_iconst 1 23 (gd rfl) rfl rfl ?_
      refine g_goto 27 (gd rfl) rfl ?_
      refine g_callv (X := _) (As := [.int (Int32.ofInt 0), .int (Int32.ofInt 1)]) (r := []) (b := A 109) (q := 109) 30 (gd rfl) rfl rfl rfl rfl rfl (ww_o rfl) (Nat.le_of_ble_eq_true rfl) (mc := 0) (ms := 0) (Nat.zero_le _) (Nat.zero_le _) (P := fun v u => _) ?_ (fun e u h => h) (fun v u h => h)
      intro po27 xx27 hp27 hx27
      refine g_enter2 (k := 270) (N := 300) (by omega) rfl (Nat.le_of_ble_eq_true rfl) ?_
      refine g_aload_n 1 (gd rfl) rfl rfl ?_
      refine g_iload_n 2 (gd rfl) rfl rfl ?_
      refine g_if_ne 5 9 (gd rfl) rfl rfl (fun c27x2 => ?_) (fun c27x2 => ?_)
      · skip
        exact zn_ne c27x2 (in_c 0 rfl) rfl
      · skip
        refine g_iconst 1 6 (gd rfl) rfl rfl ?_
        refine g_goto 18 (gd rfl) rfl ?_
        refine g_putI 21 (gd rfl) rfl rfl rfl rfl ?_
        have hI27x18 := inv_sF (q := 109) (j := 0) hI rfl (in_w 0 2 (in_c 1 rfl) rfl)
        refine g_aload_n 22 (gd rfl) rfl rfl ?_
        refine g_getI 25 (gd rfl) rfl rfl rfl (fun z27x22 e27x22 => ?_)
        have q27x22 : (Int32.ofInt 1) = z27x22 := (sF_get).trans e27x22.symm
        subst q27x22
        refine g_if_le 28 32 (gd rfl) rfl rfl (fun c27x25 => ?_) (fun c27x25 => ?_)
        · skip
          exact zn_le c27x25 (in_c 1 rfl) rfl
        · skip
          refine g_iconst 1 29 (gd rfl) rfl rfl ?_
          refine g_goto 33 (gd rfl) rfl ?_
          refine g_ireturn (gd rfl) rfl (nb01 (in_w 0 1 (in_c 1 rfl) rfl)) (hp27 _ _ ?_)
          show GG _ _ _ _ _ _ _ _ [.int (Int32.ofInt 1)] _ _ _
          refine g_if_eq 33 35 (gd rfl) rfl rfl (fun c30 => ?_) (fun c30 => ?_)
          · skip
            exact zn_eq c30 (in_c 1 rfl) rfl
          · skip
            refine g_iconst 0 34 (gd rfl) rfl rfl ?_
            exact g_ireturn (gd rfl) rfl rfl (hP _ _ ⟨(sF s 109 0 (Int32.ofInt 1)), hI27x18, (fr_sF rfl fr_rf), (Int32.ofInt 0), rfl, rfl, Or.inl ⟨rfl, Or.inl (by have := i9x3b.2; omega), rfl, rfl⟩⟩)
  · skip
    have i9x3 := z_ge 0 1 c9x3 i9x2 rfl
    have c9x3a := lc_ge e9x2 c9x3
    have i9x3a := lr_le2 32 2147483647 c9x3a (l_c 32 rfl) i2 rfl
    have i9x3b := l_b e2 i9x3a
    refine g_lload_n 7 (gd rfl) rfl rfl ?_
    refine g_lload 9 (gd rfl) rfl rfl ?_
    refine g_lcmp 10 (gd rfl) rfl (fun z9x9 e9x9 => ?_)
    have i9x9 := lc_in e9x9
    refine g_if_gt 13 17 (gd rfl) rfl rfl (fun c9x10 => ?_) (fun c9x10 => ?_)
    · skip
      have i9x10 := z_gt 1 1 c9x10 i9x9 rfl
      have c9x10a := lc_gt e9x9 c9x10
      have i9x10a := lr_lt2 127 2147483647 c9x10a (l_c 126 rfl) i9x3a rfl
      have i9x10b := l_b e2 i9x10a
      refine g_iconst 0 18 (gd rfl) rfl rfl ?_
      refine g_ireturn (gd rfl) rfl (nb01 (in_w 0 1 (in_c 0 rfl) rfl)) (hp9 _ _ ?_)
      show GG _ _ _ _ _ _ _ _ [.int (Int32.ofInt 0), .ref (A 109)] _ _ _
      refine g_aload_n 13 (gd rfl) rfl rfl ?_
      refine g_getI 16 (gd rfl) rfl rfl rfl (fun z13 e13 => ?_)
      have i13 := inv_F hI 0 1000 rfl e13
      refine g_sipush 1000 19 (gd rfl) rfl rfl ?_
      refine g_cmp_ge 22 26 (gd rfl) rfl rfl (fun c19 => ?_) (fun c19 => ?_)
      · skip
        have i19 := r_le2 1000 1000 c19 (in_c 1000 rfl) i13 rfl
        refine g_iconst 0 27 (gd rfl) rfl rfl ?_
        refine g_callv (X := _) (As := [.int (Int32.ofInt 0), .int (Int32.ofInt 0)]) (r := []) (b := A 109) (q := 109) 30 (gd rfl) rfl rfl rfl rfl rfl (ww_o rfl) (Nat.le_of_ble_eq_true rfl) (mc := 0) (ms := 0) (Nat.zero_le _) (Nat.zero_le _) (P := fun v u => _) ?_ (fun e u h => h) (fun v u h => h)
        intro po27 xx27 hp27 hx27
        refine g_enter2 (k := 270) (N := 300) (by omega) rfl (Nat.le_of_ble_eq_true rfl) ?_
        refine g_aload_n 1 (gd rfl) rfl rfl ?_
        refine g_iload_n 2 (gd rfl) rfl rfl ?_
        refine g_if_ne 5 9 (gd rfl) rfl rfl (fun c27x2 => ?_) (fun c27x2 => ?_)
        · skip
          exact zn_ne c27x2 (in_c 0 rfl) rfl
        · skip
          refine g_iconst 1 6 (gd rfl) rfl rfl ?_
          refine g_goto 18 (gd rfl) rfl ?_
          refine g_putI 21 (gd rfl) rfl rfl rfl rfl ?_
          have hI27x18 := inv_sF (q := 109) (j := 0) hI rfl (in_w 0 2 (in_c 1 rfl) rfl)
          refine g_aload_n 22 (gd rfl) rfl rfl ?_
          refine g_getI 25 (gd rfl) rfl rfl rfl (fun z27x22 e27x22 => ?_)
          have q27x22 : (Int32.ofInt 1) = z27x22 := (sF_get).trans e27x22.symm
          subst q27x22
          refine g_if_le 28 32 (gd rfl) rfl rfl (fun c27x25 => ?_) (fun c27x25 => ?_)
          · skip
            exact zn_le c27x25 (in_c 1 rfl) rfl
          · skip
            refine g_iconst 1 29 (gd rfl) rfl rfl ?_
            refine g_goto 33 (gd rfl) rfl ?_
            refine g_ireturn (gd rfl) rfl (nb01 (in_w 0 1 (in_c 1 rfl) rfl)) (hp27 _ _ ?_)
            show GG _ _ _ _ _ _ _ _ [.int (Int32.ofInt 1)] _ _ _
            refine g_if_eq 33 35 (gd rfl) rfl rfl (fun c30 => ?_) (fun c30 => ?_)
            · skip
              exact zn_eq c30 (in_c 1 rfl) rfl
            · skip
              refine g_iconst 0 34 (gd rfl) rfl rfl ?_
              exact g_ireturn (gd rfl) rfl rfl (hP _ _ ⟨(sF s 109 0 (Int32.ofInt 1)), hI27x18, (fr_sF rfl fr_rf), (Int32.ofInt 0), rfl, rfl, Or.inl ⟨rfl, Or.inr (by have := i9x10b.1; omega), rfl, rfl⟩⟩)
      · skip
        have i19 := r_lt1 0 999 c19 i13 (in_c 1000 rfl) rfl
        refine g_iconst 1 23 (gd rfl) rfl rfl ?_
        refine g_goto 27 (gd rfl) rfl ?_
        refine g_callv (X := _) (As := [.int (Int32.ofInt 0), .int (Int32.ofInt 1)]) (r := []) (b := A 109) (q := 109) 30 (gd rfl) rfl rfl rfl rfl rfl (ww_o rfl) (Nat.le_of_ble_eq_true rfl) (mc := 0) (ms := 0) (Nat.zero_le _) (Nat.zero_le _) (P := fun v u => _) ?_ (fun e u h => h) (fun v u h => h)
        intro po27 xx27 hp27 hx27
        refine g_enter2 (k := 270) (N := 300) (by omega) rfl (Nat.le_of_ble_eq_true rfl) ?_
        refine g_aload_n 1 (gd rfl) rfl rfl ?_
        refine g_iload_n 2 (gd rfl) rfl rfl ?_
        refine g_if_ne 5 9 (gd rfl) rfl rfl (fun c27x2 => ?_) (fun c27x2 => ?_)
        · skip
          exact zn_ne c27x2 (in_c 0 rfl) rfl
        · skip
          refine g_iconst 1 6 (gd rfl) rfl rfl ?_
          refine g_goto 18 (gd rfl) rfl ?_
          refine g_putI 21 (gd rfl) rfl rfl rfl rfl ?_
          have hI27x18 := inv_sF (q := 109) (j := 0) hI rfl (in_w 0 2 (in_c 1 rfl) rfl)
          refine g_aload_n 22 (gd rfl) rfl rfl ?_
          refine g_getI 25 (gd rfl) rfl rfl rfl (fun z27x22 e27x22 => ?_)
          have q27x22 : (Int32.ofInt 1) = z27x22 := (sF_get).trans e27x22.symm
          subst q27x22
          refine g_if_le 28 32 (gd rfl) rfl rfl (fun c27x25 => ?_) (fun c27x25 => ?_)
          · skip
            exact zn_le c27x25 (in_c 1 rfl) rfl
          · skip
            refine g_iconst 1 29 (gd rfl) rfl rfl ?_
            refine g_goto 33 (gd rfl) rfl ?_
            refine g_ireturn (gd rfl) rfl (nb01 (in_w 0 1 (in_c 1 rfl) rfl)) (hp27 _ _ ?_)
            show GG _ _ _ _ _ _ _ _ [.int (Int32.ofInt 1)] _ _ _
            refine g_if_eq 33 35 (gd rfl) rfl rfl (fun c30 => ?_) (fun c30 => ?_)
            · skip
              exact zn_eq c30 (in_c 1 rfl) rfl
            · skip
              refine g_iconst 0 34 (gd rfl) rfl rfl ?_
              exact g_ireturn (gd rfl) rfl rfl (hP _ _ ⟨(sF s 109 0 (Int32.ofInt 1)), hI27x18, (fr_sF rfl fr_rf), (Int32.ofInt 0), rfl, rfl, Or.inl ⟨rfl, Or.inr (by have := i9x10b.1; omega), rfl, rfl⟩⟩)
    · skip
      have i9x10 := z_le (-1) 0 c9x10 i9x9 rfl
      have c9x10a := lc_le e9x9 c9x10
      have i9x10a := lr_le1 32 126 c9x10a i9x3a (l_c 126 rfl) rfl
      have i9x10b := l_b e2 i9x10a
      refine g_iconst 1 14 (gd rfl) rfl rfl ?_
      refine g_goto 18 (gd rfl) rfl ?_
      refine g_ireturn (gd rfl) rfl (nb01 (in_w 0 1 (in_c 1 rfl) rfl)) (hp9 _ _ ?_)
      show GG _ _ _ _ _ _ _ _ [.int (Int32.ofInt 1), .ref (A 109)] _ _ _
      refine g_aload_n 13 (gd rfl) rfl rfl ?_
      refine g_getI 16 (gd rfl) rfl rfl rfl (fun z13 e13 => ?_)
      have i13 := inv_F hI 0 1000 rfl e13
      refine g_sipush 1000 19 (gd rfl) rfl rfl ?_
      refine g_cmp_ge 22 26 (gd rfl) rfl rfl (fun c19 => ?_) (fun c19 => ?_)
      · skip
        have i19 := r_le2 1000 1000 c19 (in_c 1000 rfl) i13 rfl
        refine g_iconst 0 27 (gd rfl) rfl rfl ?_
        refine g_callv (X := _) (As := [.int (Int32.ofInt 1), .int (Int32.ofInt 0)]) (r := []) (b := A 109) (q := 109) 30 (gd rfl) rfl rfl rfl rfl rfl (ww_o rfl) (Nat.le_of_ble_eq_true rfl) (mc := 0) (ms := 0) (Nat.zero_le _) (Nat.zero_le _) (P := fun v u => _) ?_ (fun e u h => h) (fun v u h => h)
        intro po27 xx27 hp27 hx27
        refine g_enter2 (k := 270) (N := 300) (by omega) rfl (Nat.le_of_ble_eq_true rfl) ?_
        refine g_aload_n 1 (gd rfl) rfl rfl ?_
        refine g_iload_n 2 (gd rfl) rfl rfl ?_
        refine g_if_ne 5 9 (gd rfl) rfl rfl (fun c27x2 => ?_) (fun c27x2 => ?_)
        · skip
          refine g_iload_n 10 (gd rfl) rfl rfl ?_
          refine g_if_ne 13 17 (gd rfl) rfl rfl (fun c27x10 => ?_) (fun c27x10 => ?_)
          · skip
            exact zn_ne c27x10 (in_c 0 rfl) rfl
          · skip
            refine g_iconst 2 14 (gd rfl) rfl rfl ?_
            refine g_goto 18 (gd rfl) rfl ?_
            refine g_putI 21 (gd rfl) rfl rfl rfl rfl ?_
            have hI27x18 := inv_sF (q := 109) (j := 0) hI rfl (in_w 0 2 (in_c 2 rfl) rfl)
            refine g_aload_n 22 (gd rfl) rfl rfl ?_
            refine g_getI 25 (gd rfl) rfl rfl rfl (fun z27x22 e27x22 => ?_)
            have q27x22 : (Int32.ofInt 2) = z27x22 := (sF_get).trans e27x22.symm
            subst q27x22
            refine g_if_le 28 32 (gd rfl) rfl rfl (fun c27x25 => ?_) (fun c27x25 => ?_)
            · skip
              exact zn_le c27x25 (in_c 2 rfl) rfl
            · skip
              refine g_iconst 1 29 (gd rfl) rfl rfl ?_
              refine g_goto 33 (gd rfl) rfl ?_
              refine g_ireturn (gd rfl) rfl (nb01 (in_w 0 1 (in_c 1 rfl) rfl)) (hp27 _ _ ?_)
              show GG _ _ _ _ _ _ _ _ [.int (Int32.ofInt 1)] _ _ _
              refine g_if_eq 33 35 (gd rfl) rfl rfl (fun c30 => ?_) (fun c30 => ?_)
              · skip
                exact zn_eq c30 (in_c 1 rfl) rfl
              · skip
                refine g_iconst 0 34 (gd rfl) rfl rfl ?_
                exact g_ireturn (gd rfl) rfl rfl (hP _ _ ⟨(sF s 109 0 (Int32.ofInt 2)), hI27x18, (fr_sF rfl fr_rf), (Int32.ofInt 0), rfl, rfl, Or.inr (Or.inl ⟨rfl, i9x10b, by rw [← e13]; exact i19.1, rfl, rfl⟩)⟩)
        · skip
          exact zn_eq c27x2 (in_c 1 rfl) rfl
      · skip
        have i19 := r_lt1 0 999 c19 i13 (in_c 1000 rfl) rfl
        refine g_iconst 1 23 (gd rfl) rfl rfl ?_
        refine g_goto 27 (gd rfl) rfl ?_
        refine g_callv (X := _) (As := [.int (Int32.ofInt 1), .int (Int32.ofInt 1)]) (r := []) (b := A 109) (q := 109) 30 (gd rfl) rfl rfl rfl rfl rfl (ww_o rfl) (Nat.le_of_ble_eq_true rfl) (mc := 0) (ms := 0) (Nat.zero_le _) (Nat.zero_le _) (P := fun v u => _) ?_ (fun e u h => h) (fun v u h => h)
        intro po27 xx27 hp27 hx27
        refine g_enter2 (k := 270) (N := 300) (by omega) rfl (Nat.le_of_ble_eq_true rfl) ?_
        refine g_aload_n 1 (gd rfl) rfl rfl ?_
        refine g_iload_n 2 (gd rfl) rfl rfl ?_
        refine g_if_ne 5 9 (gd rfl) rfl rfl (fun c27x2 => ?_) (fun c27x2 => ?_)
        · skip
          refine g_iload_n 10 (gd rfl) rfl rfl ?_
          refine g_if_ne 13 17 (gd rfl) rfl rfl (fun c27x10 => ?_) (fun c27x10 => ?_)
          · skip
            refine g_iconst 0 18 (gd rfl) rfl rfl ?_
            refine g_putI 21 (gd rfl) rfl rfl rfl rfl ?_
            have hI27x18 := inv_sF (q := 109) (j := 0) hI rfl (in_w 0 2 (in_c 0 rfl) rfl)
            refine g_aload_n 22 (gd rfl) rfl rfl ?_
            refine g_getI 25 (gd rfl) rfl rfl rfl (fun z27x22 e27x22 => ?_)
            have q27x22 : (Int32.ofInt 0) = z27x22 := (sF_get).trans e27x22.symm
            subst q27x22
            refine g_if_le 28 32 (gd rfl) rfl rfl (fun c27x25 => ?_) (fun c27x25 => ?_)
            · skip
              refine g_iconst 0 33 (gd rfl) rfl rfl ?_
              refine g_ireturn (gd rfl) rfl (nb01 (in_w 0 1 (in_c 0 rfl) rfl)) (hp27 _ _ ?_)
              show GG _ _ _ _ _ _ _ _ [.int (Int32.ofInt 0)] _ _ _
              refine g_if_eq 33 35 (gd rfl) rfl rfl (fun c30 => ?_) (fun c30 => ?_)
              · skip
                refine g_aload_n 36 (gd rfl) rfl rfl ?_
                refine g_getA (q2 := 125) 39 (gd rfl) rfl rfl rfl rfl ?_
                refine g_aload_n 40 (gd rfl) rfl rfl ?_
                refine g_getI 43 (gd rfl) rfl rfl rfl (fun z40 e40 => ?_)
                have q40 : z13 = z40 := (sF_ne rfl (e13)).trans e40.symm
                subst q40
                refine g_iload_n 44 (gd rfl) rfl rfl ?_
                refine g_iastore 45 (gd rfl) rfl (n := 1000) rfl (in_ix i19 rfl) ?_
                have hI44 := inv_sI (q := 125) (j := z13.toNatClampNeg) hI27x18 rfl (in_w 0 126 i9x10b rfl)
                refine g_aload_n 46 (gd rfl) rfl rfl ?_
                refine g_dup 47 (gd rfl) rfl rfl ?_
                refine g_getI 50 (gd rfl) rfl rfl rfl (fun z47 e47 => ?_)
                have q47 : z13 = z47 := (sI_F (sF_ne rfl (e13))).trans e47.symm
                subst q47
                refine g_iconst 1 51 (gd rfl) rfl rfl ?_
                refine g_iadd 52 (gd rfl) rfl (fun z51 e51 => ?_)
                have i51 := in_add 1 1000 e51 i19 (in_c 1 rfl) rfl rfl
                refine g_putI 55 (gd rfl) rfl rfl rfl rfl ?_
                have hI52 := inv_sF (q := 109) (j := 22) hI44 rfl (in_w 0 1000 i51 rfl)
                refine g_aload_n 56 (gd rfl) rfl rfl ?_
                refine g_getI 59 (gd rfl) rfl rfl rfl (fun z56 e56 => ?_)
                have q56 : z51 = z56 := (sF_get).trans e56.symm
                subst q56
                exact g_ireturn (gd rfl) rfl rfl (hP _ _ ⟨(sF (sI (sF s 109 0 (Int32.ofInt 0)) 125 z13.toNatClampNeg x1) 109 22 z51), hI52, (fr_sF rfl (fr_sI rfl (fr_sF rfl fr_rf))), z51, rfl, rfl, Or.inr (Or.inr ⟨rfl, i9x10b, by rw [← e13]; exact i19.2, by rw [← e13]; exact (t_add e51 i19 (in_c 1 rfl) rfl), sF_get.symm, by rw [← e13]; show (sI (sF s 109 0 (Int32.ofInt 0)) 125 z13.toNatClampNeg x1).1 125 = _; exact sI_q⟩)⟩)
              · skip
                exact zn_ne c30 (in_c 0 rfl) rfl
            · skip
              exact zn_gt c27x25 (in_c 0 rfl) rfl
          · skip
            exact zn_eq c27x10 (in_c 1 rfl) rfl
        · skip
          exact zn_eq c27x2 (in_c 1 rfl) rfl


theorem y_224 {Z : AmZ} {A : Nat → Nat} {s : GS} {ex : va_W} {d : Nat} {X : AmX}  (hd : 1 ≤ d) (hI : Inv s)  : GC Z d 224 [.ref (A 0)] (WW Z A s ++ ex) 3 18 (fun v u => ∃ t : GS, Inv t ∧ Fr fm_224_0 s t ∧ ∃ z : Int32, v = some (.int z) ∧ u = WW Z A t ++ ex ∧ t.2.2.1 46 1 = Int32.ofInt 0 ∧ z = s.2.2.1 46 1) X := by
  intro post xp hP hX
  refine g_enter2 (k := 224) (N := 900) (by omega) rfl (Nat.le_of_ble_eq_true rfl) ?_
  refine g_aload_n 1 (gd rfl) rfl rfl ?_
  refine g_getA (q2 := 46) 4 (gd rfl) rfl rfl rfl rfl ?_
  refine g_getI 7 (gd rfl) rfl rfl rfl (fun z4 e4 => ?_)
  have i4 := inv_F hI 0 1000 rfl e4
  refine g_istore_n 8 (gd rfl) rfl (Nat.le_of_ble_eq_true rfl) ?_
  refine g_aload_n 9 (gd rfl) rfl rfl ?_
  refine g_getA (q2 := 46) 12 (gd rfl) rfl rfl rfl rfl ?_
  refine g_iconst 0 13 (gd rfl) rfl rfl ?_
  refine g_putI 16 (gd rfl) rfl rfl rfl rfl ?_
  have hI13 := inv_sF (q := 46) (j := 1) hI rfl (in_w 0 1000 (in_c 0 rfl) rfl)
  refine g_iload_n 17 (gd rfl) rfl rfl ?_
  exact g_ireturn (gd rfl) rfl rfl (hP _ _ ⟨(sF s 46 1 (Int32.ofInt 0)), hI13, (fr_sF rfl fr_rf), z4, rfl, rfl, sF_get.symm, e4⟩)


theorem y_294 {Z : AmZ} {A : Nat → Nat} {s : GS} {ex : va_W} {d : Nat} {X : AmX}  (hd : 1 ≤ d) (hI : Inv s)  : GC Z d 294 [.ref (A 109)] (WW Z A s ++ ex) 0 0 (fun v u => ∃ t : GS, Inv t ∧ Fr fm_294 s t ∧ ∃ z : Int32, v = some (.int z) ∧ u = WW Z A t ++ ex ∧ t.2.2.1 109 22 = Int32.ofInt 0 ∧ z = s.2.2.1 109 22) X := by
  intro post xp hP hX
  refine g_enter2 (k := 294) (N := 900) (by omega) rfl (Nat.le_of_ble_eq_true rfl) ?_
  refine g_aload_n 1 (gd rfl) rfl rfl ?_
  refine g_iconst 0 2 (gd rfl) rfl rfl ?_
  refine g_putI 5 (gd rfl) rfl rfl rfl rfl ?_
  have hI2 := inv_sF (q := 109) (j := 0) hI rfl (in_w 0 2 (in_c 0 rfl) rfl)
  refine g_aload_n 6 (gd rfl) rfl rfl ?_
  refine g_getI 9 (gd rfl) rfl rfl rfl (fun z6 e6 => ?_)
  have i6 := inv_F hI2 0 1000 rfl e6
  refine g_istore_n 10 (gd rfl) rfl (Nat.le_of_ble_eq_true rfl) ?_
  refine g_aload_n 11 (gd rfl) rfl rfl ?_
  refine g_iconst 0 12 (gd rfl) rfl rfl ?_
  refine g_putI 15 (gd rfl) rfl rfl rfl rfl ?_
  have hI12 := inv_sF (q := 109) (j := 22) hI2 rfl (in_w 0 1000 (in_c 0 rfl) rfl)
  refine g_iload_n 16 (gd rfl) rfl rfl ?_
  exact g_ireturn (gd rfl) rfl rfl (hP _ _ ⟨(sF (sF s 109 0 (Int32.ofInt 0)) 109 22 (Int32.ofInt 0)), hI12, (fr_sF rfl (fr_sF rfl fr_rf)), z6, rfl, rfl, sF_get.symm, e6.trans (show _ = _ from (sF_ne rfl rfl).symm)⟩)


theorem y_268 {Z : AmZ} {A : Nat → Nat} {s : GS} {ex : va_W} {d : Nat} {X : AmX}  (hd : 1 ≤ d) (hI : Inv s)  : GC Z d 268 [.ref (A 109)] (WW Z A s ++ ex) 0 0 (fun v u => ∃ z : Int32, v = some (.int z) ∧ u = WW Z A s ++ ex ∧ z = s.2.2.1 109 0) X := by
  intro post xp hP hX
  obtain ⟨u_109_0, e_109_0⟩ : ∃ w, w = s.2.2.1 109 0 := ⟨_, rfl⟩
  have ro_109_0 := inv_F hI 0 2 rfl e_109_0
  refine g_enter2 (k := 268) (N := 900) (by omega) rfl (Nat.le_of_ble_eq_true rfl) ?_
  refine g_aload_n 1 (gd rfl) rfl rfl ?_
  refine g_getI 4 (gd rfl) rfl rfl rfl (fun z1 e1 => ?_)
  have q1 : u_109_0 = z1 := (e_109_0).trans e1.symm
  subst q1
  exact g_ireturn (gd rfl) rfl rfl (hP _ _ ⟨u_109_0, rfl, rfl, e_109_0⟩)

theorem y_218 {Z : AmZ} {A : Nat → Nat} {s : GS} {ex : va_W} {d : Nat} {X : AmX}  (hd : 1 ≤ d) (hI : Inv s)  : GC Z d 218 [.ref (A 0)] (WW Z A s ++ ex) 3 18 (fun v u => ∃ z : Int32, v = some (.int z) ∧ u = WW Z A s ++ ex ∧ z = s.2.2.1 2 0) X := by
  intro post xp hP hX
  obtain ⟨u_2_0, e_2_0⟩ : ∃ w, w = s.2.2.1 2 0 := ⟨_, rfl⟩
  have ro_2_0 := inv_F hI 0 4000 rfl e_2_0
  refine g_enter2 (k := 218) (N := 900) (by omega) rfl (Nat.le_of_ble_eq_true rfl) ?_
  refine g_aload_n 1 (gd rfl) rfl rfl ?_
  refine g_getA (q2 := 1) 4 (gd rfl) rfl rfl rfl rfl ?_
  refine g_getA (q2 := 2) 7 (gd rfl) rfl rfl rfl rfl ?_
  refine g_getI 10 (gd rfl) rfl rfl rfl (fun z7 e7 => ?_)
  have q7 : u_2_0 = z7 := (e_2_0).trans e7.symm
  subst q7
  exact g_ireturn (gd rfl) rfl rfl (hP _ _ ⟨u_2_0, rfl, rfl, e_2_0⟩)


theorem y_287 {Z : AmZ} {A : Nat → Nat} {s : GS} {ex : va_W} {d : Nat} {X : AmX}  (hd : 1 ≤ d) (hI : Inv s)  : GC Z d 287 [.ref (A 109)] (WW Z A s ++ ex) 0 0 (fun v u => ∃ t : GS, Inv t ∧ Fr fm_287 s t ∧ ∃ z : Int32, v = some (.int z) ∧ u = WW Z A t ++ ex ∧ z = s.2.2.1 109 9) X := by
  intro post xp hP hX
  obtain ⟨u_109_9, e_109_9⟩ : ∃ w, w = s.2.2.1 109 9 := ⟨_, rfl⟩
  have ro_109_9 := inv_F hI 0 4000 rfl e_109_9
  refine g_enter2 (k := 287) (N := 900) (by omega) rfl (Nat.le_of_ble_eq_true rfl) ?_
  refine g_aload_n 1 (gd rfl) rfl rfl ?_
  refine g_iconst 0 2 (gd rfl) rfl rfl ?_
  refine g_putI 5 (gd rfl) rfl rfl rfl rfl ?_
  have hI2 := inv_sF (q := 109) (j := 0) hI rfl (in_w 0 2 (in_c 0 rfl) rfl)
  refine g_aload_n 6 (gd rfl) rfl rfl ?_
  refine g_getI 9 (gd rfl) rfl rfl rfl (fun z6 e6 => ?_)
  have q6 : u_109_9 = z6 := (sF_ne rfl (e_109_9)).trans e6.symm
  subst q6
  exact g_ireturn (gd rfl) rfl rfl (hP _ _ ⟨(sF s 109 0 (Int32.ofInt 0)), hI2, (fr_sF rfl fr_rf), u_109_9, rfl, rfl, e_109_9⟩)


noncomputable def WTy (Z : AmZ) (A : Nat → Nat) (s : GS) (x : Int32) : AmR := fun v u => ∃ (c : Int32) (t : GS), v = some (.int c) ∧ u = WW Z A t ++ [] ∧ Inv t ∧ Fr ([47], [195], [(46, 1)], []) s t ∧ KL t ∧ ((c.toInt = 1 ∧ (x.toInt < 32 ∨ 126 < x.toInt) ∧ t.2.2.1 46 1 = s.2.2.1 46 1 ∧ t.1 47 = s.1 47) ∨ (c.toInt = 2 ∧ In x 32 126 ∧ 1000 ≤ (s.2.2.1 46 1).toInt ∧ t.2.2.1 46 1 = s.2.2.1 46 1 ∧ t.1 47 = s.1 47) ∨ (c.toInt = 0 ∧ In x 32 126 ∧ (s.2.2.1 46 1).toInt ≤ 999 ∧ (t.2.2.1 46 1).toInt = (s.2.2.1 46 1).toInt + 1 ∧ t.2.1 195 0 = (t.2.2.1 46 1).toInt64 ∧ t.1 47 = upd (s.1 47) (s.2.2.1 46 1).toNatClampNeg x))
theorem wt_11 {Z : AmZ} {A : Nat → Nat} {s : GS} {x1 : Int32} (hI : Inv s) (q : KL s) : WC Z 1300 11 [.ref (A 0), .int x1, .ref (A 195)] (WW Z A s ++ []) 3 18 (WTy Z A s x1) := by
  intro post hP xp
  refine w_enter (k := 11) (d := 1299) (N := 60) rfl (Nat.le_of_ble_eq_true rfl) ?_
  refine g_aload_n 1 (gd rfl) rfl rfl ?_
  refine g_iconst 0 2 (gd rfl) rfl rfl ?_
  refine g_aload_n 3 (gd rfl) rfl rfl ?_
  refine g_iload_n 4 (gd rfl) rfl rfl ?_
  refine g_callvH (As := [.int x1]) (r := [.int (Int32.ofInt 0), .ref (A 195)]) (b := A 0) (q := 0) 7 (gd rfl) rfl rfl rfl rfl rfl rfl (ww_o rfl) (Nat.le_of_ble_eq_true rfl) (Nat.le_refl _) (Nat.le_refl _) (y_223 (by omega) hI) (fun e u h => ?_) (fun v u h => ?_)
  · obtain ⟨rfl, he⟩ := h
    rcases he with ⟨rfl, hx⟩ | ⟨rfl, hx, hl⟩
    · refine ⟨0, 12, by decide, rfl, rfl, fun a => ?_⟩
      refine g_astore_n 13 (gd rfl) rfl (Nat.le_of_ble_eq_true rfl) ?_
      refine g_iconst 1 14 (gd rfl) rfl rfl ?_
      exact g_ireturn (gd rfl) rfl rfl (hP _ _ ⟨_, s, rfl, rfl, hI, fr_rf, q, Or.inl ⟨rfl, hx, rfl, rfl⟩⟩)
    · refine ⟨1, 15, by decide, rfl, rfl, fun a => ?_⟩
      refine g_astore_n 16 (gd rfl) rfl (Nat.le_of_ble_eq_true rfl) ?_
      refine g_iconst 2 17 (gd rfl) rfl rfl ?_
      exact g_ireturn (gd rfl) rfl rfl (hP _ _ ⟨_, s, rfl, rfl, hI, fr_rf, q, Or.inr (Or.inl ⟨rfl, hx, hl, rfl, rfl⟩)⟩)
  · obtain ⟨t, hI2, hF2, z, rfl, rfl, t1, t2, t3, t4, t5⟩ := h
    show GG _ _ _ _ _ _ _ _ [.int z, .int (Int32.ofInt 0), .ref (A 195)] _ _ _
    refine g_i2l 8 (gd rfl) rfl (fun z7 e7 => ?_)
    refine g_ouS (A := A) 9 (gd rfl) rfl ?_
    refine g_goto 18 (gd rfl) rfl ?_
    refine g_iconst 0 19 (gd rfl) rfl rfl ?_
    refine g_ireturn (gd rfl) rfl rfl (hP _ _ ⟨_, sL t 195 0 z7, rfl, rfl, inv_195 hI2, fr_195 (F := fm_223_0) hF2, kl_195 (kl_fr q hF2 rfl), Or.inr (Or.inr ⟨rfl, t1, t2, ?_, ?_, t5⟩)⟩)
    · show (t.2.2.1 46 1).toInt = _
      rw [t4]; exact t3
    · show (if 195 = 195 then vp_updL (t.2.1 195) 0 z7 else t.2.1 195) 0 = (t.2.2.1 46 1).toInt64
      rw [if_pos rfl, t4, ← e7]
      exact if_pos rfl
end
section
/-! BOTH SIDES ARE ALIKE -/
def TXT (s : GS) : Prop := ∀ i : Nat, i < (s.2.2.1 46 1).toInt.toNat → s.1 47 i = s.1 125 i
def REL2 (s : GS) : Prop := REL s ∧ TXT s ∧ GEQ (gvC s) (gvR s) ∧ TQ s
section REL2
variable {s t t2 : GS} {F G : FM}
theorem tx_fr (h : REL s ∧ TXT s) (hF : Fr F s t) (hk : (qF F.2.2.1 46 1 && qF F.2.2.1 109 22 && (qI F.1 47 && qI F.1 125)) = true) : REL t ∧ TXT t := by
  simp only [Bool.and_eq_true] at hk
  obtain ⟨⟨k1, k2⟩, k3, k4⟩ := hk
  obtain ⟨h1, h2⟩ := h
  unfold REL TXT at *
  rw [hF.2.2.1 46 1 k1, hF.2.2.1 109 22 k2, hF.1 47 k3, hF.1 125 k4]
  exact ⟨h1, h2⟩
theorem rel2_fr (h : REL2 s) (hF : Fr F s t) (hk : ((qF F.2.2.1 46 1 && qF F.2.2.1 109 22 && (qI F.1 47 && qI F.1 125)) && (qI F.1 3 && qI F.1 4 && qI F.1 5 && qI F.1 6 && qI F.1 7 && qI F.1 8 && qF F.2.2.1 2 1 && qF F.2.2.1 2 0) && (qI F.1 110 && qI F.1 111 && qI F.1 112 && qI F.1 113 && qI F.1 114 && qI F.1 115 && qI F.1 116 && qI F.1 117 && qF F.2.2.1 109 9) && (qI F.1 4 && qF F.2.2.1 2 3)) = true) : REL2 t := by
  rw [Bool.and_eq_true, Bool.and_eq_true, Bool.and_eq_true] at hk
  obtain ⟨⟨⟨k1, k2⟩, k3⟩, k4⟩ := hk
  obtain ⟨h1, h2, h3, h4⟩ := h
  have x := tx_fr ⟨h1, h2⟩ hF k1
  exact ⟨x.1, x.2, by rw [gvC_cg hF k2, gvR_cg hF k3]; exact h3, tq_fr h4 hF k4⟩
theorem rel2_R (h : REL2 s) (hF : Fr F s t) (hk : ((qF F.2.2.1 46 1 && qF F.2.2.1 109 22 && (qI F.1 47 && qI F.1 125)) && (qI F.1 3 && qI F.1 4 && qI F.1 5 && qI F.1 6 && qI F.1 7 && qI F.1 8 && qF F.2.2.1 2 1 && qF F.2.2.1 2 0) && (qI F.1 4 && qF F.2.2.1 2 3)) = true) (hg : GEQ (gvR t) (gvR s)) : REL2 t := by
  rw [Bool.and_eq_true, Bool.and_eq_true] at hk
  obtain ⟨⟨k1, k2⟩, k4⟩ := hk
  obtain ⟨h1, h2, h3, h4⟩ := h
  have x := tx_fr ⟨h1, h2⟩ hF k1
  exact ⟨x.1, x.2, by rw [gvC_cg hF k2]; exact geq_t h3 (geq_s hg), tq_fr h4 hF k4⟩
theorem rel2_2 (h : REL2 s) (hF : Fr F s t) (hk : (qF F.2.2.1 46 1 && qF F.2.2.1 109 22 && (qI F.1 47 && qI F.1 125)) = true) (hG : Fr G t t2) (hk2 : ((qF G.2.2.1 46 1 && qF G.2.2.1 109 22 && (qI G.1 47 && qI G.1 125)) && (qI G.1 4 && qF G.2.2.1 2 3)) = true) (hT : TQ t) (hg : GEQ (gvC t2) (gvR t2)) : REL2 t2 := by
  rw [Bool.and_eq_true] at hk2
  have x := tx_fr (tx_fr ⟨h.1, h.2.1⟩ hF hk) hG hk2.1
  exact ⟨x.1, x.2, hg, tq_fr hT hG hk2.2⟩
end REL2
/-- code, state and answer of a wrapper's call -/
def CDK (c : Int32) (P Q E R : Prop) : Prop := (c.toInt = 1 ∧ ¬ P ∧ E) ∨ (c.toInt = 2 ∧ P ∧ ¬ Q ∧ E) ∨ (c.toInt = 0 ∧ P ∧ Q ∧ R)
theorem cd_meet {s t t2 : GS} {c : Int32} {P Q R P2 Q2 R2 E : Prop} (hP : P ↔ P2) (hQ : Q ↔ Q2) (h1 : CDK c P Q (gvC t = gvC s) R) (h2 : CDR t t2 P2 Q2 R2) (hg : GEQ (gvC s) (gvR t)) (hc : gvC t2 = gvC t) (hR : P → R → R2 → GEQ (gvC t) (gvR t2) ∧ E) : GEQ (gvC t2) (gvR t2) ∧ (t2.2.2.1 109 0).toInt = c.toInt ∧ (c.toInt = 0 → E) := by
  rw [hc]
  rcases h1 with ⟨a1, a2, a3⟩ | ⟨a1, a2, a3, a4⟩ | ⟨a1, a2, a3, a4⟩ <;> rcases h2 with ⟨b1, b2, b3⟩ | ⟨b1, b2, b3, b4⟩ | ⟨b1, b2, b3, b4⟩
  · exact ⟨by rw [a3, b3]; exact hg, by omega, fun z => by omega⟩
  · exact absurd (hP.mpr b2) a2
  · exact absurd (hP.mpr b2) a2
  · exact absurd (hP.mp a2) b2
  · exact ⟨by rw [a4, b4]; exact hg, by omega, fun z => by omega⟩
  · exact absurd (hQ.mpr b3) a3
  · exact absurd (hP.mp a2) b2
  · exact absurd (hQ.mp a3) b3
  · have h := hR a2 a4 b4
    exact ⟨h.1, by omega, fun _ => h.2⟩
section MEET
variable {s t t2 : GS} {c z z2 x1 x2 x3 x4 x5 : Int32}
theorem q_nd (hg : GEQ (gvC s) (gvR t)) : (s.2.2.1 2 1).toInt = (t.1 110 0).toInt := hg.2.2.2.2.2.2.1
theorem q_vr (hg : GEQ (gvC s) (gvR t)) : (s.2.2.1 2 0).toInt = (t.2.2.1 109 9).toInt := hg.2.2.2.2.2.2.2
theorem q_hn (hg : GEQ (gvC s) (gvR t)) {x : Int32} : HNC s x ↔ HNR t x := by unfold HNC HNR; rw [q_nd hg]
theorem q_ar (hg : GEQ (gvC s) (gvR t)) (hI : Inv t) {x : Int32} : HAC s x ↔ HAR t x := by
  unfold HAC HAR
  constructor
  · rintro ⟨h0, h1, h2⟩
    refine ⟨h0, h1, fun q => h2 ?_⟩
    have e : s.1 4 x.toNatClampNeg = thf (t.1 112) (t.1 113) x.toNatClampNeg := hg.2.1 _ (by show x.toInt.toNat < 160; omega)
    rw [e]
    unfold thf
    rw [if_pos q]
    rfl
  · rintro ⟨h0, h1, h2⟩
    refine ⟨h0, h1, fun q => ?_⟩
    have hx : x.toNatClampNeg < 160 := by show x.toInt.toNat < 160; omega
    have e : s.1 4 x.toNatClampNeg = thf (t.1 112) (t.1 113) x.toNatClampNeg := hg.2.1 _ hx
    rw [e] at q
    unfold thf at q
    rw [if_neg h2] at q
    exact r113 hI hx q
theorem m_node (hg : GEQ (gvC s) (gvR t)) (hc : gvC t2 = gvC t) (h1 : CDK c (In x1 0 25) ((s.2.2.1 2 1).toInt ≤ 31 ∧ (s.2.2.1 2 0).toInt ≤ 3999) (gvC t = gvC s) (z.toInt = (s.2.2.1 2 1).toInt ∧ gvC t = gqN (gvC s) (s.2.2.1 2 1).toNatClampNeg x1)) (h2 : CDR t t2 (In x1 0 25) ((t.1 110 0).toInt ≤ 31 ∧ (t.2.2.1 109 9).toInt ≤ 3999) (z2.toInt = (t.1 110 0).toInt ∧ gvR t2 = gqN (gvR t) (t.1 110 0).toNatClampNeg x1)) : GEQ (gvC t2) (gvR t2) ∧ (t2.2.2.1 109 0).toInt = c.toInt ∧ (c.toInt = 0 → z = z2) := by
  refine cd_meet Iff.rfl (by rw [q_nd hg, q_vr hg]) h1 h2 hg hc (fun _ r r2 => ⟨?_, i_eq.mpr (by rw [r.1, r2.1]; exact q_nd hg)⟩)
  have e : (s.2.2.1 2 1).toNatClampNeg = (t.1 110 0).toNatClampNeg := congrArg Int.toNat (q_nd hg)
  rw [r.2, r2.2, e]
  exact geq_N hg
theorem m_arc (hI : Inv t) (hg : GEQ (gvC s) (gvR t)) (hc : gvC t2 = gvC t) (h1 : CDK c (HNC s x1 ∧ HNC s x2 ∧ In x3 (-1000000) 1000000 ∧ In x4 0 1000000 ∧ In x5 0 25) ((s.2.2.1 2 0).toInt ≤ 3999) (gvC t = gvC s) ((z.toInt = -3 → gvC t = gvC s ∧ fpl (ctg (s.1 4)) = 160) ∧ (z.toInt ≠ -3 → gvC t = gqA (gvC s) z.toNatClampNeg x1 x2 x3 x4 x5 ∧ fpl (ctg (s.1 4)) = z.toNatClampNeg ∧ 0 ≤ z.toInt) ∧ In z (-3) 159)) (i2 : In z2 (-3) 159) (h2 : CDR t t2 (HNR t x1 ∧ HNR t x2 ∧ In x3 (-1000000) 1000000 ∧ In x4 0 1000000 ∧ In x5 0 25) ((t.2.2.1 109 9).toInt ≤ 3999) ((z2.toInt = -3 ∧ fpl (thg t 0) = 160 ∧ gvR t2 = gvR t) ∨ (z2.toInt ≠ -3 ∧ fpl (thg t 0) = z2.toNatClampNeg ∧ gvR t2 = gqA (gvR t) z2.toNatClampNeg x1 x2 x3 x4 x5 ∧ 0 ≤ z2.toInt))) : GEQ (gvC t2) (gvR t2) ∧ (t2.2.2.1 109 0).toInt = c.toInt ∧ (c.toInt = 0 → z = z2) := by
  refine cd_meet (by rw [q_hn hg, q_hn hg]) (by rw [q_vr hg]) h1 h2 hg hc (fun _ r r2 => ?_)
  have ef : fpl (ctg (s.1 4)) = fpl (thg t 0) := (geq_f hg).trans (fpl_R hI)
  obtain ⟨r1, r3, iz⟩ := r
  have ez : z.toNatClampNeg = z.toInt.toNat := rfl
  have ez2 : z2.toNatClampNeg = z2.toInt.toNat := rfl
  unfold In at iz i2
  by_cases q : z.toInt = -3
  · obtain ⟨a1, a2⟩ := r1 q
    rcases r2 with ⟨b1, b2, b3⟩ | ⟨b1, b2, b3, b4⟩
    · exact ⟨by rw [a1, b3]; exact hg, i_eq.mpr (by omega)⟩
    · exfalso; omega
  · obtain ⟨a1, a2, a3⟩ := r3 q
    rcases r2 with ⟨b1, b2, b3⟩ | ⟨b1, b2, b3, b4⟩
    · exfalso; omega
    · have e : z = z2 := i_eq.mpr (by omega)
      refine ⟨?_, e⟩
      rw [a1, b3, e]
      exact geq_A hg
theorem m_take (hI : Inv t) (hg : GEQ (gvC s) (gvR t)) (hc : gvC t2 = gvC t) (h1 : CDK c (HAC s x1) ((s.2.2.1 2 0).toInt ≤ 3999) (gvC t = gvC s) (z.toInt = (s.2.2.1 2 0).toInt + 1 ∧ gvC t = gqD (gvC s) x1.toNatClampNeg)) (h2 : CDR t t2 (HAR t x1) ((t.2.2.1 109 9).toInt ≤ 3999) (z2.toInt = (t.2.2.1 109 9).toInt + 1 ∧ gvR t2 = gqD (gvR t) x1.toNatClampNeg)) : GEQ (gvC t2) (gvR t2) ∧ (t2.2.2.1 109 0).toInt = c.toInt ∧ (c.toInt = 0 → z = z2) := by
  refine cd_meet (q_ar hg hI) (by rw [q_vr hg]) h1 h2 hg hc (fun _ r r2 => ⟨?_, i_eq.mpr (by rw [r.1, r2.1, q_vr hg])⟩)
  rw [r.2, r2.2]
  exact geq_D hg
theorem m_set (hI : Inv t) (hg : GEQ (gvC s) (gvR t)) (hc : gvC t2 = gvC t) (h1 : CDK c (HAC s x1 ∧ GVL x2 x3) ((s.2.2.1 2 0).toInt ≤ 3999) (gvC t = gvC s) (z = (if x2.toInt = 0 then s.1 6 x1.toNatClampNeg else if x2.toInt = 1 then s.1 7 x1.toNatClampNeg else s.1 8 x1.toNatClampNeg) ∧ gvC t = gqW (gvC s) x1.toNatClampNeg x2 x3)) (h2 : CDR t t2 (HAR t x1 ∧ GVL x2 x3) ((t.2.2.1 109 9).toInt ≤ 3999) (z2 = (if x2.toInt = 0 then t.1 115 x1.toNatClampNeg else if x2.toInt = 1 then t.1 116 x1.toNatClampNeg else t.1 117 x1.toNatClampNeg) ∧ gvR t2 = gqW (gvR t) x1.toNatClampNeg x2 x3)) : GEQ (gvC t2) (gvR t2) ∧ (t2.2.2.1 109 0).toInt = c.toInt ∧ (c.toInt = 0 → z = z2) := by
  refine cd_meet (by rw [q_ar hg hI]) (by rw [q_vr hg]) h1 h2 hg hc (fun p r r2 => ⟨?_, ?_⟩)
  · rw [r.2, r2.2]
    exact geq_W hg
  · have hx : x1.toNatClampNeg < 160 := by
      have a := p.1.1
      have b := p.1.2.1
      show x1.toInt.toNat < 160
      omega
    rw [r.1, r2.1, show s.1 6 x1.toNatClampNeg = t.1 115 x1.toNatClampNeg from hg.2.2.2.1 _ hx, show s.1 7 x1.toNatClampNeg = t.1 116 x1.toNatClampNeg from hg.2.2.2.2.1 _ hx, show s.1 8 x1.toNatClampNeg = t.1 117 x1.toNatClampNeg from hg.2.2.2.2.2.1 _ hx]
theorem m_label (hI : Inv s) (hg : GEQ (gvC s) (gvR t)) (hc : gvC t2 = gvC t) (h1 : CDK c (HNC s x1 ∧ In x2 0 25) ((s.2.2.1 2 0).toInt ≤ 3999) (gvC t = gvC s) (z = s.1 3 x1.toNatClampNeg ∧ gvC t = gqL (gvC s) x1.toNatClampNeg x2)) (h2 : CDR t t2 (HNR t x1 ∧ In x2 0 25) ((t.2.2.1 109 9).toInt ≤ 3999) (z2 = t.1 111 x1.toNatClampNeg ∧ gvR t2 = gqL (gvR t) x1.toNatClampNeg x2)) : GEQ (gvC t2) (gvR t2) ∧ (t2.2.2.1 109 0).toInt = c.toInt ∧ (c.toInt = 0 → z = z2) := by
  refine cd_meet (by rw [q_hn hg]) (by rw [q_vr hg]) h1 h2 hg hc (fun p r r2 => ⟨?_, ?_⟩)
  · rw [r.2, r2.2]
    exact geq_L hg
  · have hx : x1.toNatClampNeg < 32 := by
      have a := p.1.1
      have b := p.1.2
      have i := inv_F hI (z := s.2.2.1 2 1) 0 32 rfl rfl
      unfold In at i
      show x1.toInt.toNat < 32
      omega
    rw [r.1, r2.1]
    exact hg.1 _ hx
theorem m_load {f2 p2 : Int} (hR : REL2 s) (gv : gvR t = gvR s) (t125 : t.1 125 = s.1 125) (t22 : t.2.2.1 109 22 = s.2.2.1 109 22) (h1 : (z.toInt ≠ -4 → LOT (s.1 47) (s.2.2.1 46 1).toInt.toNat (gvC s) z.toInt 0 0 (gvC t) ∧ (t.2.2.1 46 6).toInt = -1 ∧ (t.2.2.1 46 7).toInt = -1) ∧ (z.toInt = -4 → LOT (s.1 47) (s.2.2.1 46 1).toInt.toNat (gvC s) (-4) (t.2.2.1 46 6).toInt (t.2.2.1 46 7).toInt (gvC t)) ∧ TQ t) (h2 : LOT (t.1 125) (t.2.2.1 109 22).toInt.toNat (gvR t) z2.toInt f2 p2 (gvR t2)) : GEQ (gvC t) (gvR t2) ∧ z = z2 := by
  obtain ⟨r1, r2, r3, r4⟩ := hR
  unfold REL at r1
  rw [t125, t22, gv, ← r1] at h2
  obtain ⟨a, b, -⟩ := h1
  by_cases q : z.toInt = -4
  · have u := lot_u r2 r3 (b q) h2
    exact ⟨u.2.2.2, i_eq.mpr (by rw [q]; exact u.1)⟩
  · have u := lot_u r2 r3 (a q).1 h2
    exact ⟨u.2.2.2, i_eq.mpr u.1⟩
/-- both sides of type meet -/
theorem m_type (hR : REL2 s) (hF : Fr ([47], [195], [(46, 1)], []) s t) (hF2 : Fr fm_293 t t2)
    (hw : (c.toInt = 1 ∧ (x1.toInt < 32 ∨ 126 < x1.toInt) ∧ t.2.2.1 46 1 = s.2.2.1 46 1 ∧ t.1 47 = s.1 47) ∨ (c.toInt = 2 ∧ In x1 32 126 ∧ 1000 ≤ (s.2.2.1 46 1).toInt ∧ t.2.2.1 46 1 = s.2.2.1 46 1 ∧ t.1 47 = s.1 47) ∨ (c.toInt = 0 ∧ In x1 32 126 ∧ (s.2.2.1 46 1).toInt ≤ 999 ∧ (t.2.2.1 46 1).toInt = (s.2.2.1 46 1).toInt + 1 ∧ t.2.1 195 0 = (t.2.2.1 46 1).toInt64 ∧ t.1 47 = upd (s.1 47) (s.2.2.1 46 1).toNatClampNeg x1))
    (hr : TYr t x1 t2 z) : REL2 t2 := by
  obtain ⟨r1, r2, r3, r4⟩ := hR
  have e22 : t.2.2.1 109 22 = s.2.2.1 109 22 := hF.2.2.1 109 22 rfl
  have e125 : t.1 125 = s.1 125 := hF.1 125 rfl
  have e46 : t2.2.2.1 46 1 = t.2.2.1 46 1 := hF2.2.2.1 46 1 rfl
  have e47 : t2.1 47 = t.1 47 := hF2.1 47 rfl
  have g3 : GEQ (gvC t2) (gvR t2) := by
    rw [gvC_cg hF2 rfl, gvC_cg hF rfl, gvR_cg hF2 rfl, gvR_cg hF rfl]
    exact r3
  have g4 : TQ t2 := tq_fr (tq_fr r4 hF rfl) hF2 rfl
  suffices h : REL t2 ∧ TXT t2 from ⟨h.1, h.2, g3, g4⟩
  unfold TYr at hr
  rw [e22, e125] at hr
  unfold REL at r1 ⊢
  unfold TXT at r2 ⊢
  rw [← r1] at hr
  rw [e46, e47]
  rcases hw with ⟨w1, w2, w3, w6⟩ | ⟨w1, w2, w3, w4, w6⟩ | ⟨w1, w2, w3, w4, w5, w6⟩ <;> rcases hr with ⟨q1, q2, q3, q6⟩ | ⟨q1, q2, q3, q4, q6⟩ | ⟨q1, q2, q3, q4, q5, q6⟩
  · rw [w3, w6, q3, q6]; exact ⟨rfl, r2⟩
  · rw [w3, w6, q4, q6]; exact ⟨rfl, r2⟩
  · have := q2.1; have := q2.2; omega
  · rw [w4, w6, q3, q6]; exact ⟨rfl, r2⟩
  · rw [w4, w6, q4, q6]; exact ⟨rfl, r2⟩
  · omega
  · have := w2.1; have := w2.2; omega
  · omega
  · have e : t.2.2.1 46 1 = z := i_eq.mpr (by omega)
    refine ⟨by rw [q5]; exact e, fun i hi => ?_⟩
    rw [w6, q6]
    by_cases ci : i = (s.2.2.1 46 1).toNatClampNeg
    · rw [ci, ug_at, ug_at]
    · rw [ug_ne ci, ug_ne ci]
      refine r2 i ?_
      have ez : (s.2.2.1 46 1).toNatClampNeg = (s.2.2.1 46 1).toInt.toNat := rfl
      omega
theorem m_wipe (hR : REL2 s) (hF : Fr fm_224_0 s t) (hz : t.2.2.1 46 1 = Int32.ofInt 0) (hF2 : Fr fm_294 t t2) (hz2 : t2.2.2.1 109 22 = Int32.ofInt 0) : REL2 t2 := by
  have e46 : t2.2.2.1 46 1 = Int32.ofInt 0 := (hF2.2.2.1 46 1 rfl).trans hz
  refine ⟨by unfold REL; rw [e46, hz2], fun i hi => ?_, ?_, tq_fr (tq_fr hR.2.2.2 hF rfl) hF2 rfl⟩
  · rw [e46] at hi; exact absurd hi (Nat.not_lt_zero _)
  · rw [gvC_cg hF2 rfl, gvC_cg hF rfl, gvR_cg hF2 rfl, gvR_cg hF rfl]
    exact hR.2.2.1
end MEET
/-! the law's wrappers of the changes -/
theorem m_view {s t t2 : GS} {c z z2 x1 : Int32} (hv : (s.2.2.1 2 0).toInt = (t.2.2.1 109 9).toInt) (h1 : (c.toInt = 1 ∧ ¬ (-1 ≤ x1.toInt ∧ x1.toInt ≤ (s.2.2.1 2 0).toInt)) ∨ (c.toInt = 0 ∧ (-1 ≤ x1.toInt ∧ x1.toInt ≤ (s.2.2.1 2 0).toInt) ∧ z = (if x1.toInt < 0 then s.2.2.1 2 0 else x1))) (h2 : VWQ t t2 x1 z2) : (t2.2.2.1 109 0).toInt = c.toInt ∧ (c.toInt = 0 → z = z2) := by
  unfold VWQ at h2
  rw [← hv] at h2
  rcases h1 with ⟨a1, a2⟩ | ⟨a1, a2, a3⟩ <;> rcases h2 with ⟨b1, b2⟩ | ⟨b1, b2, b3⟩
  · exact ⟨by omega, fun q => by omega⟩
  · exact absurd b2 a2
  · exact absurd a2 b2
  · exact ⟨by omega, fun _ => by rw [a3, b3, i_eq.mpr hv]⟩
end
section
/-! WHAT ELSE THE ROW KEEPS: the number of short ways that is kept is that of its version and ends -/
def EXK (s : GS) (H : Nat → GVW) : Prop := (s.2.2.1 49 8).toInt = -1 ∨ (0 ≤ (s.2.2.1 49 8).toInt ∧ (s.2.2.1 49 8).toInt ≤ (s.2.2.1 2 0).toInt ∧ (s.2.2.1 49 11).toInt = SHN (H (s.2.2.1 49 8).toInt.toNat) (s.2.2.1 49 9).toInt.toNat (s.2.2.1 49 10).toInt.toNat)
def EXQ (L : FM) : Bool := qF L.2.2.1 49 8 && (qF L.2.2.1 49 9 && (qF L.2.2.1 49 10 && qF L.2.2.1 49 11))
theorem ext_fr {s t : GS} {L : FM} {H H2 : Nat → GVW} (h : EXK s H) (hF : Fr L s t) (hk : EXQ L = true) (he : ∀ k : Nat, (k : Int) ≤ (s.2.2.1 2 0).toInt → H2 k = H k) (hv : (s.2.2.1 2 0).toInt ≤ (t.2.2.1 2 0).toInt) : EXK t H2 := by
  simp only [EXQ, Bool.and_eq_true] at hk
  obtain ⟨a, b, c, d⟩ := hk
  unfold EXK at h ⊢
  rw [hF.2.2.1 49 8 a, hF.2.2.1 49 9 b, hF.2.2.1 49 10 c, hF.2.2.1 49 11 d]
  rcases h with h | ⟨h1, h2, h3⟩
  · exact Or.inl h
  · refine Or.inr ⟨h1, by omega, ?_⟩
    rw [he _ (by omega)]
    exact h3
end
section
/-! WHAT IS SHOWN IS ALIKE -/
def HSX (s : GS) (H : Nat → GVW) : Prop := HIS s H ∧ GEV (H (s.2.2.1 2 0).toInt.toNat) (gvC s) ∧ SHW s H ∧ GSE s ∧ TQD s ∧ EXK s H
def REL3 (s : GS) : Prop := REL2 s ∧ ∃ H, HSX s H
theorem b_and {a b : Bool} (h : (a && b) = true) : a = true ∧ b = true := by
  cases a
  · cases h
  · exact ⟨rfl, h⟩
def QbH (L : FM) : Bool := qI L.1 30 && (qI L.1 118 && qI L.1 119 && qI L.1 120 && qI L.1 121 && qI L.1 122 && qI L.1 123 && qI L.1 124) && qF L.2.2.1 2 0
def QbC (L : FM) : Bool := qI L.1 3 && qI L.1 4 && qI L.1 5 && qI L.1 6 && qI L.1 7 && qI L.1 8 && qF L.2.2.1 2 1 && qF L.2.2.1 2 0
def QbD (L : FM) : Bool := qI L.1 33 && qI L.1 34 && qI L.1 35 && qI L.1 36 && qI L.1 37 && qI L.1 38 && qF L.2.2.1 32 1 && qF L.2.2.1 32 0
def QbR (L : FM) : Bool := qI L.1 110 && qI L.1 111 && qI L.1 112 && qI L.1 113 && qI L.1 114 && qI L.1 115 && qI L.1 116 && qI L.1 117
def QbX (L : FM) : Bool := qI L.1 110 && qI L.1 111 && qI L.1 112 && qI L.1 113 && qI L.1 114 && qI L.1 115 && qI L.1 116 && qI L.1 117 && qF L.2.2.1 109 9
def QbS (L : FM) : Bool := qF L.2.2.1 0 2 && qF L.2.2.1 109 17
def QbL (L : FM) : Bool := qI L.1 118 && qI L.1 119 && qI L.1 120 && qI L.1 121 && qI L.1 122 && qI L.1 123 && qI L.1 124 && qF L.2.2.1 109 9
def QbT (L : FM) : Bool := qI L.1 34 && qF L.2.2.1 32 3
/-- nothing that is shown, and nothing of the history, is touched -/
def KQA (L : FM) : Bool := QbH L && (QbC L && (QbD L && (QbR L && (QbS L && (qF L.2.2.1 109 18 && (QbT L && EXQ L))))))
/-- a change of the class: nothing of the reference, nothing of what is shown -/
def KQF (L : FM) : Bool := QbL L && (QbX L && (QbD L && (QbS L && (qF L.2.2.1 109 18 && (QbT L && EXQ L)))))
/-- a change of the reference: nothing of the class -/
noncomputable def KQG (L : FM) : Bool := QbC L && (qI L.1 30 && (QbD L && (QbS L && (QbT L && EXQ L))))
section HSX
variable {s t u : GS} {F G : FM} {H H2 : Nat → GVW}
theorem gv1_fr {x : Int} (hF : Fr F s t) (hq : QbR F = true) : gv1 t x = gv1 s x := by
  unfold QbR at hq
  simp only [Bool.and_eq_true] at hq
  obtain ⟨⟨⟨⟨⟨⟨⟨q0, q1⟩, q2⟩, q3⟩, q4⟩, q5⟩, q6⟩, q7⟩ := hq
  unfold gv1
  rw [hF.1 110 q0, hF.1 111 q1, hF.1 112 q2, hF.1 113 q3, hF.1 114 q4, hF.1 115 q5, hF.1 116 q6, hF.1 117 q7]
theorem fr_20 (hF : Fr F s t) (h : QbC F = true) : t.2.2.1 2 0 = s.2.2.1 2 0 := hF.2.2.1 2 0 (b_and h).2
theorem fr_320 (hF : Fr F s t) (h : QbD F = true) : t.2.2.1 32 0 = s.2.2.1 32 0 := hF.2.2.1 32 0 (b_and h).2
theorem fr_02 (hF : Fr F s t) (h : QbS F = true) : t.2.2.1 0 2 = s.2.2.1 0 2 := hF.2.2.1 0 2 (b_and h).1
theorem fr_17 (hF : Fr F s t) (h : QbS F = true) : t.2.2.1 109 17 = s.2.2.1 109 17 := hF.2.2.1 109 17 (b_and h).2
theorem gse_f (h : GSE s) (hF : Fr F s t) (h1 : QbS F = true) (h2 : qF F.2.2.1 109 18 = true) : GSE t := gse_fr h hF (by rw [h2, (b_and h1).2]; rfl)
theorem hsx_fr (h : HSX s H) (hF : Fr F s t) (hk : KQA F = true) : HSX t H := by
  obtain ⟨k1, hk⟩ := b_and hk
  obtain ⟨k2, hk⟩ := b_and hk
  obtain ⟨k3, hk⟩ := b_and hk
  obtain ⟨k4, hk⟩ := b_and hk
  obtain ⟨k5, hk⟩ := b_and hk
  obtain ⟨k6, hk⟩ := b_and hk
  obtain ⟨k7, k8⟩ := b_and hk
  obtain ⟨h1, h2, ⟨w1, w2, w3, w4, w5⟩, h4, h5, h6⟩ := h
  have e20 := fr_20 hF k2
  have e320 := fr_320 hF k3
  have e02 := fr_02 hF k5
  have e17 := fr_17 hF k5
  refine ⟨his_fr h1 hF k1, by rw [e20, gvC_cg hF k2]; exact h2, ⟨by rw [gvD_fr hF k3, e320]; exact w1, by rw [e320]; exact w2, by rw [e320, e20]; exact w3, by rw [e02, e17]; exact w4, ?_⟩, gse_f h4 hF k5 k6, tqd_fr h5 hF k7, ext_fr h6 hF k8 (fun _ _ => rfl) (by rw [e20]; exact Int.le_refl _)⟩
  rw [e17, e02, e320, gv1_fr hF k4]
  exact w5
theorem rel3_fr (h : REL3 s) (hF : Fr F s t) (hk : ((qF F.2.2.1 46 1 && qF F.2.2.1 109 22 && (qI F.1 47 && qI F.1 125)) && (qI F.1 3 && qI F.1 4 && qI F.1 5 && qI F.1 6 && qI F.1 7 && qI F.1 8 && qF F.2.2.1 2 1 && qF F.2.2.1 2 0) && (qI F.1 110 && qI F.1 111 && qI F.1 112 && qI F.1 113 && qI F.1 114 && qI F.1 115 && qI F.1 116 && qI F.1 117 && qF F.2.2.1 109 9) && (qI F.1 4 && qF F.2.2.1 2 3)) = true) (hk2 : KQA F = true) : REL3 t := by
  obtain ⟨h1, H, h2⟩ := h
  exact ⟨rel2_fr h1 hF hk, H, hsx_fr h2 hF hk2⟩
/-- a change on both sides: what stays -/
theorem hsx_m (hI : Inv s) (h : HSX s H) (hF : Fr F s t) (kk : KQF F = true) (hG : Fr G t u) (jj : KQG G = true) (hg : GSE t → GSE u) (h1 : G1S t u) (a1 : HIS u H2) (a2 : GEV (H2 (u.2.2.1 2 0).toInt.toNat) (gvC u)) (a3 : (s.2.2.1 2 0).toInt ≤ (u.2.2.1 2 0).toInt) (a4 : ∀ k : Nat, (k : Int) ≤ (s.2.2.1 2 0).toInt → H2 k = H k) : HSX u H2 := by
  obtain ⟨-, kk⟩ := b_and kk
  obtain ⟨k2, kk⟩ := b_and kk
  obtain ⟨k3, kk⟩ := b_and kk
  obtain ⟨k4, kk⟩ := b_and kk
  obtain ⟨k5, kk⟩ := b_and kk
  obtain ⟨k6, k7⟩ := b_and kk
  obtain ⟨j1, jj⟩ := b_and jj
  obtain ⟨-, jj⟩ := b_and jj
  obtain ⟨j3, jj⟩ := b_and jj
  obtain ⟨j4, jj⟩ := b_and jj
  obtain ⟨j5, j6⟩ := b_and jj
  obtain ⟨c1, c2, ⟨w1, w2, w3, w4, w5⟩, c4, c5, c6⟩ := h
  have k2' : QbR F = true := (b_and k2).1
  have hD : gvD u = gvD s := (gvD_fr hG j3).trans (gvD_fr hF k3)
  have e320 : u.2.2.1 32 0 = s.2.2.1 32 0 := (fr_320 hG j3).trans (fr_320 hF k3)
  have e02 : u.2.2.1 0 2 = s.2.2.1 0 2 := (fr_02 hG j4).trans (fr_02 hF k4)
  have e17 : u.2.2.1 109 17 = s.2.2.1 109 17 := (fr_17 hG j4).trans (fr_17 hF k4)
  have e20 : u.2.2.1 2 0 = t.2.2.1 2 0 := fr_20 hG j1
  have hn : In (t.1 110 1) 0 32 := by
    have e : t.1 110 = s.1 110 := by
      unfold QbR at k2'
      simp only [Bool.and_eq_true] at k2'
      exact hF.1 110 k2'.1.1.1.1.1.1.1
    rw [e]
    exact hI.2.2.2.2.2.2.1.2
  have h1v : ∀ x, GEV (gv1 u x) (gv1 s x) := fun x => by
    have q := g1_v (x := x) h1 hn
    rw [gv1_fr hF k2'] at q
    exact q
  refine ⟨a1, a2, ⟨?_, ?_, ?_, ?_, ?_⟩, hg (gse_f c4 hF k4 k5), tqd_fr (tqd_fr c5 hF k6) hG j5, ?_⟩
  · rw [hD, e320, a4 _ (by omega)]; exact w1
  · rw [e320]; exact w2
  · rw [e320]; omega
  · rw [e02, e17]; exact w4
  · rw [e17, e02, e320]
    intro z
    obtain ⟨b1, b2⟩ := w5 z
    refine ⟨b1, ?_⟩
    have e : (s.2.2.1 109 17).toInt = (s.2.2.1 32 0).toInt := by rw [← w4, b1]
    rw [a4 _ (by omega)]
    exact gev_t (h1v _) b2
  · exact ext_fr (ext_fr c6 hF k7 a4 (by rw [← e20]; exact a3)) hG j6 (fun _ _ => rfl) (by rw [e20]; exact Int.le_refl _)
def PFX (s t : GS) : Prop := ∀ k : Nat, (k : Int) < 7 * (s.2.2.1 2 0).toInt → t.1 30 k = s.1 30 k
theorem lgo_fr (hF : Fr F s t) (hq : QbL F = true) (h : LGO t u) : LGO s u := by
  unfold QbL at hq
  simp only [Bool.and_eq_true] at hq
  obtain ⟨⟨⟨⟨⟨⟨⟨q0, q1⟩, q2⟩, q3⟩, q4⟩, q5⟩, q6⟩, q9⟩ := hq
  intro k hk
  have a := h k (by rw [hF.2.2.1 109 9 q9]; exact hk)
  rw [hF.1 118 q0, hF.1 119 q1, hF.1 120 q2, hF.1 121 q3, hF.1 122 q4, hF.1 123 q5, hF.1 124 q6] at a
  exact a
theorem fr_9 (hF : Fr F s t) (hq : QbL F = true) : t.2.2.1 109 9 = s.2.2.1 109 9 := hF.2.2.1 109 9 (b_and hq).2
/-- what a row of the reference's log does -/
def RWQ (g : GVW) (w a b c d e f : Int32) : GVW := if w.toInt = 0 then gqN g g.2.2.2.2.2.2.1.toNat a else if w.toInt = 1 then gqA g a.toNatClampNeg b c d e f else if w.toInt = 2 then gqD g a.toNatClampNeg else if w.toInt = 3 then gqW g a.toNatClampNeg b c else gqL g a.toNatClampNeg b
/-- one change on both sides, or none -/
theorem hsx_x {w a b c d e f : Int32} (hI : Inv s) (hIt : Inv t) (hR : REL2 s) (h : HSX s H) (hF : Fr F s t) (kk : KQF F = true) (hp : PFX s t) (hC : gvC t = gvC s ∨ LGC s t) (hG : Fr G t u) (jj : KQG G = true) (hO : LGX t u w a b c d e f) (hg : GSE t → GSE u) (h1 : G1S t u) (hq : GEQ (gvC u) (gvR u)) (hT : gvR u = gvR t ∨ gvR u = RWQ (gvR t) w a b c d e f) : ∃ H2, HSX u H2 := by
  have main := fun H2 => hsx_m (H2 := H2) hI h hF kk hG jj hg h1
  obtain ⟨k1, kk⟩ := b_and kk
  obtain ⟨k2, kk⟩ := b_and kk
  obtain ⟨j1, jj⟩ := b_and jj
  obtain ⟨j2, jj⟩ := b_and jj
  obtain ⟨c1, c2, -⟩ := h
  have hgvC : gvC u = gvC t := gvC_cg hG j1
  have e30 : u.1 30 = t.1 30 := hG.1 30 j2
  have v0 := inv_F hI (z := s.2.2.1 2 0) 0 4000 rfl rfl
  have n0 := inv_F hI (z := s.2.2.1 2 1) 0 32 rfl rfl
  have n1 := inv_F hIt (z := t.2.2.1 2 1) 0 32 rfl rfl
  unfold In at v0 n0 n1
  have hc9 : (s.2.2.1 109 9).toInt = (s.2.2.1 2 0).toInt := (q_vr hR.2.2.1).symm
  have ec : (s.2.2.1 109 9).toNatClampNeg = (s.2.2.1 2 0).toInt.toNat := congrArg Int.toNat hc9
  have hOs : LGO s u := lgo_fr hF k1 (lgx_o hO)
  have vu : (u.2.2.1 2 0).toInt = (t.2.2.1 2 0).toInt := congrArg (fun g : GVW => g.2.2.2.2.2.2.2) hgvC
  rcases hC with hC | hC
  · have vs : (t.2.2.1 2 0).toInt = (s.2.2.1 2 0).toInt := congrArg (fun g : GVW => g.2.2.2.2.2.2.2) hC
    refine ⟨H, main H ⟨c1.1, fun k hk => ?_⟩ ?_ (by omega) (fun _ _ => rfl)⟩
    · rw [vu, vs] at hk
      obtain ⟨x1, x2, x3, x4⟩ := c1.2 k hk
      obtain ⟨p1, p2, p3⟩ := gqR_p (g := H k) (k := k) hp hk
      rw [e30, p1, p2, p3, gqT_o hOs (by omega)]
      exact ⟨x1, x2, x3, x4⟩
    · rw [vu, vs, hgvC, hC]; exact c2
  · have hv := lgc_v hC
    have v9 : (u.2.2.1 109 9).toInt = (s.2.2.1 2 0).toInt + 1 := by
      have z := q_vr hq
      omega
    have e9 := fr_9 hF k1
    have hne : u.2.2.1 109 9 ≠ t.2.2.1 109 9 := fun z => by rw [z, e9] at v9; omega
    have hgt : gvR u = gqT (gvR t) u (t.2.2.1 109 9).toNatClampNeg := by
      rw [lgx_t hO hne]
      rcases hT with hT | hT
      · exfalso
        have z : (u.2.2.1 109 9).toInt = (t.2.2.1 109 9).toInt := congrArg (fun g : GVW => g.2.2.2.2.2.2.2) hT
        exact hne (i_eq.mpr z)
      · exact hT
    have hgR : gvR t = gvR s := gvR_cg hF k2
    refine ⟨_, main (fun k => if k ≤ (s.2.2.1 2 0).toInt.toNat then H k else gvC t) (his_x c1 c2 v0.1 n0.1 hC hv e30 (i_eq.mpr vu) hc9 hOs ?_) ?_ (by omega) (fun k hk => if_pos (by omega))⟩
    · rw [e9, hgR] at hgt
      have q1 : GEQ (gvC t) (gvR u) := by rw [← hgvC]; exact hq
      rw [hgt] at q1
      exact gev_q (geq_t q1 (geq_T (geq_s hR.2.2.1))) n1.2
    · show GEV (if (u.2.2.1 2 0).toInt.toNat ≤ (s.2.2.1 2 0).toInt.toNat then H _ else gvC t) (gvC u)
      rw [if_neg (by omega), hgvC]
      exact gev_r
/-- what the graphs of a text have of nodes -/
theorem opC_n {g : GVW} {c : Int} {V : Nat → Int} : g.2.2.2.2.2.2.1 ≤ (opC g c V).2.2.2.2.2.2.1 := by
  unfold opC
  split
  · show g.2.2.2.2.2.2.1 ≤ g.2.2.2.2.2.2.1 + 1
    omega
  · split
    · exact Int.le_refl _
    · split
      · exact Int.le_refl _
      · exact Int.le_refl _
theorem lrn_n {T : Nat → Int32} {n : Nat} {g0 : GVW} : ∀ (k : Nat) {a : Nat} {g : GVW}, LRN T n g0 k a g → g0.2.2.2.2.2.2.1 ≤ g.2.2.2.2.2.2.1
  | 0, a, g, h => by rw [h.2]; exact Int.le_refl _
  | k + 1, a, g, h => by
    obtain ⟨a0, g1, p, c, V, h1, -, -, h4⟩ := h
    rw [h4]
    exact Int.le_trans (lrn_n k h1) opC_n
theorem gvn_32 {T : Nat → Int32} {n : Nat} {g0 : GVW} : ∀ (k : Nat) {a : Nat} {g : GVW}, g0.2.2.2.2.2.2.1 ≤ 32 → LRN T n g0 k a g → g.2.2.2.2.2.2.1 ≤ 32
  | 0, a, g, h0, h => by rw [h.2]; exact h0
  | k + 1, a, g, h0, h => by
    obtain ⟨a0, g1, p, c, V, h1, -, h3, h4⟩ := h
    have i := gvn_32 k h0 h1
    rw [h4]
    unfold opC
    split
    · rename_i hc
      have q := h3.2.1 hc
      show g1.2.2.2.2.2.2.1 + 1 ≤ 32
      omega
    · split
      · exact i
      · split
        · exact i
        · exact i
/-- a text carried out on both sides, or none of it -/
theorem hsx_l {z : Int32} (hI : Inv s) (hIt : Inv t) (hR : REL2 s) (h : HSX s H) (hF : Fr F s t) (kk : KQF F = true) (hz : -4 ≤ z.toInt ∧ (z.toInt < 0 → z.toInt = -4)) (hC : LCO s t z) (hB : z.toInt = -4 → GEQ (gvC t) (gvC s)) (hG : Fr G t u) (jj : KQG G = true) (hO : LDO t u z) (h1 : G1S t u) (hq : GEQ (gvC u) (gvR u)) (t125 : t.1 125 = s.1 125) (t22 : t.2.2.1 109 22 = s.2.2.1 109 22) : ∃ H2, HSX u H2 := by
  have main := fun H2 => hsx_m (H2 := H2) hI h hF kk hG jj
  obtain ⟨k1, kk⟩ := b_and kk
  obtain ⟨k2, kk⟩ := b_and kk
  obtain ⟨j1, jj⟩ := b_and jj
  obtain ⟨j2, jj⟩ := b_and jj
  obtain ⟨c1, c2, -⟩ := h
  have hgvC : gvC u = gvC t := gvC_cg hG j1
  have e30 : u.1 30 = t.1 30 := hG.1 30 j2
  have v0 := inv_F hI (z := s.2.2.1 2 0) 0 4000 rfl rfl
  have n0 := inv_F hI (z := s.2.2.1 2 1) 0 32 rfl rfl
  have n1 := inv_F hIt (z := t.2.2.1 2 1) 0 32 rfl rfl
  unfold In at v0 n0 n1
  have hc9 : (s.2.2.1 109 9).toInt = (s.2.2.1 2 0).toInt := (q_vr hR.2.2.1).symm
  have ec : (s.2.2.1 109 9).toNatClampNeg = (s.2.2.1 2 0).toInt.toNat := congrArg Int.toNat hc9
  have e9 := fr_9 hF k1
  have vu : (u.2.2.1 2 0).toInt = (t.2.2.1 2 0).toInt := congrArg (fun g : GVW => g.2.2.2.2.2.2.2) hgvC
  by_cases q : z.toInt = -4
  · have hp := hC.2 q
    have hL := hO.2 q
    have hb := hB q
    have vs : (t.2.2.1 2 0).toInt = (s.2.2.1 2 0).toInt := hb.2.2.2.2.2.2.2
    have hOs : LGO s u := lgo_fr hF k1 (fun k _ => by
      obtain ⟨⟨r0, r1, r2, r3, r4, r5, r6⟩, -⟩ := hL
      rw [r0, r1, r2, r3, r4, r5, r6]
      exact ⟨rfl, rfl, rfl, rfl, rfl, rfl, rfl⟩)
    refine ⟨H, main H hL.2.2 h1 ⟨c1.1, fun k hk => ?_⟩ ?_ (by omega) (fun _ _ => rfl)⟩
    · rw [vu, vs] at hk
      obtain ⟨x1, x2, x3, x4⟩ := c1.2 k hk
      obtain ⟨p1, p2, p3⟩ := gqR_p (g := H k) (k := k) hp hk
      rw [e30, p1, p2, p3, gqT_o hOs (by omega)]
      exact ⟨x1, x2, x3, x4⟩
    · rw [vu, vs, hgvC]
      exact gev_t c2 (gev_s (gev_q hb n1.2))
  · obtain ⟨G0, a1, a2, a3, a4, a5⟩ := hC.1 q
    obtain ⟨⟨b1, b2, b3, b4⟩, b5, b6⟩ := hO.1 q
    have hz0 : 0 ≤ z.toInt := by
      obtain ⟨z1, z2⟩ := hz
      omega
    have ez : z.toNatClampNeg = z.toInt.toNat := rfl
    have hOs : LGO s u := lgo_fr hF k1 b1
    have hgR : gvR t = gvR s := gvR_cg hF k2
    have htx := hR.2.1
    have hrl : s.2.2.1 46 1 = s.2.2.1 109 22 := hR.1
    have g0 : G0 0 = gvC s := by
      obtain ⟨a, hl⟩ := a1 0 (Nat.zero_le _)
      exact hl.2
    have ge : ∀ j, j ≤ z.toInt.toNat → GEQ (G0 j) (opF (gvR t) (u.1 127) (u.1 128) j) := by
      intro j hj
      obtain ⟨a, hl⟩ := a1 j hj
      obtain ⟨a', hl2⟩ := b5 j (by omega)
      rw [t125, t22, hgR, ← hrl] at hl2
      rw [hgR]
      exact (lrn_u htx hR.2.2.1 j hl hl2).2
    have gn : ∀ j, j ≤ z.toInt.toNat → 0 ≤ (G0 j).2.2.2.2.2.2.1 ∧ (G0 j).2.2.2.2.2.2.1 ≤ 32 := by
      intro j hj
      obtain ⟨a, hl⟩ := a1 j hj
      have x1 := lrn_n j hl
      have x2 := gvn_32 j (show (gvC s).2.2.2.2.2.2.1 ≤ 32 from n0.2) hl
      have x3 : (gvC s).2.2.2.2.2.2.1 = (s.2.2.1 2 1).toInt := rfl
      exact ⟨by omega, x2⟩
    have ve : (u.2.2.1 2 0).toInt.toNat = (s.2.2.1 2 0).toInt.toNat + z.toInt.toNat := by omega
    have HH : ∀ k, (if k ≤ (s.2.2.1 2 0).toInt.toNat then H k else G0 (k - (s.2.2.1 2 0).toInt.toNat)) = (if k ≤ (s.2.2.1 2 0).toInt.toNat then H k else G0 (k - (s.2.2.1 2 0).toInt.toNat)) := fun _ => rfl
    have hx : ∀ k, (s.2.2.1 2 0).toInt.toNat ≤ k → GEV (if k ≤ (s.2.2.1 2 0).toInt.toNat then H k else G0 (k - (s.2.2.1 2 0).toInt.toNat)) (G0 (k - (s.2.2.1 2 0).toInt.toNat)) := by
      intro k hk
      by_cases c : k ≤ (s.2.2.1 2 0).toInt.toNat
      · rw [if_pos c]
        have e : k = (s.2.2.1 2 0).toInt.toNat := by omega
        rw [e, Nat.sub_self, g0]
        exact c2
      · rw [if_neg c]; exact gev_r
    refine ⟨_, main (fun k => if k ≤ (s.2.2.1 2 0).toInt.toNat then H k else G0 (k - (s.2.2.1 2 0).toInt.toNat)) b4 h1 ⟨?_, fun k hk => ?_⟩ ?_ (by omega) (fun k hk => if_pos (by omega))⟩
    · show GE0 (if 0 ≤ (s.2.2.1 2 0).toInt.toNat then H 0 else G0 (0 - (s.2.2.1 2 0).toInt.toNat))
      rw [if_pos (Nat.zero_le _)]
      exact c1.1
    · rw [vu, a4] at hk
      show GEV (if k + 1 ≤ (s.2.2.1 2 0).toInt.toNat then H (k + 1) else G0 (k + 1 - (s.2.2.1 2 0).toInt.toNat)) (gqR (if k ≤ (s.2.2.1 2 0).toInt.toNat then H k else G0 (k - (s.2.2.1 2 0).toInt.toNat)) (u.1 30) k) ∧ (_ → _ = (if k ≤ (s.2.2.1 2 0).toInt.toNat then H k else G0 (k - (s.2.2.1 2 0).toInt.toNat)).2.2.2.2.2.2.1) ∧ GEV (if k + 1 ≤ (s.2.2.1 2 0).toInt.toNat then H (k + 1) else G0 (k + 1 - (s.2.2.1 2 0).toInt.toNat)) (gqT (if k ≤ (s.2.2.1 2 0).toInt.toNat then H k else G0 (k - (s.2.2.1 2 0).toInt.toNat)) u k) ∧ 0 ≤ (if k ≤ (s.2.2.1 2 0).toInt.toNat then H k else G0 (k - (s.2.2.1 2 0).toInt.toNat)).2.2.2.2.2.2.1
      by_cases c : k + 1 ≤ (s.2.2.1 2 0).toInt.toNat
      · rw [if_pos c, if_pos (show k ≤ (s.2.2.1 2 0).toInt.toNat by omega), e30]
        obtain ⟨x1, x2, x3, x4⟩ := c1.2 k (by omega)
        obtain ⟨p1, p2, p3⟩ := gqR_p (g := H k) (k := k) a3 (by omega)
        rw [p1, p2, p3, gqT_o hOs (by omega)]
        exact ⟨x1, x2, x3, x4⟩
      · rw [if_neg c]
        have hxk := hx k (by omega)
        obtain ⟨j, hj⟩ : ∃ j, k = (s.2.2.1 2 0).toInt.toNat + j := ⟨k - (s.2.2.1 2 0).toInt.toNat, by omega⟩
        have ej : k - (s.2.2.1 2 0).toInt.toNat = j := by omega
        have ej1 : k + 1 - (s.2.2.1 2 0).toInt.toNat = j + 1 := by omega
        have hjz : j < z.toInt.toNat := by omega
        obtain ⟨y1, y2⟩ := a5 j hjz
        rw [← hj] at y1 y2
        rw [ej] at hxk ⊢
        rw [ej1, e30]
        have hn := hxk.2.2.2.1
        obtain ⟨m0, m1⟩ := gn j (by omega)
        refine ⟨?_, fun w => by rw [hn]; exact y2 w, ?_, by rw [hn]; exact m0⟩
        · have r := gev_R (r := t.1 30) (k := k) (gev_s hxk) (fun w => y2 w)
          rw [y1] at r
          exact r
        · have r := gev_T (s := u) (k := k) (gev_s hxk) m0
          refine gev_t ?_ r
          have y := b3 j (by omega)
          have ech : (t.2.2.1 109 9).toNatClampNeg + j = k := by rw [e9, ec]; exact hj.symm
          rw [ech] at y
          have g1 := ge (j + 1) (by omega)
          have g2 := geq_T (s := u) (k := k) (ge j (by omega))
          have g3 := geq_t g1 (geq_t (geq_s y) (geq_s g2))
          exact gev_q g3 (gn (j + 1) (by omega)).2
    · show GEV (if (u.2.2.1 2 0).toInt.toNat ≤ (s.2.2.1 2 0).toInt.toNat then H (u.2.2.1 2 0).toInt.toNat else G0 ((u.2.2.1 2 0).toInt.toNat - (s.2.2.1 2 0).toInt.toNat)) (gvC u)
      have r := hx (u.2.2.1 2 0).toInt.toNat (by omega)
      rw [show (u.2.2.1 2 0).toInt.toNat - (s.2.2.1 2 0).toInt.toNat = z.toInt.toNat by omega, a2.trans hgvC.symm] at r
      rw [show (u.2.2.1 2 0).toInt.toNat - (s.2.2.1 2 0).toInt.toNat = z.toInt.toNat by omega, a2.trans hgvC.symm]
      exact r
/-- a view on both sides -/
def KVF (L : FM) : Bool := QbH L && (QbC L && (QbR L && (qF L.2.2.1 109 17 && (qF L.2.2.1 109 18 && (qF L.2.2.1 109 9 && EXQ L)))))
def KVG (L : FM) : Bool := QbH L && (QbC L && (QbD L && (qF L.2.2.1 0 2 && (QbT L && EXQ L))))
theorem hsx_v {x c : Int32} (hR : REL2 s) (h : HSX s H) (hF : Fr F s t) (kk : KVF F = true) (hV : (c.toInt = 1 ∧ Fr ([], [195], [], []) s t) ∨ (c.toInt = 0 ∧ (-1 ≤ x.toInt ∧ x.toInt ≤ (s.2.2.1 2 0).toInt) ∧ VWD s t x ∧ (TQD s → TQD t))) (hG : Fr G t u) (jj : KVG G = true) (hW : VW1 t u x) (hg : GSE t → GSE u) (hc : (u.2.2.1 109 0).toInt = c.toInt) : HSX u H := by
  obtain ⟨k1, kk⟩ := b_and kk
  obtain ⟨k2, kk⟩ := b_and kk
  obtain ⟨k3, kk⟩ := b_and kk
  obtain ⟨k4, kk⟩ := b_and kk
  obtain ⟨k5, kk⟩ := b_and kk
  obtain ⟨k6, k7⟩ := b_and kk
  obtain ⟨j1, jj⟩ := b_and jj
  obtain ⟨j2, jj⟩ := b_and jj
  obtain ⟨j3, jj⟩ := b_and jj
  obtain ⟨j4, jj⟩ := b_and jj
  obtain ⟨j5, j6⟩ := b_and jj
  have hh := h
  obtain ⟨c1, c2, ⟨w1, w2, w3, w4, w5⟩, c4, c5, c6⟩ := h
  have hT := his_fr c1 hF k1
  have hU := his_fr hT hG j1
  have e20 : t.2.2.1 2 0 = s.2.2.1 2 0 := fr_20 hF k2
  have e21 : u.2.2.1 2 0 = t.2.2.1 2 0 := fr_20 hG j2
  have gC : gvC u = gvC s := (gvC_cg hG j2).trans (gvC_cg hF k2)
  have gD : gvD u = gvD t := gvD_fr hG j3
  have e32 : u.2.2.1 32 0 = t.2.2.1 32 0 := fr_320 hG j3
  have e02 : u.2.2.1 0 2 = t.2.2.1 0 2 := hG.2.2.1 0 2 j4
  have e17 : t.2.2.1 109 17 = s.2.2.1 109 17 := hF.2.2.1 109 17 k4
  have gs : GSE u := hg (gse_fr c4 hF (by rw [k4, k5]; rfl))
  have ex : EXK u H := ext_fr (ext_fr c6 hF k7 (fun _ _ => rfl) (by rw [e20]; exact Int.le_refl _)) hG j6 (fun _ _ => rfl) (by rw [e21]; exact Int.le_refl _)
  have a2 : GEV (H (u.2.2.1 2 0).toInt.toNat) (gvC u) := by rw [e21, e20, gC]; exact c2
  rcases hV with ⟨d1, d2⟩ | ⟨d1, d2, d3, d4⟩
  · obtain ⟨r1, r2⟩ := hW.2 (by omega)
    have f32 : t.2.2.1 32 0 = s.2.2.1 32 0 := d2.2.2.1 32 0 rfl
    have f02 : t.2.2.1 0 2 = s.2.2.1 0 2 := d2.2.2.1 0 2 rfl
    refine ⟨hU, a2, ⟨by rw [gD, e32, f32, gvD_fr d2 rfl]; exact w1, by rw [e32, f32]; exact w2, by rw [e32, f32, e21, e20]; exact w3, by rw [e02, f02, r2, e17]; exact w4, ?_⟩, gs, tqd_fr (tqd_fr c5 d2 rfl) hG j5, ex⟩
    rw [r2, e17, e02, f02, e32, f32]
    intro q
    refine ⟨(w5 q).1, ?_⟩
    have e : gv1 u (s.2.2.1 109 17).toInt = gv1 s (s.2.2.1 109 17).toInt := by
      rw [← gv1_fr d2 (show QbR ([], [195], [], []) = true from rfl)]
      unfold gv1
      rw [r1]
    rw [e]
    exact (w5 q).2
  · obtain ⟨r1, r2⟩ := hW.1 (by omega)
    obtain ⟨v1, v2, v3⟩ := d3
    by_cases q : x.toInt < 0
    · have gd := v2 q
      have f32 : (t.2.2.1 32 0).toInt = (s.2.2.1 32 0).toInt := congrArg (fun g : GVW => g.2.2.2.2.2.2.2) gd
      refine ⟨hU, a2, ⟨by rw [gD, e32, gd, f32]; exact w1, by rw [e32, f32]; exact w2, by rw [e32, f32, e21, e20]; exact w3, by rw [e02, v1, r1], ?_⟩, gs, tqd_fr (d4 c5) hG j5, ex⟩
      rw [r1]
      intro q2
      omega
    · obtain ⟨v4, v5⟩ := v3 (by omega)
      have g1 := v4 H c1 w1
      refine ⟨hU, a2, ⟨by rw [gD, e32, v5]; exact g1, by rw [e32, v5]; omega, by rw [e32, v5, e21, e20]; omega, by rw [e02, v1, r1], ?_⟩, gs, tqd_fr (d4 c5) hG j5, ex⟩
      rw [r1]
      intro q2
      refine ⟨by rw [e02, v1, e32, v5], ?_⟩
      refine r2 q2 H hT ?_
      rw [hF.2.2.1 109 9 k6, e20]
      exact (q_vr hR.2.2.1).symm
end HSX
/-! both sides show the same -/
theorem gvG_0 {s : GS} : gvG s 0 = gvR s := by
  unfold gvG gvR
  simp only [Nat.mul_zero, Nat.zero_add]
theorem gvG_1 {s : GS} : gvG s 1 = gv1 s (s.2.2.1 109 9).toInt := by
  unfold gvG gv1
  simp only [Nat.mul_one]
theorem gew_1 {g : GVW} {s : GS} {x y : Int} (k : GEW g (gv1 s x)) : GEW g (gv1 s y) := ⟨k.1, k.2.1, k.2.2.1, k.2.2.2⟩
theorem rel3_sh {s : GS} (hI : Inv s) (h : REL3 s) : GEW (shC s) (gvG s (s.2.2.1 109 18).toNatClampNeg) := by
  obtain ⟨h1, H, c1, c2, ⟨w1, w2, w3, w4, w5⟩, c4, c5, c6⟩ := h
  have n0 := inv_F hI (z := s.2.2.1 2 1) 0 32 rfl rfl
  have r := inv_F hI (z := s.2.2.1 109 17) (-1) 4000 rfl rfl
  unfold In at n0 r
  unfold GSE at c4
  have eg : (s.2.2.1 109 18).toNatClampNeg = (s.2.2.1 109 18).toInt.toNat := rfl
  by_cases q : (s.2.2.1 109 17).toInt < 0
  · rw [if_pos q] at c4
    rw [eg, c4, shC_n (by rw [w4]; omega)]
    show GEW (gvC s) (gvG s 0)
    rw [gvG_0]
    exact gew_v (gev_q h1.2.2.1 n0.2)
  · rw [if_neg q] at c4
    obtain ⟨b1, b2⟩ := w5 (by omega)
    rw [eg, c4, shC_d (by rw [w4]; omega)]
    have e : (s.2.2.1 109 17).toInt = (s.2.2.1 32 0).toInt := by rw [← w4, b1]
    rw [← e] at w1
    have k := gew_v (gev_t w1 (gev_s b2))
    show GEW (gvD s) (gvG s 1)
    rw [gvG_1]
    exact gew_1 k
/-- without what else the row keeps -/
def HSY (s : GS) (H : Nat → GVW) : Prop := HIS s H ∧ GEV (H (s.2.2.1 2 0).toInt.toNat) (gvC s) ∧ SHW s H ∧ GSE s ∧ TQD s
def KQB (L : FM) : Bool := QbH L && (QbC L && (QbD L && (QbR L && (QbS L && (qF L.2.2.1 109 18 && QbT L)))))
theorem hsy_of {s : GS} {H : Nat → GVW} (h : HSX s H) : HSY s H := ⟨h.1, h.2.1, h.2.2.1, h.2.2.2.1, h.2.2.2.2.1⟩
theorem hsx_of {s : GS} {H : Nat → GVW} (h : HSY s H) (e : EXK s H) : HSX s H := ⟨h.1, h.2.1, h.2.2.1, h.2.2.2.1, h.2.2.2.2, e⟩
theorem hsy_fr {s t : GS} {F : FM} {H : Nat → GVW} (h : HSY s H) (hF : Fr F s t) (hk : KQB F = true) : HSY t H := by
  obtain ⟨k1, hk⟩ := b_and hk
  obtain ⟨k2, hk⟩ := b_and hk
  obtain ⟨k3, hk⟩ := b_and hk
  obtain ⟨k4, hk⟩ := b_and hk
  obtain ⟨k5, hk⟩ := b_and hk
  obtain ⟨k6, k7⟩ := b_and hk
  obtain ⟨h1, h2, ⟨w1, w2, w3, w4, w5⟩, h4, h5⟩ := h
  have e20 := fr_20 hF k2
  have e320 := fr_320 hF k3
  have e02 := fr_02 hF k5
  have e17 := fr_17 hF k5
  refine ⟨his_fr h1 hF k1, by rw [e20, gvC_cg hF k2]; exact h2, ⟨by rw [gvD_fr hF k3, e320]; exact w1, by rw [e320]; exact w2, by rw [e320, e20]; exact w3, by rw [e02, e17]; exact w4, ?_⟩, gse_f h4 hF k5 k6, tqd_fr h5 hF k7⟩
  rw [e17, e02, e320, gv1_fr hF k4]
  exact w5
theorem shC_fb {s t : GS} {F : FM} (hF : Fr F s t) (hk : KQB F = true) : shC t = shC s := by
  obtain ⟨k1, hk⟩ := b_and hk
  obtain ⟨k2, hk⟩ := b_and hk
  obtain ⟨k3, hk⟩ := b_and hk
  obtain ⟨k4, hk⟩ := b_and hk
  obtain ⟨k5, hk⟩ := b_and hk
  unfold shC
  rw [gvC_cg hF k2, gvD_fr hF k3, fr_02 hF k5]
/-- what is shown is a graph of the history -/
theorem hsx_sh {s : GS} {H : Nat → GVW} (h : HSY s H) (hI : Inv s) : GEV (H (shC s).2.2.2.2.2.2.2.toNat) (shC s) ∧ 0 ≤ (shC s).2.2.2.2.2.2.2 ∧ (shC s).2.2.2.2.2.2.2 ≤ (s.2.2.1 2 0).toInt := by
  obtain ⟨-, h2, ⟨w1, w2, w3, -⟩, -⟩ := h
  have a := inv_F hI (z := s.2.2.1 2 0) 0 4000 rfl rfl
  unfold shC
  split
  · exact ⟨h2, a.1, Int.le_refl _⟩
  · exact ⟨gev_s w1, w2, w3⟩
/-- what a query answers on both sides: refused (1) or not (0) -/
def QRS (c : Int32) (P R : Prop) : Prop := (c.toInt = 1 ∧ ¬ P) ∨ (c.toInt = 0 ∧ P ∧ R)
theorem qrs_meet {c d : Int32} {P R P2 R2 E : Prop} (hP : P ↔ P2) (h1 : QRS c P R) (h2 : QRS d P2 R2) (hE : P → R → R2 → E) : d.toInt = c.toInt ∧ (c.toInt = 0 → E) := by
  rcases h1 with ⟨a1, a2⟩ | ⟨a1, a2, a3⟩ <;> rcases h2 with ⟨b1, b2⟩ | ⟨b1, b2, b3⟩
  · exact ⟨by omega, fun z => by omega⟩
  · exact absurd (hP.mpr b2) a2
  · exact absurd (hP.mp a2) b2
  · exact ⟨by omega, fun _ => hE a2 a3 b3⟩
/-! the law's wrappers of the changes, with the log -/
noncomputable def WFq (Z : AmZ) (A : Nat → Nat) (L : FM) (s : GS) (P Q : Prop) (R : GS → Int32 → Prop) : AmR := fun v u => ∃ (c : Int32) (A2 : Nat → Nat) (t : GS) (z : Int32), v = some (.int c) ∧ u = WW Z A2 t ++ [] ∧ A2 0 = A 0 ∧ A2 109 = A 109 ∧ A2 195 = A 195 ∧ Inv t ∧ Fr (L.1, 195 :: L.2.1, L.2.2) s t ∧ KL t ∧ TQ t ∧ CDK c P Q (gvC t = gvC s) (R t z) ∧ (c.toInt = 0 → t.2.1 195 0 = z.toInt64) ∧ PFX s t ∧ (gvC t = gvC s ∨ LGC s t)

theorem wq_1 {Z : AmZ} {A : Nat → Nat} {s : GS} {x1 : Int32} (hI : Inv s) (q : KL s) (hT : TQ s) : WC Z 1300 1 [.ref (A 0), .int x1, .ref (A 195)] (WW Z A s ++ []) 4 28018 (WFq Z A fm_212_0 s (In x1 0 25) ((s.2.2.1 2 1).toInt ≤ 31 ∧ (s.2.2.1 2 0).toInt ≤ 3999) (fun t z => z.toInt = (s.2.2.1 2 1).toInt ∧ gvC t = gqN (gvC s) (s.2.2.1 2 1).toNatClampNeg x1)) := by
  intro post hP xp
  refine w_enter (k := 1) (d := 1299) (N := 60) rfl (Nat.le_of_ble_eq_true rfl) ?_
  refine g_aload_n 1 (gd rfl) rfl rfl ?_
  refine g_iconst 0 2 (gd rfl) rfl rfl ?_
  refine g_aload_n 3 (gd rfl) rfl rfl ?_
  refine g_iload_n 4 (gd rfl) rfl rfl ?_
  refine g_callvH (As := [.int x1]) (r := [.int (Int32.ofInt 0), .ref (A 195)]) (b := A 0) (q := 0) 7 (gd rfl) rfl rfl rfl rfl rfl rfl (ww_o rfl) (Nat.le_of_ble_eq_true rfl) (Nat.le_refl _) (Nat.le_refl _) (f_212_0 (by omega) hI rfl rfl rfl q) (fun e u h => ?_) (fun v u h => ?_)
  · obtain ⟨he, t, hI2, hF2, rfl⟩ := h
    have hg : gvC t = gvC s := gvC_cg hF2 rfl
    have hpf : PFX s t := fun k _ => by rw [hF2.1 30 rfl]
    rcases he with ⟨rfl, hn⟩ | ⟨rfl, hn⟩
    · refine ⟨0, 12, by decide, rfl, rfl, fun a => ?_⟩
      refine g_astore_n 13 (gd rfl) rfl (Nat.le_of_ble_eq_true rfl) ?_
      refine g_iconst 1 14 (gd rfl) rfl rfl ?_
      exact g_ireturn (gd rfl) rfl rfl (hP _ _ ⟨_, A, t, Int32.ofInt 0, rfl, rfl, rfl, rfl, rfl, hI2, fr_195' (fr_up hF2), kl_fr q hF2 rfl, tq_fr hT hF2 rfl, Or.inl ⟨rfl, hn, hg⟩, fun z => absurd z (by decide), hpf, Or.inl hg⟩)
    · refine ⟨1, 15, by decide, rfl, rfl, fun a => ?_⟩
      refine g_astore_n 16 (gd rfl) rfl (Nat.le_of_ble_eq_true rfl) ?_
      refine g_iconst 2 17 (gd rfl) rfl rfl ?_
      exact g_ireturn (gd rfl) rfl rfl (hP _ _ ⟨_, A, t, Int32.ofInt 0, rfl, rfl, rfl, rfl, rfl, hI2, fr_195' (fr_up hF2), kl_fr q hF2 rfl, tq_fr hT hF2 rfl, Or.inr (Or.inl ⟨rfl, hn.1, hn.2, hg⟩), fun z => absurd z (by decide), hpf, Or.inl hg⟩)
  · obtain ⟨a, t, hI2, hF2, z, rfl, rfl, iz, hK2, ⟨g1, g2, g3, g4, g5⟩, hTT, hpf, hrw⟩ := h
    show GG _ _ _ _ _ _ _ _ [.int z, .int (Int32.ofInt 0), .ref (A 195)] _ _ _
    refine g_i2l 8 (gd rfl) rfl (fun z7 e7 => ?_)
    refine g_ouS (A := (ax A 30 a)) 9 (gd rfl) rfl ?_
    refine g_goto 18 (gd rfl) rfl ?_
    refine g_iconst 0 19 (gd rfl) rfl rfl ?_
    have hlg : gvC t = gvC s ∨ LGC s t := Or.inr (lgc_n hpf g5 hrw (inv_F hI (z := s.2.2.1 2 1) 0 32 rfl rfl).1)
    refine g_ireturn (gd rfl) rfl rfl (hP _ _ ⟨_, (ax A 30 a), sL t 195 0 z7, z, rfl, rfl, (ax_ne (by decide)), (ax_ne (by decide)), (ax_ne (by decide)), inv_195 hI2, fr_195 hF2, kl_195 hK2, tq_cg (hTT hT) rfl rfl, Or.inr (Or.inr ⟨rfl, g1, ⟨g2, g3⟩, ⟨g4, g5⟩⟩), fun _ => ?_, hpf, hlg⟩)
    show (if 195 = 195 then vp_updL (t.2.1 195) 0 z7 else t.2.1 195) 0 = z.toInt64
    rw [if_pos rfl, ← e7]
    exact if_pos rfl

theorem wq_2 {Z : AmZ} {A : Nat → Nat} {s : GS} {x1 : Int32} {x2 : Int32} {x3 : Int32} {x4 : Int32} {x5 : Int32} (hI : Inv s) (q : KL s) (hT : TQ s) : WC Z 1300 2 [.ref (A 0), .int x1, .int x2, .int x3, .int x4, .int x5, .ref (A 195)] (WW Z A s ++ []) 4 28018 (WFq Z A fm_213_0 s (HNC s x1 ∧ HNC s x2 ∧ In x3 (-1000000) 1000000 ∧ In x4 0 1000000 ∧ In x5 0 25) ((s.2.2.1 2 0).toInt ≤ 3999) (fun t z => (z.toInt = -3 → gvC t = gvC s ∧ fpl (ctg (s.1 4)) = 160) ∧ (z.toInt ≠ -3 → gvC t = gqA (gvC s) z.toNatClampNeg x1 x2 x3 x4 x5 ∧ fpl (ctg (s.1 4)) = z.toNatClampNeg ∧ 0 ≤ z.toInt) ∧ In z (-3) 159)) := by
  intro post hP xp
  refine w_enter (k := 2) (d := 1299) (N := 60) rfl (Nat.le_of_ble_eq_true rfl) ?_
  refine g_aload 2 (gd rfl) rfl rfl ?_
  refine g_iconst 0 3 (gd rfl) rfl rfl ?_
  refine g_aload_n 4 (gd rfl) rfl rfl ?_
  refine g_iload_n 5 (gd rfl) rfl rfl ?_
  refine g_iload_n 6 (gd rfl) rfl rfl ?_
  refine g_iload_n 7 (gd rfl) rfl rfl ?_
  refine g_iload 9 (gd rfl) rfl rfl ?_
  refine g_iload 11 (gd rfl) rfl rfl ?_
  refine g_callvH (As := [.int x1, .int x2, .int x3, .int x4, .int x5]) (r := [.int (Int32.ofInt 0), .ref (A 195)]) (b := A 0) (q := 0) 14 (gd rfl) rfl rfl rfl rfl rfl rfl (ww_o rfl) (Nat.le_of_ble_eq_true rfl) (Nat.le_refl _) (Nat.le_refl _) (f_213_0 (by omega) hI rfl rfl rfl q) (fun e u h => ?_) (fun v u h => ?_)
  · obtain ⟨he, t, hI2, hF2, rfl⟩ := h
    have hg : gvC t = gvC s := gvC_cg hF2 rfl
    have hpf : PFX s t := fun k _ => by rw [hF2.1 30 rfl]
    rcases he with ⟨rfl, hn⟩ | ⟨rfl, hn⟩
    · refine ⟨0, 19, by decide, rfl, rfl, fun a => ?_⟩
      refine g_astore 21 (gd rfl) rfl (Nat.le_of_ble_eq_true rfl) ?_
      refine g_iconst 1 22 (gd rfl) rfl rfl ?_
      exact g_ireturn (gd rfl) rfl rfl (hP _ _ ⟨_, A, t, Int32.ofInt 0, rfl, rfl, rfl, rfl, rfl, hI2, fr_195' (fr_up hF2), kl_fr q hF2 rfl, tq_fr hT hF2 rfl, Or.inl ⟨rfl, hn, hg⟩, fun z => absurd z (by decide), hpf, Or.inl hg⟩)
    · refine ⟨1, 23, by decide, rfl, rfl, fun a => ?_⟩
      refine g_astore 25 (gd rfl) rfl (Nat.le_of_ble_eq_true rfl) ?_
      refine g_iconst 2 26 (gd rfl) rfl rfl ?_
      exact g_ireturn (gd rfl) rfl rfl (hP _ _ ⟨_, A, t, Int32.ofInt 0, rfl, rfl, rfl, rfl, rfl, hI2, fr_195' (fr_up hF2), kl_fr q hF2 rfl, tq_fr hT hF2 rfl, Or.inr (Or.inl ⟨rfl, hn.1, hn.2, hg⟩), fun z => absurd z (by decide), hpf, Or.inl hg⟩)
  · obtain ⟨a, t, hI2, hF2, z, rfl, rfl, iz, hK2, ⟨g1, g2⟩, g3, g4, hTT, hpf, hrw⟩ := h
    show GG _ _ _ _ _ _ _ _ [.int z, .int (Int32.ofInt 0), .ref (A 195)] _ _ _
    refine g_i2l 15 (gd rfl) rfl (fun z14 e14 => ?_)
    refine g_ouS (A := (ax A 30 a)) 16 (gd rfl) rfl ?_
    refine g_goto 27 (gd rfl) rfl ?_
    refine g_iconst 0 28 (gd rfl) rfl rfl ?_
    have hlg : gvC t = gvC s ∨ LGC s t := (by by_cases hz : z.toInt = -3; (exact Or.inl (g3 hz).1); (exact Or.inr (lgc_a hpf (g4 hz).1 (hrw hz))))
    refine g_ireturn (gd rfl) rfl rfl (hP _ _ ⟨_, (ax A 30 a), sL t 195 0 z14, z, rfl, rfl, (ax_ne (by decide)), (ax_ne (by decide)), (ax_ne (by decide)), inv_195 hI2, fr_195 hF2, kl_195 hK2, tq_cg (hTT hT) rfl rfl, Or.inr (Or.inr ⟨rfl, g1, g2, ⟨g3, g4, iz⟩⟩), fun _ => ?_, hpf, hlg⟩)
    show (if 195 = 195 then vp_updL (t.2.1 195) 0 z14 else t.2.1 195) 0 = z.toInt64
    rw [if_pos rfl, ← e14]
    exact if_pos rfl

theorem wq_3 {Z : AmZ} {A : Nat → Nat} {s : GS} {x1 : Int32} (hI : Inv s) (q : KL s) (hT : TQ s) : WC Z 1300 3 [.ref (A 0), .int x1, .ref (A 195)] (WW Z A s ++ []) 4 28018 (WFq Z A fm_214_0 s (HAC s x1) ((s.2.2.1 2 0).toInt ≤ 3999) (fun t z => z.toInt = (s.2.2.1 2 0).toInt + 1 ∧ gvC t = gqD (gvC s) x1.toNatClampNeg)) := by
  intro post hP xp
  refine w_enter (k := 3) (d := 1299) (N := 60) rfl (Nat.le_of_ble_eq_true rfl) ?_
  refine g_aload_n 1 (gd rfl) rfl rfl ?_
  refine g_iconst 0 2 (gd rfl) rfl rfl ?_
  refine g_aload_n 3 (gd rfl) rfl rfl ?_
  refine g_iload_n 4 (gd rfl) rfl rfl ?_
  refine g_callvH (As := [.int x1]) (r := [.int (Int32.ofInt 0), .ref (A 195)]) (b := A 0) (q := 0) 7 (gd rfl) rfl rfl rfl rfl rfl rfl (ww_o rfl) (Nat.le_of_ble_eq_true rfl) (Nat.le_refl _) (Nat.le_refl _) (f_214_0 (by omega) hI rfl rfl rfl rfl q hT) (fun e u h => ?_) (fun v u h => ?_)
  · obtain ⟨he, t, hI2, hF2, rfl⟩ := h
    have hg : gvC t = gvC s := gvC_cg hF2 rfl
    have hpf : PFX s t := fun k _ => by rw [hF2.1 30 rfl]
    rcases he with ⟨rfl, hn⟩ | ⟨rfl, hn⟩
    · refine ⟨0, 12, by decide, rfl, rfl, fun a => ?_⟩
      refine g_astore_n 13 (gd rfl) rfl (Nat.le_of_ble_eq_true rfl) ?_
      refine g_iconst 1 14 (gd rfl) rfl rfl ?_
      exact g_ireturn (gd rfl) rfl rfl (hP _ _ ⟨_, A, t, Int32.ofInt 0, rfl, rfl, rfl, rfl, rfl, hI2, fr_195' (fr_up hF2), kl_fr q hF2 rfl, tq_fr hT hF2 rfl, Or.inl ⟨rfl, hn, hg⟩, fun z => absurd z (by decide), hpf, Or.inl hg⟩)
    · refine ⟨1, 15, by decide, rfl, rfl, fun a => ?_⟩
      refine g_astore_n 16 (gd rfl) rfl (Nat.le_of_ble_eq_true rfl) ?_
      refine g_iconst 2 17 (gd rfl) rfl rfl ?_
      exact g_ireturn (gd rfl) rfl rfl (hP _ _ ⟨_, A, t, Int32.ofInt 0, rfl, rfl, rfl, rfl, rfl, hI2, fr_195' (fr_up hF2), kl_fr q hF2 rfl, tq_fr hT hF2 rfl, Or.inr (Or.inl ⟨rfl, hn.1, hn.2, hg⟩), fun z => absurd z (by decide), hpf, Or.inl hg⟩)
  · obtain ⟨a, t, hI2, hF2, z, rfl, rfl, iz, hK2, ⟨g1, g2, g3, g4⟩, hTT, hpf, hrw⟩ := h
    show GG _ _ _ _ _ _ _ _ [.int z, .int (Int32.ofInt 0), .ref (A 195)] _ _ _
    refine g_i2l 8 (gd rfl) rfl (fun z7 e7 => ?_)
    refine g_ouS (A := (ax A 30 a)) 9 (gd rfl) rfl ?_
    refine g_goto 18 (gd rfl) rfl ?_
    refine g_iconst 0 19 (gd rfl) rfl rfl ?_
    have hlg : gvC t = gvC s ∨ LGC s t := Or.inr (lgc_d hpf g4 hrw)
    refine g_ireturn (gd rfl) rfl rfl (hP _ _ ⟨_, (ax A 30 a), sL t 195 0 z7, z, rfl, rfl, (ax_ne (by decide)), (ax_ne (by decide)), (ax_ne (by decide)), inv_195 hI2, fr_195 hF2, kl_195 hK2, tq_cg (hTT) rfl rfl, Or.inr (Or.inr ⟨rfl, g1, g2, ⟨g3, g4⟩⟩), fun _ => ?_, hpf, hlg⟩)
    show (if 195 = 195 then vp_updL (t.2.1 195) 0 z7 else t.2.1 195) 0 = z.toInt64
    rw [if_pos rfl, ← e7]
    exact if_pos rfl

theorem wq_4 {Z : AmZ} {A : Nat → Nat} {s : GS} {x1 : Int32} {x2 : Int32} {x3 : Int32} (hI : Inv s) (q : KL s) (hT : TQ s) : WC Z 1300 4 [.ref (A 0), .int x1, .int x2, .int x3, .ref (A 195)] (WW Z A s ++ []) 4 28018 (WFq Z A fm_215_0 s (HAC s x1 ∧ GVL x2 x3) ((s.2.2.1 2 0).toInt ≤ 3999) (fun t z => z = (if x2.toInt = 0 then s.1 6 x1.toNatClampNeg else if x2.toInt = 1 then s.1 7 x1.toNatClampNeg else s.1 8 x1.toNatClampNeg) ∧ gvC t = gqW (gvC s) x1.toNatClampNeg x2 x3)) := by
  intro post hP xp
  refine w_enter (k := 4) (d := 1299) (N := 60) rfl (Nat.le_of_ble_eq_true rfl) ?_
  refine g_aload 2 (gd rfl) rfl rfl ?_
  refine g_iconst 0 3 (gd rfl) rfl rfl ?_
  refine g_aload_n 4 (gd rfl) rfl rfl ?_
  refine g_iload_n 5 (gd rfl) rfl rfl ?_
  refine g_iload_n 6 (gd rfl) rfl rfl ?_
  refine g_iload_n 7 (gd rfl) rfl rfl ?_
  refine g_callvH (As := [.int x1, .int x2, .int x3]) (r := [.int (Int32.ofInt 0), .ref (A 195)]) (b := A 0) (q := 0) 10 (gd rfl) rfl rfl rfl rfl rfl rfl (ww_o rfl) (Nat.le_of_ble_eq_true rfl) (Nat.le_refl _) (Nat.le_refl _) (f_215_0 (by omega) hI rfl rfl rfl rfl q hT) (fun e u h => ?_) (fun v u h => ?_)
  · obtain ⟨he, t, hI2, hF2, rfl⟩ := h
    have hg : gvC t = gvC s := gvC_cg hF2 rfl
    have hpf : PFX s t := fun k _ => by rw [hF2.1 30 rfl]
    rcases he with ⟨rfl, hn⟩ | ⟨rfl, hn⟩
    · refine ⟨0, 15, by decide, rfl, rfl, fun a => ?_⟩
      refine g_astore 17 (gd rfl) rfl (Nat.le_of_ble_eq_true rfl) ?_
      refine g_iconst 1 18 (gd rfl) rfl rfl ?_
      exact g_ireturn (gd rfl) rfl rfl (hP _ _ ⟨_, A, t, Int32.ofInt 0, rfl, rfl, rfl, rfl, rfl, hI2, fr_195' (fr_up hF2), kl_fr q hF2 rfl, tq_fr hT hF2 rfl, Or.inl ⟨rfl, hn, hg⟩, fun z => absurd z (by decide), hpf, Or.inl hg⟩)
    · refine ⟨1, 19, by decide, rfl, rfl, fun a => ?_⟩
      refine g_astore 21 (gd rfl) rfl (Nat.le_of_ble_eq_true rfl) ?_
      refine g_iconst 2 22 (gd rfl) rfl rfl ?_
      exact g_ireturn (gd rfl) rfl rfl (hP _ _ ⟨_, A, t, Int32.ofInt 0, rfl, rfl, rfl, rfl, rfl, hI2, fr_195' (fr_up hF2), kl_fr q hF2 rfl, tq_fr hT hF2 rfl, Or.inr (Or.inl ⟨rfl, hn.1, hn.2, hg⟩), fun z => absurd z (by decide), hpf, Or.inl hg⟩)
  · obtain ⟨a, t, hI2, hF2, z, rfl, rfl, iz, hK2, ⟨g1, g2, g3, g4⟩, hTT, hpf, hrw⟩ := h
    show GG _ _ _ _ _ _ _ _ [.int z, .int (Int32.ofInt 0), .ref (A 195)] _ _ _
    refine g_i2l 11 (gd rfl) rfl (fun z10 e10 => ?_)
    refine g_ouS (A := (ax A 30 a)) 12 (gd rfl) rfl ?_
    refine g_goto 23 (gd rfl) rfl ?_
    refine g_iconst 0 24 (gd rfl) rfl rfl ?_
    have hlg : gvC t = gvC s ∨ LGC s t := Or.inr (lgc_w hpf g4 hrw)
    refine g_ireturn (gd rfl) rfl rfl (hP _ _ ⟨_, (ax A 30 a), sL t 195 0 z10, z, rfl, rfl, (ax_ne (by decide)), (ax_ne (by decide)), (ax_ne (by decide)), inv_195 hI2, fr_195 hF2, kl_195 hK2, tq_cg (hTT) rfl rfl, Or.inr (Or.inr ⟨rfl, g1, g2, ⟨g3, g4⟩⟩), fun _ => ?_, hpf, hlg⟩)
    show (if 195 = 195 then vp_updL (t.2.1 195) 0 z10 else t.2.1 195) 0 = z.toInt64
    rw [if_pos rfl, ← e10]
    exact if_pos rfl

theorem wq_5 {Z : AmZ} {A : Nat → Nat} {s : GS} {x1 : Int32} {x2 : Int32} (hI : Inv s) (q : KL s) (hT : TQ s) : WC Z 1300 5 [.ref (A 0), .int x1, .int x2, .ref (A 195)] (WW Z A s ++ []) 4 28018 (WFq Z A fm_216_0 s (HNC s x1 ∧ In x2 0 25) ((s.2.2.1 2 0).toInt ≤ 3999) (fun t z => z = s.1 3 x1.toNatClampNeg ∧ gvC t = gqL (gvC s) x1.toNatClampNeg x2)) := by
  intro post hP xp
  refine w_enter (k := 5) (d := 1299) (N := 60) rfl (Nat.le_of_ble_eq_true rfl) ?_
  refine g_aload_n 1 (gd rfl) rfl rfl ?_
  refine g_iconst 0 2 (gd rfl) rfl rfl ?_
  refine g_aload_n 3 (gd rfl) rfl rfl ?_
  refine g_iload_n 4 (gd rfl) rfl rfl ?_
  refine g_iload_n 5 (gd rfl) rfl rfl ?_
  refine g_callvH (As := [.int x1, .int x2]) (r := [.int (Int32.ofInt 0), .ref (A 195)]) (b := A 0) (q := 0) 8 (gd rfl) rfl rfl rfl rfl rfl rfl (ww_o rfl) (Nat.le_of_ble_eq_true rfl) (Nat.le_refl _) (Nat.le_refl _) (f_216_0 (by omega) hI rfl rfl rfl q) (fun e u h => ?_) (fun v u h => ?_)
  · obtain ⟨he, t, hI2, hF2, rfl⟩ := h
    have hg : gvC t = gvC s := gvC_cg hF2 rfl
    have hpf : PFX s t := fun k _ => by rw [hF2.1 30 rfl]
    rcases he with ⟨rfl, hn⟩ | ⟨rfl, hn⟩
    · refine ⟨0, 13, by decide, rfl, rfl, fun a => ?_⟩
      refine g_astore 15 (gd rfl) rfl (Nat.le_of_ble_eq_true rfl) ?_
      refine g_iconst 1 16 (gd rfl) rfl rfl ?_
      exact g_ireturn (gd rfl) rfl rfl (hP _ _ ⟨_, A, t, Int32.ofInt 0, rfl, rfl, rfl, rfl, rfl, hI2, fr_195' (fr_up hF2), kl_fr q hF2 rfl, tq_fr hT hF2 rfl, Or.inl ⟨rfl, hn, hg⟩, fun z => absurd z (by decide), hpf, Or.inl hg⟩)
    · refine ⟨1, 17, by decide, rfl, rfl, fun a => ?_⟩
      refine g_astore 19 (gd rfl) rfl (Nat.le_of_ble_eq_true rfl) ?_
      refine g_iconst 2 20 (gd rfl) rfl rfl ?_
      exact g_ireturn (gd rfl) rfl rfl (hP _ _ ⟨_, A, t, Int32.ofInt 0, rfl, rfl, rfl, rfl, rfl, hI2, fr_195' (fr_up hF2), kl_fr q hF2 rfl, tq_fr hT hF2 rfl, Or.inr (Or.inl ⟨rfl, hn.1, hn.2, hg⟩), fun z => absurd z (by decide), hpf, Or.inl hg⟩)
  · obtain ⟨a, t, hI2, hF2, z, rfl, rfl, iz, hK2, ⟨g1, g2, g3, g4⟩, hTT, hpf, hrw⟩ := h
    show GG _ _ _ _ _ _ _ _ [.int z, .int (Int32.ofInt 0), .ref (A 195)] _ _ _
    refine g_i2l 9 (gd rfl) rfl (fun z8 e8 => ?_)
    refine g_ouS (A := (ax A 30 a)) 10 (gd rfl) rfl ?_
    refine g_goto 21 (gd rfl) rfl ?_
    refine g_iconst 0 22 (gd rfl) rfl rfl ?_
    have hlg : gvC t = gvC s ∨ LGC s t := Or.inr (lgc_l hpf g4 hrw)
    refine g_ireturn (gd rfl) rfl rfl (hP _ _ ⟨_, (ax A 30 a), sL t 195 0 z8, z, rfl, rfl, (ax_ne (by decide)), (ax_ne (by decide)), (ax_ne (by decide)), inv_195 hI2, fr_195 hF2, kl_195 hK2, tq_cg (hTT hT) rfl rfl, Or.inr (Or.inr ⟨rfl, g1, g2, ⟨g3, g4⟩⟩), fun _ => ?_, hpf, hlg⟩)
    show (if 195 = 195 then vp_updL (t.2.1 195) 0 z8 else t.2.1 195) 0 = z.toInt64
    rw [if_pos rfl, ← e8]
    exact if_pos rfl

noncomputable def WVq (Z : AmZ) (A : Nat → Nat) (L : FM) (s : GS) (x1 : Int32) : AmR := fun v u => ∃ (c : Int32) (t : GS) (z : Int32), v = some (.int c) ∧ u = WW Z A t ++ [] ∧ Inv t ∧ Fr (L.1, 195 :: L.2.1, L.2.2) s t ∧ KL t ∧ ((c.toInt = 1 ∧ ¬ (-1 ≤ x1.toInt ∧ x1.toInt ≤ (s.2.2.1 2 0).toInt)) ∨ (c.toInt = 0 ∧ (-1 ≤ x1.toInt ∧ x1.toInt ≤ (s.2.2.1 2 0).toInt) ∧ z = (if x1.toInt < 0 then s.2.2.1 2 0 else x1))) ∧ (c.toInt = 0 → t.2.1 195 0 = z.toInt64) ∧ ((c.toInt = 1 ∧ Fr ([], [195], [], []) s t) ∨ (c.toInt = 0 ∧ (-1 ≤ x1.toInt ∧ x1.toInt ≤ (s.2.2.1 2 0).toInt) ∧ VWD s t x1 ∧ (TQD s → TQD t)))
theorem wq_6 {Z : AmZ} {A : Nat → Nat} {s : GS} {x1 : Int32} (hI : Inv s) (q : KL s) : WC Z 1300 6 [.ref (A 0), .int x1, .ref (A 195)] (WW Z A s ++ []) 3 18 (WVq Z A fm_217_0 s x1) := by
  intro post hP xp
  refine w_enter (k := 6) (d := 1299) (N := 60) rfl (Nat.le_of_ble_eq_true rfl) ?_
  refine g_aload_n 1 (gd rfl) rfl rfl ?_
  refine g_iconst 0 2 (gd rfl) rfl rfl ?_
  refine g_aload_n 3 (gd rfl) rfl rfl ?_
  refine g_iload_n 4 (gd rfl) rfl rfl ?_
  refine g_callvH (As := [.int x1]) (r := [.int (Int32.ofInt 0), .ref (A 195)]) (b := A 0) (q := 0) 7 (gd rfl) rfl rfl rfl rfl rfl rfl (ww_o rfl) (Nat.le_of_ble_eq_true rfl) (Nat.le_refl _) (Nat.le_refl _) (f_217_0 (by omega) hI rfl rfl rfl rfl (kl_p q) q) (fun e u h => ?_) (fun v u h => ?_)
  · obtain ⟨he, t, hI2, hF2, rfl⟩ := h
    rcases he with ⟨rfl, hn⟩ | ⟨rfl, hn⟩
    · refine ⟨0, 12, by decide, rfl, rfl, fun a => ?_⟩
      refine g_astore_n 13 (gd rfl) rfl (Nat.le_of_ble_eq_true rfl) ?_
      refine g_iconst 1 14 (gd rfl) rfl rfl ?_
      exact g_ireturn (gd rfl) rfl rfl (hP _ _ ⟨_, t, Int32.ofInt 0, rfl, rfl, hI2, fr_195' (fr_up hF2), kl_fr q hF2 rfl, Or.inl ⟨rfl, hn⟩, fun z => absurd z (by decide), Or.inl ⟨rfl, fr_up hF2⟩⟩)
    · exact hn.elim
  · obtain ⟨t, hI2, hF2, z, rfl, rfl, iz, hK2, hv, hvd, htd⟩ := h
    show GG _ _ _ _ _ _ _ _ [.int z, .int (Int32.ofInt 0), .ref (A 195)] _ _ _
    refine g_i2l 8 (gd rfl) rfl (fun z7 e7 => ?_)
    refine g_ouS (A := A) 9 (gd rfl) rfl ?_
    refine g_goto 15 (gd rfl) rfl ?_
    refine g_iconst 0 16 (gd rfl) rfl rfl ?_
    refine g_ireturn (gd rfl) rfl rfl (hP _ _ ⟨_, sL t 195 0 z7, z, rfl, rfl, inv_195 hI2, fr_195 hF2, kl_195 hK2, Or.inr ⟨rfl, hv⟩, fun _ => ?_, Or.inr ⟨rfl, hv.1, hvd, fun h => tqd_cg (htd h) rfl rfl⟩⟩)
    show (if 195 = 195 then vp_updL (t.2.1 195) 0 z7 else t.2.1 195) 0 = z.toInt64
    rw [if_pos rfl, ← e7]
    exact if_pos rfl
end
