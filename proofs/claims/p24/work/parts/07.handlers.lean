/-! methods with a table of handlers (the law's own wrappers): a throw is caught, and the body goes on -/
def am_hx (own : String) (hh : List (Nat × Nat × Nat × Nat)) : AmH := fun K pc lv C S E u =>
  ∃ (pre : List ExceptionTableEntry) (x : ExceptionTableEntry) (suf : List ExceptionTableEntry), tableOf hh = pre ++ x :: suf ∧ covers x pc = true ∧ x.catchType ≠ 0 ∧ Cond.classLink own x.catchType E ∈ am_T ∧ Cond.castable E E ∈ lw_tbl ∧
    (∀ z ∈ pre, z.catchType ≠ 0 ∧ E = am_IS ∧ Cond.classLink own z.catchType am_IA ∈ am_T) ∧ ∀ q, K x.handlerPc lv [.ref q] u C S
def am_wpW (Z : AmZ) (leaf : AmC) : Nat → AmC
  | 0 => am_no
  | d + 1 => fun y as ws mc ms post _ => ∃ cc nL rt hh n, Cond.codeWith y cc nL rt hh ∈ am_T ∧ nL ≤ 45 ∧ (lg_sl as).length ≤ nL ∧ plainFor y = true ∧ am_run Z none y.cls cc nL rt false (am_wp Z leaf d) am_no (am_hx y.cls hh) post n 0 (lv_args 0 as) [] ws mc ms
theorem am_wpWok {l : Launch} {D : va_G} {Z : AmZ} {leaf : AmC} (hleaf : ∀ d y as ws mc ms post xp, leaf y as ws mc ms post xp → am_Met l D Z (d + 6) y as ws mc ms post xp) : ∀ d y as ws mc ms post xp, am_wpW Z leaf d y as ws mc ms post xp → am_MetW l D Z d y as ws mc ms post xp := by
  intro d y as ws mc ms post xp h
  cases d with
  | zero => exact h.elim
  | succ d =>
    obtain ⟨cc, nL, rt, hh, n, w5, hnL, hlen, hpn, h⟩ := h
    refine ⟨cc, nL, rt, hh, w5, hnL, fun sz => ?_⟩
    refine am_ofWH (cc := cc) (maxL := nL) (ret := rt) (hh := hh) hpn rfl ?_
    intro p e s m args below meth c s₁ B hml hv
    obtain ⟨rfl, hsz, hP, hK, hD0, hnest, hU, hN⟩ := hv
    have hts : ∀ w ∈ am_T, w.before as.toArray s = true := fun w hw => atoms_spec (ws := Cond.codeWith y cc nL rt hh :: am_T) B.pre w (List.mem_cons_of_mem _ hw)
    have htb : c.exceptionTable.toList = tableOf hh := vx_table (x := y) B (hts _ w5)
    have hown : s.vm.findClass y.cls = some m.cls := findClass_of_methodNamed B.named
    subst hsz
    have hl := lv_entry as (n := nL) hlen
    rw [lg_entry_eq]
    generalize (lg_sl as ++ List.replicate (nL - (lg_sl as).length) Slot.unset).toArray = ls at hl ⊢
    refine am_runok (A := va_A ws s.heap.size) (mc := mc) (ms := ms) (d := d) hK B.exec B.bytes hml hown hts hnest (fun z => by cases z) (fun q hq => Or.inr hq) (fun _ _ _ z => by cases z) hU hN rfl rfl (Nat.le_refl _) (Nat.le_refl _) (am_wpok hleaf d) (fun _ _ _ _ _ _ _ z => z.elim) (am_ends hK B.exec B.bytes B.returns B.notSynchronized) ?_ n 0 (lv_args 0 as) [] ws mc ms h s.heap [] 0 0 ls hl hP hD0.self va_S.rf (by omega) (by omega)
    intro K KK pc lv ls rest q E ce u H1 locs1 cells slots C S hxp hl1 hP1 hD1 hS1 g1 g2 g3 hc hs
    obtain ⟨pre, x, suf, e1, e2, e3, e4, e5, e6, e7⟩ := hxp
    exact vx_catch hown pre x suf (htb.trans e1) (fun z hz => Or.inr ⟨(e6 z hz).1, am_IA, hts _ (e6 z hz).2.2, by rw [(e6 z hz).2.1]; exact hnest.2.2.1⟩) e2 e3 (hts _ e4) (va_Nw.use rfl (hnest.2.1 E E e5)) g1 g2 g3 (KK _ _ _ _ _ _ (e7 q) _ _ _ _ _ hl1 hP1 hD1 hS1 hc hs)
