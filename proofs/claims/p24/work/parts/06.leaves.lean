/-! allow and ready: the two methods that throw -/
theorem am_dA0 : decode cX11_allow 0 = .ok (.iload_n 0, 1) := by decide +kernel
theorem am_dA1 : decode cX11_allow 1 = .ok (.ifCond .ne 11, 3) := by decide +kernel
theorem am_dA4 : decode cX11_allow 4 = .ok (.new 369, 3) := by decide +kernel
theorem am_dA7 : decode cX11_allow 7 = .ok (.dup, 1) := by decide +kernel
theorem am_dA8 : decode cX11_allow 8 = .ok (.invokespecial 371, 3) := by decide +kernel
theorem am_dA11 : decode cX11_allow 11 = .ok (.athrow, 1) := by decide +kernel
theorem am_dA12 : decode cX11_allow 12 = .ok (.return_, 1) := by decide +kernel
theorem am_dR0 : decode cX11_ready 0 = .ok (.iload_n 0, 1) := by decide +kernel
theorem am_dR1 : decode cX11_ready 1 = .ok (.ifCond .ne 11, 3) := by decide +kernel
theorem am_dR4 : decode cX11_ready 4 = .ok (.new 372, 3) := by decide +kernel
theorem am_dR7 : decode cX11_ready 7 = .ok (.dup, 1) := by decide +kernel
theorem am_dR8 : decode cX11_ready 8 = .ok (.invokespecial 374, 3) := by decide +kernel
theorem am_dR11 : decode cX11_ready 11 = .ok (.athrow, 1) := by decide +kernel
theorem am_dR12 : decode cX11_ready 12 = .ok (.return_, 1) := by decide +kernel
def am_up : List String := ["java/lang/RuntimeException", "java/lang/Exception"]
/-- a method 'static void f(boolean b) { if (!b) throw new E(); }' -/
def am_thr (E : String) (as : List Value) (ws : va_W) (mc ms : Nat) (post : AmR) (xp : AmX) : Prop := ∃ g : Int32, as = [.int g] ∧ (¬ g = 0 → post none ws) ∧ (g = 0 → 1 ≤ mc ∧ 6 ≤ ms ∧ xp E ws)
theorem am_throk {l : Launch} (hl0 : l.stackTraces = false) {D : va_G} {Z : AmZ} {d : Nat} {y : MethodName} {cc : ByteArray} {E : String} {ik ic : Nat} (w5 : Cond.code y cc 1 none ∈ am_T) (hyc : y.cls = RX11)
    (d0 : decode cc 0 = .ok (.iload_n 0, 1)) (d1 : decode cc 1 = .ok (.ifCond .ne 11, 3)) (d4 : decode cc 4 = .ok (.new ik, 3)) (d7 : decode cc 7 = .ok (.dup, 1)) (d8 : decode cc 8 = .ok (.invokespecial ic, 3)) (d11 : decode cc 11 = .ok (.athrow, 1)) (d12 : decode cc 12 = .ok (.return_, 1))
    (hfit : Bundle.fit E = true) (wk : Cond.classLink RX11 ik E ∈ am_T) (wi : Cond.initialized E ∈ am_T) (wat : ∀ w ∈ (vx_at0 RX11 ic E am_up).filter goodWord, w ∈ am_T) (wno : ∀ w ∈ (vx_at0 RX11 ic E am_up).filter (fun w => !goodWord w), am_nn w = true ∧ w ∈ lw_tbl) (wot : ∀ w ∈ vx_at0 RX11 ic E am_up, vx_ot w = true)
    {as : List Value} {ws : va_W} {mc ms : Nat} {post : AmR} {xp : AmX} (h : am_thr E as ws mc ms post xp) : am_Met l D Z (d + 6) y as ws mc ms post xp := by
  obtain ⟨g, rfl, h1, h2⟩ := h
  refine ⟨cc, 1, none, w5, by decide, fun sz => ?_⟩
  refine vx_ofW (cc := cc) (maxL := 1) (ret := none) (by rw [hyc]; decide +kernel) rfl ?_
  intro p e s m args below meth c s₁ B hml htab hv
  obtain ⟨rfl, hsz, hP, hK, hD0, hnest, hU, hN⟩ := hv
  have hts : ∀ w ∈ am_T, w.before ([Value.int g] : List Value).toArray s = true := fun w hw => atoms_spec (ws := Cond.code y cc 1 none :: am_T) B.pre w (List.mem_cons_of_mem _ hw)
  have hown : s.vm.findClass RX11 = some m.cls := hyc ▸ findClass_of_methodNamed B.named
  subst hsz
  have hD : va_D (va_A ws s.heap.size) ws := hD0.self
  have hl := lv_entry [Value.int g] (n := 1) (Nat.le_of_ble_eq_true rfl)
  rw [lg_entry_eq]
  generalize (lg_sl [Value.int g] ++ List.replicate (1 - (lg_sl [Value.int g]).length) Slot.unset).toArray = ls at hl ⊢
  refine lv_iload_n (x := g) B.exec B.bytes d0 rfl (hl.2.2 (0, .int g) List.mem_cons_self) ?_
  refine lv_if_ne (tgt := 12) B.exec B.bytes d1 (by decide) (fun z => ?_) (fun z => ?_)
  · exact W.widen (Nat.zero_le mc) (Nat.zero_le ms) (vx_ret (W.vret B.exec B.bytes B.returns (fun t ht hW => ⟨⟨_, ws, rfl, h1 z, by rw [ht]; exact hP, va_K.moved hW.alike hK, hD⟩, (va_S.rf (A := va_A ws s.heap.size)).F ht⟩) (fun _ hz => by cases hz) d12 B.notSynchronized))
  · obtain ⟨k1, k2, k3⟩ := h2 z
    refine vx_throw0 (A := va_A ws s.heap.size) (own := RX11) (cls := E) (names := am_up) (ik := ik) (ic := ic) B.exec B.bytes hl0 hown hfit (by decide +kernel) (hts _ wk) (hts _ wi) (vx_hat (B := (vx_at0 RX11 ic E am_up).filter (fun w => !goodWord w)) (fun w hw => hts w (wat w hw)) (fun w hw => hw) (fun w hw => hnest.word (wno w hw).1 (wno w hw).2 _)) (fun w hw => ?_) hU hN.1 va_S.rf (hl.1.trans hml.symm) d4 d7 d8 d11 (fun x hx => (htab x hx).elim) ?_ ?_ ?_ ?_ B.notSynchronized ?_ (fun _ hz => by cases hz) (by omega) (by omega)
    · rcases List.mem_cons.mp hw with rfl | hw
      · rfl
      · rcases List.mem_cons.mp hw with rfl | hw
        · rfl
        · exact wot w hw
    · show 2 + 3 < d + 6
      omega
    · show 0 + (13 * (2 + 1) + 42) ≤ 64 * (d + 6)
      omega
    · show 0 + 1 ≤ mc
      omega
    · show 0 + 6 ≤ ms
      omega
    · intro t hal hz hk
      have hPt : va_P D vwCl ws t.heap := hP.kept (fun k q hq => hk q.1 (hP k q hq).lt)
      exact ⟨ws, k3, hPt, va_K.moved hal hK, hD, hz, fun q h3 _ => hk q h3⟩
set_option maxRecDepth 100000 in
theorem am_allowok {l : Launch} (hl0 : l.stackTraces = false) {D : va_G} {Z : AmZ} {d : Nat} {as : List Value} {ws : va_W} {mc ms : Nat} {post : AmR} {xp : AmX} (h : am_thr am_IA as ws mc ms post xp) : am_Met l D Z (d + 6) yX11_allow as ws mc ms post xp :=
  am_throk (ik := 369) (ic := 371) hl0 (am_at 1323 (by decide +kernel) (by decide +kernel)) rfl am_dA0 am_dA1 am_dA4 am_dA7 am_dA8 am_dA11 am_dA12 (by decide +kernel) (am_at 1324 (by decide +kernel) (by decide +kernel)) (am_at 188 (by decide +kernel) (by decide +kernel)) (by decide +kernel) (by decide +kernel) (by decide +kernel) h
set_option maxRecDepth 100000 in
theorem am_readyok {l : Launch} (hl0 : l.stackTraces = false) {D : va_G} {Z : AmZ} {d : Nat} {as : List Value} {ws : va_W} {mc ms : Nat} {post : AmR} {xp : AmX} (h : am_thr am_IS as ws mc ms post xp) : am_Met l D Z (d + 6) yX11_ready as ws mc ms post xp :=
  am_throk (ik := 372) (ic := 374) hl0 (am_at 1389 (by decide +kernel) (by decide +kernel)) rfl am_dR0 am_dR1 am_dR4 am_dR7 am_dR8 am_dR11 am_dR12 (by decide +kernel) (am_at 1390 (by decide +kernel) (by decide +kernel)) (am_at 189 (by decide +kernel) (by decide +kernel)) (by decide +kernel) (by decide +kernel) (by decide +kernel) h
