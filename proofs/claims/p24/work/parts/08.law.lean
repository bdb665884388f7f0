/-! THE CLAIM OUT OF ONE WALK OF THE LAW'S BODY. Your part is whole_start (and what it stands on); all else here is the same for every law, but numbers. -/
def R_law : String := "GraphHouseLaw"
def lw_P (b : Addr) (xs : List Int32) (args : Array Value) (s : State) : Prop := args = #[.ref b] ∧ s.IntsAt b xs ∧ xs.length ≤ 384 ∧ (Jvm.Cond.and given_1 narrow_1).before args s = true
def lw_Q (_ : Array Value) (s : State) (o : Outcome) (t : State) : Prop := o = .returned (some (.int 1)) ∧ Framed s o t [] 600128 7301098
def lw_Z (below : List Frame) (a : Array Value) (s : State) : State → Prop := fun t => ∃ o, t.status = .running ∧ Ended t below o ∧ lw_Q a s o t
/-- the law's own end, with 1 on the stack, nothing written that was there before, its room as the claim has it -/
theorem lw_ret {p : Program} {l : Launch} {e : Env} {s : State} {m : MethodId} {below : List Frame} {meth : Method} {c : Code} {b : Nat} (hx : p.tables.exec = Jvm.exec) (hb : c.code = code) (hr : meth.sig.returnType = ret) (hlocks : meth.locks = false) {pc : Nat} {H : Heap} {ls : Array Slot} (hdg : decode code pc = .ok (.ireturn, 1)) : W p l e room_1 s m #[Value.ref b] below meth c H [] 600128 7301098 (lw_Z below #[Value.ref b] s) (F0 m pc ls [.int 1]) := by
  intro T hT X
  obtain ⟨fs, hret, hrun, hended, hW, hframe⟩ := X.leave (v := some (.int 1)) (hlocks := hlocks) (fun h => by rw [hr] at h; cases h)
  have hmeth' : T.vm.method? m = some meth := X.method'
  refine ⟨T.setFrames fs, ?_, .returned (some (.int 1)), hrun, hended, rfl, ⟨_, rfl⟩, hW, hframe⟩
  jvm_step X.here [X.here.top, hx, hb, hdg, hmeth', hr, ret, narrow_b1]
  (try refine ⟨rfl, ?_⟩); (try refine ⟨rfl, ?_⟩)
  first | (intro acts; rw [hret _ acts rfl rfl rfl]) | rw [hret _ _ rfl rfl rfl]
  exact Steps.refl _
/-- what holds at the law's entry: the machine, the code, the tables' words (any of lw_tbl by 'hts w (by decide +kernel)'), the script of L ints xs at the cell b, what the Statement gives of the start (any of its parts by flat_of_before) -/
def lw_At (p : Program) (s : State) (m : MethodId) (meth : Method) (c : Code) (b L : Nat) (xs : Nat → Int32) : Prop :=
  p.tables.exec = Jvm.exec ∧ c.code = code ∧ meth.sig.returnType = ret ∧ c.maxLocals = 8 ∧ s.vm.findClass R_law = some m.cls ∧ (∀ w ∈ lw_tbl, w.before #[Value.ref b] s = true) ∧ va_X b L xs s s.heap ∧ b < s.heap.size ∧ meth.locks = false ∧ (Jvm.Cond.and given_1 narrow_1).before #[Value.ref b] s = true
/-- the leaves: allow and ready -/
def am_leaf : AmC := fun y as ws mc ms post xp => (y = yX11_allow ∧ am_thr am_IA as ws mc ms post xp) ∨ (y = yX11_ready ∧ am_thr am_IS as ws mc ms post xp)
theorem am_leafok {l : Launch} (hl0 : l.stackTraces = false) {D : va_G} {Z : AmZ} : ∀ d y as ws mc ms post xp, am_leaf y as ws mc ms post xp → am_Met l D Z (d + 6) y as ws mc ms post xp := by
  intro d y as ws mc ms post xp h
  rcases h with ⟨rfl, h⟩ | ⟨rfl, h⟩
  · exact am_allowok hl0 h
  · exact am_readyok hl0 h
theorem am_K {b : Nat} {s : State} (adK adV : Nat → Nat) (hts : ∀ w ∈ lw_tbl, w.before #[Value.ref b] s = true) : ∃ (D : va_G) (Z : AmZ), va_K D vwCl (am_tys Z) s ∧ Z.2.2.2.2 = (adK, adV) := by
  have H : ∀ k : Nat, ∃ (cC : ClassId) (iS : Nat → Nat), ∀ q : vw_C, vwCl[k]? = some q → u_Kn s q.1 q.2.1 q.2.2 cC iS := by
    intro k
    cases hk : vwCl[k]? with
    | none => exact ⟨0, fun _ => 0, fun q h => by cases h⟩
    | some q =>
      obtain ⟨Cn, T, N⟩ := q
      obtain ⟨cC, iS, h⟩ := u_known (C := Cn) (T := T) (N := N) (n := N) (fun w hw => hts w (am_tbl hw)) (am_in hk) (hts _ (am_tbl (am_inst hk)))
      exact ⟨cC, iS, fun q hq => by cases hq; exact h⟩
  have G : ∀ ty : FieldType, Cond.arrayClass ty ∈ lw_tbl → ∃ cA : ClassId, ArrOfT s cA ty ∧ s.vm.findClass ("[" ++ ty.toString) = some cA := by
    intro ty hw
    obtain ⟨cA, kA, comp, h1, h2, h3⟩ := Cond.arrayClass_spec (hts _ hw)
    exact ⟨cA, fun n z => ⟨fun k h => (by cases h), kA, h2, comp, h3⟩, h1⟩
  obtain ⟨c1, a1, b1⟩ := G _ (am_tbl am_arr_int)
  obtain ⟨c2, a2, b2⟩ := G _ (am_tbl am_arr_long)
  obtain ⟨c3, a3, b3⟩ := G _ (am_tbl am_arr_char)
  obtain ⟨c4, a4, b4⟩ := G _ (am_tbl am_arr_boolean)
  refine ⟨(fun k => Classical.choose (H k), fun k => Classical.choose (Classical.choose_spec (H k))), (c1, c2, c3, c4, adK, adV), ⟨fun k q hq => Classical.choose_spec (Classical.choose_spec (H k)) q hq, fun k q hk => ?_⟩, rfl⟩
  match k, hk with
  | 0, hk => cases hk; exact ⟨a1, b1⟩
  | 1, hk => cases hk; exact ⟨a2, b2⟩
  | 2, hk => cases hk; exact ⟨a3, b3⟩
  | 3, hk => cases hk; exact ⟨a4, b4⟩
  | k + 4, hk => simp [am_tys] at hk
/-! the String constants as they lie at the start -/
def am_tm (i : Nat) : Term := match am_lit[i]? with
  | some (o, k, _) => .string o k
  | none => .arg 0
set_option maxRecDepth 100000 in
theorem am_s1x : ∀ i, i < 7 → Cond.exactly (am_tm i) am_js ∈ flatC narrow_1 := by decide +kernel
set_option maxRecDepth 100000 in
theorem am_s2x : ∀ i, i < 7 → Cond.eq (.field (am_tm i) am_js "coder" "B") (.int 0) ∈ flatC narrow_1 := by decide +kernel
set_option maxRecDepth 100000 in
theorem am_s3x : ∀ i, i < 7 → Cond.arrayOf (.field (am_tm i) am_js "value" "[B") .byte ∈ flatC narrow_1 := by decide +kernel
set_option maxRecDepth 100000 in
theorem am_s4x : ∀ i, i < 7 → Cond.eq (.length (.field (am_tm i) am_js "value" "[B")) (.int (Int32.ofNat (am_len.getD i 0))) ∈ flatC narrow_1 := by decide +kernel
set_option maxRecDepth 100000 in
theorem am_s5x : ∀ i, i < 7 → ∀ j, j < am_len.getD i 0 → Cond.eq (.elem (.field (am_tm i) am_js "value" "[B") (.int (Int32.ofNat j))) (.int ((am_byt.getD i []).getD j 0)) ∈ flatC narrow_1 := by decide +kernel
set_option maxRecDepth 100000 in
theorem am_s6x : ∀ i, i < 7 → ∀ j, j < 7 → i ≠ j → Cond.not (.eq (am_tm i) (am_tm j)) ∈ flatC narrow_1 ∨ Cond.not (.eq (am_tm j) (am_tm i)) ∈ flatC narrow_1 := by decide +kernel
set_option maxRecDepth 100000 in
theorem am_s7x : Cond.eq (.static am_js "COMPACT_STRINGS" "Z") (.int 1) ∈ flatC narrow_1 := by decide +kernel
set_option maxRecDepth 100000 in
theorem am_s8x : Cond.isRef (.static "jdk/internal/util/Preconditions" "SIOOBE_FORMATTER" "Ljava/util/function/BiFunction;") ∈ flatC narrow_1 := by decide +kernel
theorem am_s9x : ∀ i, i < 7 → am_len.getD i 0 < 2 ^ 31 := by decide
theorem am_s10x {k : Nat} {own : String} {i : Nat} {tx : String} (h : am_lit[k]? = some (own, i, tx)) : Cond.stringRef own i tx ∈ lw_tbl ∧ k < 7 ∧ am_tm k = .string own i := by
  match k, h with
  | 0, h => cases h; exact ⟨List.mem_of_getElem? (i := 859) (by decide +kernel), by decide, rfl⟩
  | 1, h => cases h; exact ⟨List.mem_of_getElem? (i := 953) (by decide +kernel), by decide, rfl⟩
  | 2, h => cases h; exact ⟨List.mem_of_getElem? (i := 954) (by decide +kernel), by decide, rfl⟩
  | 3, h => cases h; exact ⟨List.mem_of_getElem? (i := 955) (by decide +kernel), by decide, rfl⟩
  | 4, h => cases h; exact ⟨List.mem_of_getElem? (i := 956) (by decide +kernel), by decide, rfl⟩
  | 5, h => cases h; exact ⟨List.mem_of_getElem? (i := 957) (by decide +kernel), by decide, rfl⟩
  | 6, h => cases h; exact ⟨List.mem_of_getElem? (i := 1298) (by decide +kernel), by decide, rfl⟩
  | k + 7, h => simp [am_lit] at h
set_option maxRecDepth 100000 in
theorem am_notISIA : Cond.not (.castable am_IS am_IA) ∈ flatC (Jvm.Cond.and given_1 narrow_1) := by decide +kernel
set_option maxRecDepth 100000 in
theorem am_isU : Cond.isRef (.static Bundle.tN "UNASSIGNED_STACK" Bundle.steD) ∈ flatC (Jvm.Cond.and given_1 narrow_1) := by decide +kernel
set_option maxRecDepth 100000 in
theorem am_isN : Cond.isRef (.static Bundle.tN "SUPPRESSED_SENTINEL" Bundle.listD) ∈ flatC (Jvm.Cond.and given_1 narrow_1) := by decide +kernel
set_option maxRecDepth 100000 in
/-- THE LAW: what the layer says of its body, the machine does -/
theorem am_law {p : Program} {e : Env} {s : State} {m : MethodId} {below : List Frame} {meth : Method} {c : Code} {l : Launch} (hl0 : l.stackTraces = false) {b L : Nat} {xs : Nat → Int32} (C0 : lw_At p s m meth c b L xs)
    (hlaw : ∀ Z : AmZ, ∃ n, am_run Z (some (b, L, xs)) RL code 8 ret false (am_wp Z am_leaf 1300) (am_wpW Z am_leaf 1300) (fun _ _ _ _ _ _ _ => False) (fun v _ => v = some (.int 1)) n 0 [(0, .ref b)] [] [] 600128 7301098) :
    W p l e room_1 s m #[Value.ref b] below meth c s.heap [] 0 0 (lw_Z below #[Value.ref b] s) (entryFrame m ([Value.ref b] : List Value).toArray 8) := by
  obtain ⟨hx, hb, hr, hml, hown, hts, hX, hbl, hlocks, hgv⟩ := id C0
  have hfl := flat_of_before _ hgv
  have hnw : narrow_1.before #[Value.ref b] s = true := by
    have h9 := hgv
    simp only [Cond.before_and, Bool.and_eq_true] at h9
    exact h9.2
  have hfn := flat_of_before _ hnw
  have hA0 : ∀ a : Nat, a < s.heap.size → ¬ (fun q : Nat => s.heap.size ≤ q) a := fun a h1 h2 => Nat.not_le.mpr h1 h2
  obtain ⟨adK, adV, hvS, hev⟩ := vk_Sof (args := #[Value.ref b]) (s := s) (N := 7) (tm := am_tm) (len := am_len) (byt := am_byt) (A := fun q : Nat => s.heap.size ≤ q) am_s9x (fun i hi => hfn _ (am_s1x i hi)) (fun i hi => hfn _ (am_s2x i hi)) (fun i hi => hfn _ (am_s3x i hi)) (fun i hi => hfn _ (am_s4x i hi)) (fun i hi j hj => hfn _ (am_s5x i hi j hj)) (fun i j hi hj hij => (am_s6x i hi j hj hij).imp (fun z => hfn _ z) (fun z => hfn _ z)) hA0
  obtain ⟨D, Z, hK, hZs⟩ := am_K adK adV hts
  obtain ⟨n, hn⟩ := hlaw Z
  have hnest : am_nest s := ⟨fun own i y host hw => va_Nw.of rfl (hts _ hw), fun C T hw => va_Nw.of rfl (hts _ hw), va_Nc.of (hfl _ am_notISIA), fun x hw => va_Nw.of rfl (hts _ hw)⟩
  have hini : (Cond.initialized Bundle.tN).before #[Value.ref b] s = true := hts _ (List.mem_of_getElem? (i := 185) (by decide +kernel))
  have hU := vx_Zqof (A := fun q : Nat => s.heap.size ≤ q) (hts (.laysStatic Bundle.tN "UNASSIGNED_STACK" Bundle.steD) (List.mem_of_getElem? (i := 1351) (by decide +kernel))) hini (hfl _ am_isU) hA0
  have hN0 := vx_Zqof (A := fun q : Nat => s.heap.size ≤ q) (hts (.laysStatic Bundle.tN "SUPPRESSED_SENTINEL" Bundle.listD) (List.mem_of_getElem? (i := 1353) (by decide +kernel))) hini (hfl _ am_isN) hA0
  have hzk : ∀ k, zs Z k = adK k := fun k => by show Z.2.2.2.2.1 k = adK k; rw [hZs]
  have hN : am_N Z (fun q : Nat => s.heap.size ≤ q) s s.heap := by
    refine ⟨hN0, by rw [hZs]; exact hvS, fun k own i tx e => ?_, va_Zof (hts (.laysStatic am_js "COMPACT_STRINGS" "Z") (List.mem_of_getElem? (i := 873) (by decide +kernel))) (hts (.initialized am_js) (List.mem_of_getElem? (i := 192) (by decide +kernel))) (va_eqt (hfn _ am_s7x)) hA0, va_Zqof (hts (.laysStatic "jdk/internal/util/Preconditions" "SIOOBE_FORMATTER" "Ljava/util/function/BiFunction;") (List.mem_of_getElem? (i := 916) (by decide +kernel))) (hts (.initialized "jdk/internal/util/Preconditions") (List.mem_of_getElem? (i := 195) (by decide +kernel))) (hfn _ am_s8x) hA0⟩
    obtain ⟨g1, g2, g3⟩ := am_s10x e
    have h9 := hev k g2
    rw [g3] at h9
    rw [hzk]
    exact vk_R.of (hts _ g1) h9
  have hP : va_P D vwCl [] s.heap := fun k q h => by simp at h
  have hD : va_D (fun q : Nat => s.heap.size ≤ q) [] := ⟨fun i j p q h => by simp at h, fun k q h => by simp at h⟩
  have hl := lv_entry ([.ref b]) (n := 8) (Nat.le_of_ble_eq_true rfl)
  rw [lg_entry_eq]
  generalize (lg_sl ([.ref b]) ++ List.replicate (8 - (lg_sl ([.ref b])).length) Slot.unset).toArray = ls at hl ⊢
  refine am_runok (A := fun q : Nat => s.heap.size ≤ q) (mc := 600128) (ms := 7301098) (d := 1300) hK hx hb hml hown (fun w hw => hts w (am_tbl hw)) hnest (fun z => by cases z) (fun q hq => hq) (fun b1 L1 xs1 z => ?_) hU hN rfl rfl (by decide +kernel) (by decide +kernel) (am_wpok (am_leafok hl0) 1300) (am_wpWok (am_leafok hl0) 1300) ?_ (fun K _ pc lv ls rest q E ce u H1 locs1 cells slots C S h => h.elim) n 0 [(0, .ref b)] [] [] 600128 7301098 hn s.heap [] 0 0 ls hl hP hD va_S.rf (by omega) (by omega)
  · cases z
    exact ⟨hX, hbl, Nat.not_le.mpr hbl⟩
  · intro pc ls st ws H locs cells slots h hP hD hS hc hs
    unfold am_end at h
    split at h
    · rename_i hd
      obtain ⟨v, ty, rfl, -, -, h⟩ := h
      cases h
      exact va_forget (fun q hq => hS.2.2 q hq) (W.widen hc hs (lw_ret hx hb hr hlocks hd))
    · obtain ⟨v, rfl, h1, h2⟩ := h
      cases h2
    · obtain ⟨v, ty, rfl, h1, h2, h3⟩ := h
      cases h3
    · obtain ⟨h1, h2, h3⟩ := h
      cases h3
    · exact h.elim
