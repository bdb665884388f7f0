section
-- ===== PART A: goes FIRST, ahead of the names: the tables' words, and 'selects' of the private methods out of them =====
/-- a private method of a class that the tables say can be made, by its rows of tables_1 -/
def lw_okq (q : MethodName × Nat) : Prop := (q.1.cls ≠ "java/lang/invoke/MethodHandle" ∧ q.1.cls ≠ "java/lang/invoke/VarHandle") ∧ Cond.instantiable q.1.cls q.2 ∈ tables_1 ∧ Cond.privateMethod q.1 ∈ tables_1 ∧ Cond.instanceMethod q.1 ∈ tables_1
def lw_privs_1 : List (MethodName × Nat) := [(⟨"GraphHouse$Script", "isDigit", "(I)Z"⟩, 10), (⟨"GraphHouse$Script", "readNumber", "(ZI)V"⟩, 10), (⟨"GraphHouse$Ledger", "readCommand", "(LGraphHouse$Script;)Z"⟩, 4), (⟨"GraphHouse$Ledger", "doCommand", "(I)Z"⟩, 4), (⟨"GraphHouse$Ledger", "note", "(IIII)V"⟩, 4), (⟨"GraphHouse$Ledger", "openRow", "()I"⟩, 4), (⟨"GraphHouse$Ledger", "apply", "(LGraphHouse$Graph;)V"⟩, 4), (⟨"GraphHouse$Ledger", "applyArc", "(LGraphHouse$Graph;II)V"⟩, 4), (⟨"GraphHouse$Ledger", "applyValue", "(LGraphHouse$Graph;III)V"⟩, 4), (⟨"GraphHouse", "graph", "()LGraphHouse$Graph;"⟩, 12), (⟨"GraphHouse$Script", "put", "(C)V"⟩, 10), (⟨"GraphHouse$Script", "endCommand", "(I)V"⟩, 10), (⟨"GraphHouse$Script", "putNumber", "(I)V"⟩, 10), (⟨"GraphHouse$Trees", "countTrees", "(LGraphHouse$Graph;)I"⟩, 12), (⟨"GraphHouse$Trees", "pivot", "(II)J"⟩, 12), (⟨"GraphHouse$Trees", "swapRows", "(II)V"⟩, 12)]
def lw_privs_2 : List (MethodName × Nat) := [(⟨"GraphHouse$Groups", "settle", "(LGraphHouse$Graph;)V"⟩, 11), (⟨"GraphHouse$Groups", "begin", "(LGraphHouse$Graph;)V"⟩, 11), (⟨"GraphHouse$Graph", "tieEnds", "(II)V"⟩, 18), (⟨"GraphHouse$Groups", "settleNode", "(LGraphHouse$Graph;I)Z"⟩, 11), (⟨"GraphHouse$Groups", "countLinks", "(LGraphHouse$Graph;I)V"⟩, 11), (⟨"GraphHouse$Groups", "score", "(II)J"⟩, 11), (⟨"GraphHouse$Groups", "isBetter", "(III)Z"⟩, 11), (⟨"GraphHouse$Groups", "freeGroup", "()I"⟩, 11), (⟨"GraphHouse$Groups", "moveTo", "(II)Z"⟩, 11), (⟨"GraphHouse$Question", "build", "(LGraphHouse$Script;)V"⟩, 9), (⟨"GraphHouse$Question", "closeBars", "(JJ)V"⟩, 9), (⟨"GraphHouse$Question", "layPlace", "(CII)V"⟩, 9), (⟨"GraphHouse$Question", "layRepeat", "(CII)V"⟩, 9), (⟨"GraphHouse$Question", "close", "(I)V"⟩, 9), (⟨"GraphHouse$Engine", "readExpression", "(LGraphHouse$Script;I)Z"⟩, 13), (⟨"GraphHouse$Engine", "readSum", "(LGraphHouse$Script;I)Z"⟩, 13)]
def lw_privs_3 : List (MethodName × Nat) := [(⟨"GraphHouse$Engine", "readProduct", "(LGraphHouse$Script;I)Z"⟩, 13), (⟨"GraphHouse$Engine", "readFactor", "(LGraphHouse$Script;I)Z"⟩, 13), (⟨"GraphHouse$Engine", "readAtom", "(LGraphHouse$Script;)Z"⟩, 13), (⟨"GraphHouse$Engine", "emit", "(I)Z"⟩, 13), (⟨"java/lang/Throwable", "fillInStackTrace", "(I)Ljava/lang/Throwable;"⟩, 6), (⟨"GraphHouse$Ways", "measure", "(LGraphHouse$Graph;I)V"⟩, 13), (⟨"GraphHouse$Ways", "relax", "(LGraphHouse$Graph;I)I"⟩, 13), (⟨"GraphHouse$Ways", "stepFrom", "(LGraphHouse$Graph;I)I"⟩, 13), (⟨"GraphHouse$Ways", "widestOf", "(I)I"⟩, 13), (⟨"GraphHouse$Ways", "collect", "(LGraphHouse$Graph;II)V"⟩, 13), (⟨"GraphHouse$Ways", "gather", "(LGraphHouse$Graph;IIIJ)V"⟩, 13), (⟨"GraphHouse$Ways", "leads", "(LGraphHouse$Graph;III)Z"⟩, 13), (⟨"GraphHouse$Ways", "sortKeys", "()V"⟩, 13), (⟨"GraphHouse$Parts", "makeOrder", "(LGraphHouse$Graph;)V"⟩, 6), (⟨"GraphHouse$Parts", "peel", "(LGraphHouse$Graph;)V"⟩, 6), (⟨"GraphHouse$Parts", "loosest", "(I)I"⟩, 6)]
def lw_privs_4 : List (MethodName × Nat) := [(⟨"GraphHouse$Parts", "loosen", "(LGraphHouse$Graph;I)V"⟩, 6), (⟨"GraphHouse$Colours", "growClique", "([IIII)V"⟩, 9), (⟨"GraphHouse$Colours", "makeColours", "(LGraphHouse$Graph;)V"⟩, 9), (⟨"GraphHouse$Colours", "fill", "([III)Z"⟩, 9), (⟨"GraphHouse$Colours", "setAside", "([II)I"⟩, 9), (⟨"GraphHouse$Colours", "freeColours", "(I)I"⟩, 9), (⟨"GraphHouse$Colours", "fillPiece", "([III)Z"⟩, 9), (⟨"GraphHouse$Colours", "tightest", "([II)I"⟩, 9), (⟨"GraphHouse$Colours", "takeBack", "([II)V"⟩, 9), (⟨"GraphHouse$Colours", "lessen", "(LGraphHouse$Graph;II)I"⟩, 9), (⟨"GraphHouse$Colours", "classOf", "(I)I"⟩, 9), (⟨"GraphHouse$Colours", "canLower", "(LGraphHouse$Graph;III)Z"⟩, 9), (⟨"GraphHouse$Flows", "openAll", "(LGraphHouse$Graph;)V"⟩, 19), (⟨"GraphHouse$Flows", "reach", "(II)Z"⟩, 19), (⟨"GraphHouse$Flows", "push", "(II)I"⟩, 19), (⟨"GraphHouse$Flows", "layArcs", "(LGraphHouse$Graph;)J"⟩, 19)]
def lw_privs_5 : List (MethodName × Nat) := [(⟨"GraphHouse$Flows", "lay", "(IIII)V"⟩, 19), (⟨"GraphHouse$Flows", "turnEarners", "(III)V"⟩, 19), (⟨"GraphHouse$Flows", "relaxAll", "(II)V"⟩, 19), (⟨"GraphHouse$Flows", "relaxPipe", "(II)Z"⟩, 19), (⟨"GraphHouse$Flows", "turn", "(II)V"⟩, 19), (⟨"GraphHouse$Flows", "carryAll", "(II)V"⟩, 19), (⟨"GraphHouse$Flows", "nearestLack", "(II)I"⟩, 19), (⟨"GraphHouse$Flows", "carryTo", "(I)J"⟩, 19), (⟨"GraphHouse$Trees", "copyArcs", "(LGraphHouse$Graph;)V"⟩, 12), (⟨"GraphHouse$Trees", "takeCheapest", "(II)Z"⟩, 12), (⟨"GraphHouse$Trees", "nameRings", "(II)I"⟩, 12), (⟨"GraphHouse$Trees", "nameOthers", "(II)I"⟩, 12), (⟨"GraphHouse$Trees", "shrinkRings", "()V"⟩, 12), (⟨"GraphHouse$Groups", "shareOut", "(LGraphHouse$Graph;)V"⟩, 11), (⟨"GraphHouse$Ways", "spread", "(LGraphHouse$Graph;I)V"⟩, 13), (⟨"GraphHouse$Question", "step", "(LGraphHouse$Graph;)Z"⟩, 9)]
def lw_privs_6 : List (MethodName × Nat) := [(⟨"GraphHouse$Question", "behind", "(J)J"⟩, 9), (⟨"GraphHouse$Engine", "doRound", "(LGraphHouse$Graph;I)Z"⟩, 13), (⟨"GraphHouse$Engine", "look", "(LGraphHouse$Graph;II)V"⟩, 13), (⟨"GraphHouse$Engine", "compute", "(II)J"⟩, 13), (⟨"GraphHouse$Engine", "sendAll", "(IIJ)I"⟩, 13), (⟨"GraphHouseModel", "program0", "()V"⟩, 122), (⟨"GraphHouseModel", "fails", "(ZZ)Z"⟩, 122), (⟨"GraphHouseModel", "make", "(IIIIIII)V"⟩, 122), (⟨"GraphHouseModel", "apply", "(II)V"⟩, 122), (⟨"GraphHouseModel", "look", "()V"⟩, 122), (⟨"GraphHouseModel", "isNewNode", "(I)Z"⟩, 122), (⟨"GraphHouseModel", "freePlace", "(I)I"⟩, 122), (⟨"GraphHouseModel", "isNewArc", "(I)Z"⟩, 122), (⟨"GraphHouseModel", "wrongArgument", "(Z)Z"⟩, 122), (⟨"GraphHouseModel", "isJoint", "(I)Z"⟩, 122), (⟨"GraphHouseModel", "isNode", "(I)Z"⟩, 122)]
def lw_privs_7 : List (MethodName × Nat) := [(⟨"GraphHouseModel", "copyGraph", "()V"⟩, 122), (⟨"GraphHouseModel", "nextToken", "()V"⟩, 122), (⟨"GraphHouseModel", "readNumber", "(I)V"⟩, 122), (⟨"GraphHouseModel", "blame", "(II)V"⟩, 122), (⟨"GraphHouseModel", "command", "()V"⟩, 122), (⟨"GraphHouseModel", "shape", "(II)I"⟩, 122), (⟨"GraphHouseModel", "isDone", "(II)Z"⟩, 122), (⟨"GraphHouseModel", "put", "(I)V"⟩, 122), (⟨"GraphHouseModel", "putNumber", "(I)V"⟩, 122), (⟨"GraphHouseModel", "between", "(II)I"⟩, 122), (⟨"GraphHouseModel", "close", "(ZII)V"⟩, 122), (⟨"GraphHouseModel", "toGoal", "(II)Z"⟩, 122), (⟨"GraphHouseModel", "fewest", "(II)V"⟩, 122), (⟨"GraphHouseModel", "findShorts", "(II)V"⟩, 122), (⟨"GraphHouseModel", "goesOn", "(III)Z"⟩, 122), (⟨"GraphHouseModel", "addShort", "(IIIII)V"⟩, 122)]
def lw_privs_8 : List (MethodName × Nat) := [(⟨"GraphHouseModel", "second", "(IIII)V"⟩, 122), (⟨"GraphHouseModel", "third", "(IIIII)V"⟩, 122), (⟨"GraphHouseModel", "sortShorts", "()V"⟩, 122), (⟨"GraphHouseModel", "isBefore", "(II)Z"⟩, 122), (⟨"GraphHouseModel", "isArc", "(I)Z"⟩, 122), (⟨"GraphHouseModel", "weakParts", "(II)I"⟩, 122), (⟨"GraphHouseModel", "jointsWith", "(II)I"⟩, 122), (⟨"GraphHouseModel", "findClique", "()I"⟩, 122), (⟨"GraphHouseModel", "findBeside", "()V"⟩, 122), (⟨"GraphHouseModel", "isColourable", "(I)Z"⟩, 122), (⟨"GraphHouseModel", "tough", "(I)I"⟩, 122), (⟨"GraphHouseModel", "barsOf", "(I)I"⟩, 122), (⟨"GraphHouseModel", "hanging", "(II)I"⟩, 122), (⟨"GraphHouseModel", "isPartColourable", "(II)Z"⟩, 122), (⟨"GraphHouseModel", "tightest", "(I)I"⟩, 122), (⟨"GraphHouseModel", "begin", "(IIII)V"⟩, 122)]
def lw_privs_9 : List (MethodName × Nat) := [(⟨"GraphHouseModel", "twoNodes", "(II)Z"⟩, 122), (⟨"GraphHouseModel", "most", "(II)J"⟩, 122), (⟨"GraphHouseModel", "search", "(I)V"⟩, 122), (⟨"GraphHouseModel", "roomOn", "(I)J"⟩, 122), (⟨"GraphHouseModel", "before", "(I)I"⟩, 122), (⟨"GraphHouseModel", "push", "(IJ)V"⟩, 122), (⟨"GraphHouseModel", "sends", "(I)Z"⟩, 122), (⟨"GraphHouseModel", "cheapest", "(I)V"⟩, 122), (⟨"GraphHouseModel", "pairUp", "()V"⟩, 122), (⟨"GraphHouseModel", "isFirstSort", "(I)Z"⟩, 122), (⟨"GraphHouseModel", "cheapestPair", "()I"⟩, 122), (⟨"GraphHouseModel", "rings", "(II)I"⟩, 122), (⟨"GraphHouseModel", "orderOf", "(II)J"⟩, 122), (⟨"GraphHouseModel", "hop", "(IZ[I[J)V"⟩, 122), (⟨"GraphHouseModel", "findGroups", "()V"⟩, 122), (⟨"GraphHouseModel", "bestGroup", "(I)I"⟩, 122)]
def lw_privs_10 : List (MethodName × Nat) := [(⟨"GraphHouseModel", "gainIn", "(II)J"⟩, 122), (⟨"GraphHouseModel", "gainOf", "(II)J"⟩, 122), (⟨"GraphHouseModel", "leastOf", "(II)I"⟩, 122), (⟨"GraphHouseModel", "freeGroup", "()I"⟩, 122), (⟨"GraphHouseModel", "beginAlternative", "()V"⟩, 122), (⟨"GraphHouseModel", "beginSequence", "()V"⟩, 122), (⟨"GraphHouseModel", "flush", "()V"⟩, 122), (⟨"GraphHouseModel", "follow", "(JJ)V"⟩, 122), (⟨"GraphHouseModel", "setAtom", "(ZJJ)V"⟩, 122), (⟨"GraphHouseModel", "sign", "(II)V"⟩, 122), (⟨"GraphHouseModel", "endSequence", "()V"⟩, 122), (⟨"GraphHouseModel", "goOn", "(IJII)I"⟩, 122), (⟨"GraphHouseModel", "expression", "(Z)V"⟩, 122), (⟨"GraphHouseModel", "nextOfProgram", "()V"⟩, 122), (⟨"GraphHouseModel", "factor", "()Z"⟩, 122), (⟨"GraphHouseModel", "add", "(II)V"⟩, 122)]
def lw_privs_11 : List (MethodName × Nat) := [(⟨"GraphHouseModel", "turn", "()V"⟩, 122), (⟨"GraphHouseModel", "top", "()I"⟩, 122), (⟨"GraphHouseModel", "drop", "()V"⟩, 122), (⟨"GraphHouseModel", "hold", "(I)V"⟩, 122), (⟨"GraphHouseModel", "behindFactor", "(Z)I"⟩, 122), (⟨"GraphHouseModel", "settle", "(I)V"⟩, 122), (⟨"GraphHouseModel", "nameAll", "(II)V"⟩, 122), (⟨"GraphHouseModel", "workOut", "(I)J"⟩, 122), (⟨"GraphHouseModel", "send", "(IIJ)V"⟩, 122), (⟨"GraphHouseModel", "goesTo", "(III)Z"⟩, 122)]
def lw_privs : List (MethodName × Nat) := lw_privs_1 ++ (lw_privs_2 ++ (lw_privs_3 ++ (lw_privs_4 ++ (lw_privs_5 ++ (lw_privs_6 ++ (lw_privs_7 ++ (lw_privs_8 ++ (lw_privs_9 ++ (lw_privs_10 ++ (lw_privs_11))))))))))
def lw_tbl : List Cond := k2_sels lw_privs ++ tables_1
/-- the private methods' words lie one behind the other in the tables, each at its distance from the one before -/
def tb_w : List (MethodName × Nat) → List Nat → List Cond → Bool
  | [], _, _ => true
  | _ :: _, [], _ => false
  | q :: r, g :: gs, l => match l.drop g with
    | x :: y :: t => (decide (x = Cond.privateMethod q.1) && decide (y = Cond.instanceMethod q.1)) && tb_w r gs (y :: t)
    | _ => false
theorem tb_ok : ∀ (qs : List (MethodName × Nat)) (gs : List Nat) (l : List Cond), tb_w qs gs l = true → ∀ q ∈ qs, Cond.privateMethod q.1 ∈ l ∧ Cond.instanceMethod q.1 ∈ l
  | [], _, _, _, q, hq => by cases hq
  | _ :: _, [], _, h, _, _ => by cases h
  | p :: r, g :: gs, l, h, q, hq => by
    unfold tb_w at h
    cases hd : l.drop g with
    | nil => simp only [hd] at h; cases h
    | cons x t =>
      cases t with
      | nil => simp only [hd] at h; cases h
      | cons y t =>
        simp only [hd, Bool.and_eq_true] at h
        have hin : ∀ z ∈ x :: y :: t, z ∈ l := fun z hz => List.mem_of_mem_drop (i := g) (by rw [hd]; exact hz)
        rcases List.mem_cons.mp hq with rfl | hq
        · rw [← of_decide_eq_true h.1.1, ← of_decide_eq_true h.1.2]
          exact ⟨hin x List.mem_cons_self, hin y (List.mem_cons_of_mem _ List.mem_cons_self)⟩
        · have k := tb_ok r gs (y :: t) h.2 q hq
          exact ⟨hin _ (List.mem_cons_of_mem _ k.1), hin _ (List.mem_cons_of_mem _ k.2)⟩
def tb_gs : List Nat := [679, 3, 93, 48, 11, 3, 17, 3, 7, 48, 7, 3, 3, 14, 14, 3, 15, 3, 7, 13, 3, 3, 13, 3, 3, 24, 4, 12, 3, 3, 14, 3, 3, 3, 3, 6, 57, 179, 6, 29, 20, 21, 3, 4, 3, 68, 18, 4, 4, 16, 16, 6, 3, 3, 4, 3, 7, 3, 3, 3, 15, 6, 4, 26, 3, 5, 4, 3, 4, 3, 3, 3, 28, 3, 5, 4, 3, 31, 17, 49, 3, 18, 3, 16, 21, 30, 383, 3, 3, 3, 7, 8, 7, 16, 12, 14, 25, 3, 6, 5, 6, 3, 3, 7, 3, 11, 3, 6, 3, 17, 3, 3, 3, 3, 7, 3, 11, 3, 18, 7, 3, 10, 3, 3, 3, 3, 3, 3, 10, 3, 3, 4, 3, 3, 12, 3, 7, 3, 3, 7, 7, 27, 7, 3, 3, 3, 3, 3, 15, 3, 3, 3, 3, 3, 3, 7, 7, 3, 3, 3, 3, 3, 3, 6, 3, 3, 12, 7, 6, 3]
set_option maxRecDepth 100000 in
theorem tb_p : tb_w lw_privs tb_gs tables_1 = true := by decide +kernel
def tb_I : List (String × Nat) := [("GraphHouse", 12), ("GraphHouse$Ledger", 4), ("GraphHouse$Graph", 18), ("GraphHouse$Script", 10), ("GraphHouse$Ways", 13), ("GraphHouse$Parts", 6), ("GraphHouse$Colours", 9), ("GraphHouse$Flows", 19), ("GraphHouse$Trees", 12), ("GraphHouse$Groups", 11), ("GraphHouse$Question", 9), ("GraphHouse$Engine", 13), ("java/lang/Throwable", 6), ("GraphHouseModel", 122)]
theorem tb_i0 : Cond.instantiable "GraphHouse" 12 ∈ tables_1 := List.mem_of_getElem? (i := 30) (by decide +kernel)
theorem tb_i1 : Cond.instantiable "GraphHouse$Ledger" 4 ∈ tables_1 := List.mem_of_getElem? (i := 38) (by decide +kernel)
theorem tb_i2 : Cond.instantiable "GraphHouse$Graph" 18 ∈ tables_1 := List.mem_of_getElem? (i := 44) (by decide +kernel)
theorem tb_i3 : Cond.instantiable "GraphHouse$Script" 10 ∈ tables_1 := List.mem_of_getElem? (i := 217) (by decide +kernel)
theorem tb_i4 : Cond.instantiable "GraphHouse$Ways" 13 ∈ tables_1 := List.mem_of_getElem? (i := 270) (by decide +kernel)
theorem tb_i5 : Cond.instantiable "GraphHouse$Parts" 6 ∈ tables_1 := List.mem_of_getElem? (i := 317) (by decide +kernel)
theorem tb_i6 : Cond.instantiable "GraphHouse$Colours" 9 ∈ tables_1 := List.mem_of_getElem? (i := 342) (by decide +kernel)
theorem tb_i7 : Cond.instantiable "GraphHouse$Flows" 19 ∈ tables_1 := List.mem_of_getElem? (i := 376) (by decide +kernel)
theorem tb_i8 : Cond.instantiable "GraphHouse$Trees" 12 ∈ tables_1 := List.mem_of_getElem? (i := 443) (by decide +kernel)
theorem tb_i9 : Cond.instantiable "GraphHouse$Groups" 11 ∈ tables_1 := List.mem_of_getElem? (i := 486) (by decide +kernel)
theorem tb_i10 : Cond.instantiable "GraphHouse$Question" 9 ∈ tables_1 := List.mem_of_getElem? (i := 526) (by decide +kernel)
theorem tb_i11 : Cond.instantiable "GraphHouse$Engine" 13 ∈ tables_1 := List.mem_of_getElem? (i := 560) (by decide +kernel)
theorem tb_i12 : Cond.instantiable "java/lang/Throwable" 6 ∈ tables_1 := List.mem_of_getElem? (i := 1192) (by decide +kernel)
theorem tb_i13 : Cond.instantiable "GraphHouseModel" 122 ∈ tables_1 := List.mem_of_getElem? (i := 1969) (by decide +kernel)
theorem tb_Iok : ∀ e ∈ tb_I, Cond.instantiable e.1 e.2 ∈ tables_1 := List.forall_mem_cons.mpr ⟨tb_i0, List.forall_mem_cons.mpr ⟨tb_i1, List.forall_mem_cons.mpr ⟨tb_i2, List.forall_mem_cons.mpr ⟨tb_i3, List.forall_mem_cons.mpr ⟨tb_i4, List.forall_mem_cons.mpr ⟨tb_i5, List.forall_mem_cons.mpr ⟨tb_i6, List.forall_mem_cons.mpr ⟨tb_i7, List.forall_mem_cons.mpr ⟨tb_i8, List.forall_mem_cons.mpr ⟨tb_i9, List.forall_mem_cons.mpr ⟨tb_i10, List.forall_mem_cons.mpr ⟨tb_i11, List.forall_mem_cons.mpr ⟨tb_i12, List.forall_mem_cons.mpr ⟨tb_i13, List.forall_mem_nil _⟩⟩⟩⟩⟩⟩⟩⟩⟩⟩⟩⟩⟩⟩
def tb_c (q : MethodName × Nat) : Bool := !(decide (q.1.cls = "java/lang/invoke/MethodHandle")) && !(decide (q.1.cls = "java/lang/invoke/VarHandle")) && tb_I.any (fun e => decide (e = (q.1.cls, q.2)))
set_option maxRecDepth 100000 in
theorem tb_a : lw_privs.all tb_c = true := by decide +kernel
theorem lw_privs_ok : ∀ q ∈ lw_privs, lw_okq q := by
  intro q hq
  have h := List.all_eq_true.mp tb_a q hq
  unfold tb_c at h
  simp only [Bool.and_eq_true, Bool.not_eq_true', decide_eq_false_iff_not] at h
  obtain ⟨e, he, h3⟩ := List.any_eq_true.mp h.2
  have h4 := of_decide_eq_true h3
  subst h4
  have k := tb_ok _ _ _ tb_p q hq
  exact ⟨⟨h.1.1, h.1.2⟩, tb_Iok _ he, k.1, k.2⟩
end
section
/-! ===== BEGIN words of one list among another's, by their places ===== -/
/-! ===== END ===== -/

/-! ===== BEGIN exceptions that leave a method, and their catching by the caller (launches without stack traces) ===== -/
section VXA
/-! The laws vx_back, vx_callV, vx_callS, vx_callSW, vx_throw0, vx_throwS follow proofs of the library, with one case more: JvmDerived/Free/Laws.lean (Back.of_free), Shelf42/LK1.lean (callV, callS), Shelf/KitTraced.lean (throwNew0V, throwNewS). -/

/-- where a method has thrown q: the class by its name, the cell, what was written, the world -/
def vx_T (XC : String → State → State → Prop) (st : State) (q : Addr) (t : State) (mc ms : Nat) (free : Addr → Prop) : Prop :=
  ∃ (E : String) (ce : Cell) (L : List Loc), XC E st t ∧ t.heap[q]? = some ce ∧ ce.vm = .none ∧ st.vm.findClass E = some ce.cls ∧ st.WarmedH t.vm ∧ st.sameButNew ({ t with vm := st.vm } : State) L mc ms ∧ ∀ z ∈ L, free z.base
def vx_Q (Qc : Array Value → State → Outcome → State → Prop) (XC : String → State → State → Prop) (mc ms : Nat) (free : Addr → Prop) : Array Value → State → Outcome → State → Prop := fun a st o t =>
  (Qc a st o t ∧ ∃ L, FrameEnd st o t L mc ms ∧ ∀ q ∈ L, free q.base) ∨ ∃ q, o = .threw q ∧ vx_T XC st q t mc ms free
/-- a callee that returns or throws -/
def vx_Met (l : Launch) (y : MethodName) (ws : List Cond) (rm : Room) (Pc : Array Value → State → Prop) (Qc : Array Value → State → Outcome → State → Prop) (XC : String → State → State → Prop) (mc ms : Nat) (free : Addr → Prop) : Prop :=
  MetFree l y (headSpec ws rm) Pc (fun _ _ _ _ _ => True) (vx_Q Qc XC mc ms free)
def vx_Post (XC : String → State → State → Prop) (mc ms : Nat) (free : Addr → Prop) : Pt → Array Value → Addr → Pt → Prop := fun A a q B =>
  ∃ (g : JFrame) (mk : MethodId) (t : State) (L : List Loc) (E : String) (ce : Cell), B.U.heap = t.heap ∧ B.U.vm = t.vm ∧ XC E (A.U.calling g mk a) t ∧ t.heap[q]? = some ce ∧ ce.vm = .none ∧ A.U.vm.findClass E = some ce.cls ∧ B.locs = A.locs ++ L ∧ (∀ z ∈ L, free z.base) ∧ B.cells = A.cells + mc ∧ B.slots = A.slots + ms
def vx_Back (l : Launch) (R : Room) (p : Program) (e : Env) (below : List Frame) (s : State) (sargs : Array Value) (y : MethodName) (len W9 : Nat)
    (Pre : Pt → Array Value → Prop) (Post : Pt → Array Value → Option Value → Pt → Prop) (PostX : Pt → Array Value → Addr → Pt → Prop) : Prop :=
  ∀ (m : MethodId) (meth : Method) (c : Code) (A : Pt) (g : JFrame) (ig : Instr) (mk : MethodId) (a : Array Value),
    Stand p l e R s m sargs below meth c A.U A.locs A.cells A.slots → g.method = m → g.locals.size = c.maxLocals → decode c.code g.pc = .ok (ig, len) →
    2 * g.monitorRoom + (g.stack.map fun v => v.category).sum ≤ W9 → A.U.methodNamed? y = some mk → Pre A a →
    (∃ (v : Option Value) (B : Pt), Stand p l e R s m sargs below meth c B.U B.locs B.cells B.slots ∧ Post A a v B ∧
      Steps p.tables e below (doInvoke e (A.U.setTop g) [] mk a).1 (B.U.setTop { g with pc := g.pc + len, stack := v.toList ++ g.stack })) ∨
    (∃ (q : Addr) (B : Pt), Stand p l e R s m sargs below meth c B.U B.locs B.cells B.slots ∧ PostX A a q B ∧
      Steps p.tables e below (doInvoke e (A.U.setTop g) [] mk a).1 ((B.U.setTop g).pushFrame (.throwing q)))
section Payer
variable {l : Launch} {R : Room} {p : Program} {e : Env} {below : List Frame} {s : State} {sargs : Array Value} {y : MethodName} {len W9 : Nat}
theorem vx_back {ws : List Cond} {rm : Room} {Pc : Array Value → State → Prop} {Qc : Array Value → State → Outcome → State → Prop} {XC : String → State → State → Prop} {mc ms : Nat} {free : Addr → Prop} {bytes : ByteArray} {maxL : Nat} {ret : Option FieldType}
    (hM : vx_Met l y ws rm Pc Qc XC mc ms free) (hblind : FrameBlind Pc) (hrc : rm.cells = mc) (hrs : rm.slots = ms)
    (hframes : rm.frames + 1 ≤ R.frames) (hlocals : W9 + (maxL + 11) + rm.locals ≤ R.locals)
    (hws : ∀ w ∈ ws, ∀ a' U, s.WarmedH U.vm → w.before a' U = true) (hcode : Cond.code y bytes maxL ret ∈ ws) (hinit : ∀ a' U, s.WarmedH U.vm → (Cond.initialized y.cls).before a' U = true) :
    vx_Back l R p e below s sargs y len W9 (PreOf R mc ms Pc) (PostOf Qc mc ms free) (vx_Post XC mc ms free) := by
  intro m meth c A g ig mk a X hg hsize hdg hW hn hp
  have h1 : (headSpec ws rm).pre.before a A.U = true := atoms_intro fun w hw => hws w hw _ _ X.warmed
  have h2 : (Cond.code y bytes maxL ret).before a A.U = true := hws _ hcode _ _ X.warmed
  have h3 : (Cond.initialized y.cls).before a A.U = true := hinit _ _ X.warmed
  have h4 : A.cells + (headSpec ws rm).room.cells ≤ R.cells := by rw [show (headSpec ws rm).room.cells = mc from hrc]; exact hp.1
  have h5 : A.slots + (headSpec ws rm).room.slots ≤ R.slots := by rw [show (headSpec ws rm).room.slots = ms from hrs]; exact hp.2.1
  have hPc : Pc a (A.U.calling g mk a) := hblind _ _ _ _ hp.2.2
  obtain ⟨U, Ls, c0, s0⟩ := A
  dsimp only [Pt.U, Pt.locs, Pt.cells, Pt.slots] at h1 h2 h3 h4 h5 X hn hPc ⊢
  obtain ⟨methY, cY, hmY, hcY, -, hlY, -, -, -, -⟩ := Cond.code_spec hn h2
  obtain ⟨kY, hkY, -⟩ := className_of_methodNamed hn
  have hinitY : kY.init = .initialized := Cond.initialized_spec (findClass_of_methodNamed hn) hkY h3
  have h : At U g.method c below := by rw [hg]; exact X.here
  have hlocals9 : W9 + (maxL + 11) + (headSpec ws rm).room.locals ≤ R.locals := hlocals
  have happ : (headSpec ws rm).appliesLoose y e.platform (U.calling g mk a) = true :=
    Spec.appliesLoose_calling (g := g) h hdg hn hkY hinitY
      (X.room_calling (g := g) (R' := (headSpec ws rm).room) hsize hmY hcY hframes (by rw [hlY]; omega) h4 h5) h1
  obtain ⟨mid, hmid⟩ := h.above
  have hfr : (U.setTop g).frames = (.java g :: mid) ++ below := by rw [State.frames_setTop' g h.top, hmid]; rfl
  obtain ⟨o, s₂, hsteps, -, hend, hq⟩ := Steps.callFree hM p X.admits X.cas X.clock (acts := []) hfr happ hPc trivial
  have hq' : vx_Q Qc XC mc ms free a (U.calling g mk a) o s₂ := hq
  rw [State.frames_setTop' g h.top] at hend
  obtain ⟨g₀, hg0⟩ := Option.isSome_iff_exists.mp h.top
  obtain ⟨r, hr⟩ := State.topJava?_eq_some.mp hg0
  have hr' : (({ U with heap := s₂.heap, slotsUsed := s₂.slotsUsed } : State).setVm s₂.vm).frames = .java g₀ :: r := hr
  rcases hq' with ⟨hqc, L, hfe, hL⟩ | ⟨q, rfl, E, ce, L, hx, hce, hcv, hcl, hW₂, hsm, hL⟩
  · obtain ⟨⟨v, rfl⟩, hW₂, e2, q2, q3, q4, q5, q6⟩ := id hfe
    have e3 : s₂ = ({ (U.calling g mk a).setFrames s₂.frames with heap := s₂.heap, slotsUsed := s₂.slotsUsed } : State).setVm s₂.vm := by
      have : s₂ = ({ s₂ with vm := (U.calling g mk a).vm } : State).setVm s₂.vm := rfl
      rw [e2] at this
      exact this
    obtain ⟨c₂, i₂, len₂, hc₂, hd₂, hf₂⟩ := hend
    have hW' : U.WarmedH s₂.vm := hW₂
    have hcc : c₂ = c := by
      have h1 : s₂.code? g.method = U.code? g.method := by
        rw [State.code?_eq, State.code?_eq, hW'.alike.method?]
      exact Option.some.inj (hc₂.symm.trans (h1.trans h.code))
    subst hcc
    have hlen : len₂ = len := by rw [hdg] at hd₂; cases hd₂; rfl
    subst hlen
    have hs₂ : s₂ = (({ U with heap := s₂.heap, slotsUsed := s₂.slotsUsed } : State).setVm s₂.vm).setTop { g with pc := g.pc + len₂, stack := v.toList ++ g.stack } := by
      refine e3.trans ?_
      rw [hf₂, State.calling_eq h.top, State.setFrames_setFrames, State.setTop_of_frames _ hr', hr]
      rfl
    have hsame : U.sameButNew ({ U with heap := s₂.heap, slotsUsed := s₂.slotsUsed } : State) L mc ms := by
      refine ⟨?_, q2, q3, q4, q5, q6⟩
      obtain ⟨t, ht, -⟩ := State.frames_cons hr
      show ({ U with heap := s₂.heap, slotsUsed := s₂.slotsUsed } : State) = { U.setFrames U.frames with heap := s₂.heap, slotsUsed := s₂.slotsUsed }
      rw [State.setFrames_self ht]
    subst hg
    refine Or.inl ⟨v, ⟨(({ U with heap := s₂.heap, slotsUsed := s₂.slotsUsed } : State).setVm s₂.vm), Ls ++ L, c0 + mc, s0 + ms⟩,
      ⟨X.admits, X.cas, X.clock, X.frames, X.room, X.hears, X.method, X.code, (X.here.setHeapUsed s₂.heap s₂.slotsUsed).setVm hW'.alike, X.tail, State.WarmedH.trans X.warmed hW', X.limits, X.bytes, X.same.trans (hsame.setVm s.vm)⟩,
      ⟨g, mk, s₂, L, rfl, rfl, hqc, rfl, hL, rfl, rfl⟩, ?_⟩
    show Steps p.tables e below _ ((({ U with heap := s₂.heap, slotsUsed := s₂.slotsUsed } : State).setVm s₂.vm).setTop { g with pc := g.pc + len₂, stack := v.toList ++ g.stack })
    rw [← hs₂]
    exact hsteps
  · obtain ⟨e2, q2, q3, q4, q5, q6⟩ := id hsm
    have e3 : s₂ = ({ (U.calling g mk a).setFrames s₂.frames with heap := s₂.heap, slotsUsed := s₂.slotsUsed } : State).setVm s₂.vm := by
      have : s₂ = ({ s₂ with vm := (U.calling g mk a).vm } : State).setVm s₂.vm := rfl
      rw [e2] at this
      exact this
    have hf₂ : s₂.frames = .throwing q :: .java g :: U.frames.tail := hend
    have hW' : U.WarmedH s₂.vm := hW₂
    have hs₂ : s₂ = ((({ U with heap := s₂.heap, slotsUsed := s₂.slotsUsed } : State).setVm s₂.vm).setTop g).pushFrame (.throwing q) := by
      refine e3.trans ?_
      rw [hf₂, State.calling_eq h.top, State.setFrames_setFrames, State.pushFrame, State.frames_setTop _ hr', State.setTop_of_frames _ hr', State.setFrames_setFrames, hr]
      rfl
    have hsame : U.sameButNew ({ U with heap := s₂.heap, slotsUsed := s₂.slotsUsed } : State) L mc ms := by
      refine ⟨?_, q2, q3, q4, q5, q6⟩
      obtain ⟨t, ht, -⟩ := State.frames_cons hr
      show ({ U with heap := s₂.heap, slotsUsed := s₂.slotsUsed } : State) = { U.setFrames U.frames with heap := s₂.heap, slotsUsed := s₂.slotsUsed }
      rw [State.setFrames_self ht]
    subst hg
    refine Or.inr ⟨q, ⟨(({ U with heap := s₂.heap, slotsUsed := s₂.slotsUsed } : State).setVm s₂.vm), Ls ++ L, c0 + mc, s0 + ms⟩,
      ⟨X.admits, X.cas, X.clock, X.frames, X.room, X.hears, X.method, X.code, (X.here.setHeapUsed s₂.heap s₂.slotsUsed).setVm hW'.alike, X.tail, State.WarmedH.trans X.warmed hW', X.limits, X.bytes, X.same.trans (hsame.setVm s.vm)⟩,
      ⟨g, mk, s₂, L, E, ce, rfl, rfl, hx, hce, hcv, hcl, rfl, hL, rfl, rfl⟩, ?_⟩
    show Steps p.tables e below _ (((({ U with heap := s₂.heap, slotsUsed := s₂.slotsUsed } : State).setVm s₂.vm).setTop g).pushFrame (.throwing q))
    rw [← hs₂]
    exact hsteps
end Payer
section Calls
variable {p : Program} {l : Launch} {e : Env} {R : Room} {s : State} {m : MethodId} {args : Array Value} {below : List Frame} {meth : Method} {c : Code} {T : State} {locs : List Loc} {cells slots : Nat}
theorem vx_callV (X : Stand p l e R s m args below meth c T locs cells slots) (hexec : p.tables.exec = Jvm.exec) {own C : String} {index : Nat} {y : MethodName} {bytes : ByteArray} {maxL : Nat} {ret : Option FieldType}
    (hown : s.vm.findClass own = some m.cls) (hlink : (Cond.methodLink own index y).before args s = true) (hinst : (Cond.instanceMethod y).before args s = true) (hsel : (Cond.selects C y y).before args s = true)
    (hcode : (Cond.code y bytes maxL ret).before args s = true) (hy : y.cls ≠ "java/lang/invoke/MethodHandle" ∧ y.cls ≠ "java/lang/invoke/VarHandle")
    {W9 : Nat} {Pre : Pt → Array Value → Prop} {Post : Pt → Array Value → Option Value → Pt → Prop} {PostX : Pt → Array Value → Addr → Pt → Prop} (hK : vx_Back l R p e below s args y 3 W9 Pre Post PostX)
    {b : Addr} {cellB : Cell} (hcell : T.heap[b]? = some cellB) (hobj : cellB.vm.isStatics = false) (hcls : s.vm.findClass C = some cellB.cls)
    {g : JFrame} (hg : g.method = m) (hsize : g.locals.size = c.maxLocals) {argsL rest : List Value} (hlen : ∀ sig, parseMethodDescriptor y.desc = some sig → argsL.length = sig.parameters.length)
    (hstack : g.stack = argsL.reverse ++ .ref b :: rest) (hW : 2 * g.monitorRoom + (rest.map fun v => v.category).sum ≤ W9) (hdg : decode c.code g.pc = .ok (.invokevirtual index, 3))
    (hpre : ∀ vm₁, s.WarmedH vm₁ → Pre ⟨T.setVm vm₁, locs, cells, slots⟩ (Value.ref b :: argsL).toArray) :
    (∃ (v : Option Value) (vm₁ : Vm) (B : Pt), s.WarmedH vm₁ ∧ Stand p l e R s m args below meth c B.U B.locs B.cells B.slots ∧ Post ⟨T.setVm vm₁, locs, cells, slots⟩ (Value.ref b :: argsL).toArray v B ∧
      ∀ target, Steps p.tables e below (B.U.setTop { g with pc := g.pc + 3, stack := v.toList ++ rest }) target → Steps p.tables e below (T.setTop g) target) ∨
    (∃ (q : Addr) (vm₁ : Vm) (B : Pt), s.WarmedH vm₁ ∧ Stand p l e R s m args below meth c B.U B.locs B.cells B.slots ∧ PostX ⟨T.setVm vm₁, locs, cells, slots⟩ (Value.ref b :: argsL).toArray q B ∧
      Steps p.tables e below (T.setTop g) ((B.U.setTop { g with stack := rest }).pushFrame (.throwing q))) := by
  obtain ⟨mk, methM, hnamed, hmethM, hstM, habM⟩ := Cond.instanceMethod_spec hinst
  obtain ⟨methM', cM, hmethM', -, -, -, -, -, -, hsigM⟩ := Cond.code_spec hnamed hcode
  cases hmethM.symm.trans hmethM'
  obtain ⟨c2, r2, m2, q1, q2, q3, q4, kP, hkP, hkPi⟩ := Cond.selects_spec hsel
  cases hcls.symm.trans q1
  cases (State.methodFound?_of_named hnamed hy).symm.trans q2
  cases hnamed.symm.trans q3
  have hselP : selectMethod e.platform s.vm cellB.cls mk = .method mk := by rw [Launch.admits_selectMethod X.admits]; exact q4
  obtain ⟨vm₁, X₁, hstep₁⟩ := X.invokevirtual hexec hown hlink hnamed hmethM hstM hkP hkPi hy (a := b) (cell := cellB) hcell
    (fun z h => by rw [h] at hobj; cases hobj) hselP hmethM habM hkP hkPi (g := g) hg (argsL := argsL) (rest := rest) (hlen _ hsigM) hstack hdg
  rcases hK m meth c ⟨T.setVm vm₁, locs, cells, slots⟩ { g with stack := rest } (.invokevirtual index) mk (Value.ref b :: argsL).toArray X₁ hg hsize hdg hW (X₁.named hnamed) (hpre vm₁ X₁.warmed) with ⟨v, B, X', hpost, hsteps⟩ | ⟨q, B, X', hpost, hsteps⟩
  · exact Or.inl ⟨v, vm₁, B, X₁.warmed, X', hpost, fun target h => hstep₁ _ fun acts => by rw [doInvoke_state]; exact hsteps.trans h⟩
  · exact Or.inr ⟨q, vm₁, B, X₁.warmed, X', hpost, hstep₁ _ fun acts => by rw [doInvoke_state]; exact hsteps⟩
theorem vx_callS (X : Stand p l e R s m args below meth c T locs cells slots) (hexec : p.tables.exec = Jvm.exec) {own : String} {index : Nat} {y : MethodName} {bytes : ByteArray} {maxL : Nat} {ret : Option FieldType}
    (hown : s.vm.findClass own = some m.cls) (hlink : (Cond.methodLink own index y).before args s = true) (hstat : (Cond.static y).before args s = true) (hinit : (Cond.initialized y.cls).before args s = true)
    (hcode : (Cond.code y bytes maxL ret).before args s = true) (hy : y.cls ≠ "java/lang/invoke/MethodHandle" ∧ y.cls ≠ "java/lang/invoke/VarHandle")
    {W9 : Nat} {Pre : Pt → Array Value → Prop} {Post : Pt → Array Value → Option Value → Pt → Prop} {PostX : Pt → Array Value → Addr → Pt → Prop} (hK : vx_Back l R p e below s args y 3 W9 Pre Post PostX)
    {g : JFrame} (hg : g.method = m) (hsize : g.locals.size = c.maxLocals) {argsL rest : List Value} (hlen : ∀ sig, parseMethodDescriptor y.desc = some sig → argsL.length = sig.parameters.length)
    (hstack : g.stack = argsL.reverse ++ rest) (hW : 2 * g.monitorRoom + (rest.map fun v => v.category).sum ≤ W9) (hdg : decode c.code g.pc = .ok (.invokestatic index, 3))
    (hpre : ∀ vm₁, s.WarmedH vm₁ → Pre ⟨T.setVm vm₁, locs, cells, slots⟩ argsL.toArray) :
    (∃ (v : Option Value) (vm₁ : Vm) (B : Pt), s.WarmedH vm₁ ∧ Stand p l e R s m args below meth c B.U B.locs B.cells B.slots ∧ Post ⟨T.setVm vm₁, locs, cells, slots⟩ argsL.toArray v B ∧
      ∀ target, Steps p.tables e below (B.U.setTop { g with pc := g.pc + 3, stack := v.toList ++ rest }) target → Steps p.tables e below (T.setTop g) target) ∨
    (∃ (q : Addr) (vm₁ : Vm) (B : Pt), s.WarmedH vm₁ ∧ Stand p l e R s m args below meth c B.U B.locs B.cells B.slots ∧ PostX ⟨T.setVm vm₁, locs, cells, slots⟩ argsL.toArray q B ∧
      Steps p.tables e below (T.setTop g) ((B.U.setTop { g with stack := rest }).pushFrame (.throwing q))) := by
  obtain ⟨mk, hnamed⟩ := Cond.code_named hcode
  obtain ⟨methM, cM, hmethM, -, -, -, -, -, -, hsigM⟩ := Cond.code_spec hnamed hcode
  have hstatic : methM.isStatic = true := Cond.static_spec hnamed hmethM hstat
  obtain ⟨kP, hkP, -⟩ := className_of_methodNamed hnamed
  have hinitP : kP.init = .initialized := Cond.initialized_spec (findClass_of_methodNamed hnamed) hkP hinit
  obtain ⟨vm₁, X₁, hstep₁⟩ := X.invokestatic hexec hown hlink hnamed hmethM hstatic hkP hinitP hy (g := g) hg (argsL := argsL) (rest := rest) (hlen _ hsigM) hstack hdg
  rcases hK m meth c ⟨T.setVm vm₁, locs, cells, slots⟩ { g with stack := rest } (.invokestatic index) mk argsL.toArray X₁ hg hsize hdg hW (X₁.named hnamed) (hpre vm₁ X₁.warmed) with ⟨v, B, X', hpost, hsteps⟩ | ⟨q, B, X', hpost, hsteps⟩
  · exact Or.inl ⟨v, vm₁, B, X₁.warmed, X', hpost, fun target h => hstep₁ _ fun acts => by rw [doInvoke_state]; exact hsteps.trans h⟩
  · exact Or.inr ⟨q, vm₁, B, X₁.warmed, X', hpost, hstep₁ _ fun acts => by rw [doInvoke_state]; exact hsteps⟩
end Calls
theorem vx_cls {s : State} {T : State} {vm₁ : Vm} {E : String} {k : ClassId} (hW : s.WarmedH vm₁) (h : (T.setVm vm₁).vm.findClass E = some k) : s.vm.findClass E = some k := by
  have h1 : vm₁.findClass E = some k := h
  rw [hW.alike.findClass] at h1
  exact h1
/-- the method's frame g, with q thrown over it -/
def vx_W (p : Program) (l : Launch) (e : Env) (R : Room) (s : State) (m : MethodId) (args : Array Value) (below : List Frame) (meth : Method) (c : Code) (H : Heap) (locs : List Loc) (cells slots : Nat) (Q : State → Prop) (g : JFrame) (q : Addr) : Prop :=
  ∀ T : State, T.heap = H → Stand p l e R s m args below meth c T locs cells slots → ∃ t, Steps p.tables e below ((T.setTop g).pushFrame (.throwing q)) t ∧ Q t
def vx_Run (p : Program) (l : Launch) (e : Env) (R : Room) (s : State) (m : MethodId) (args : Array Value) (below : List Frame) (meth : Method) (c : Code) (H : Heap) (locs : List Loc) (cells slots mc ms : Nat) (g : JFrame) (rest : List Value) (Qa : State → Outcome → State → Prop) (XC : String → State → State → Prop) (free : Addr → Prop) : Prop :=
  ∀ T : State, T.heap = H → Stand p l e R s m args below meth c T locs cells slots →
    (∃ (v : Option Value) (st₀ t T' : State) (L : List Loc), st₀.heap = H ∧ Stand p l e R s m args below meth c T' (locs ++ L) (cells + mc) (slots + ms) ∧ (∀ q ∈ L, free q.base) ∧ T'.heap = t.heap ∧ T'.vm = t.vm ∧ Qa st₀ (.returned v) t ∧
      Goes p e below T g T' { g with pc := g.pc + 3, stack := v.toList ++ rest }) ∨
    (∃ (q : Addr) (st₀ t T' : State) (L : List Loc) (E : String) (ce : Cell), st₀.heap = H ∧ Stand p l e R s m args below meth c T' (locs ++ L) (cells + mc) (slots + ms) ∧ (∀ z ∈ L, free z.base) ∧ T'.heap = t.heap ∧ T'.vm = t.vm ∧ XC E st₀ t ∧ t.heap[q]? = some ce ∧ ce.vm = .none ∧ s.vm.findClass E = some ce.cls ∧
      Steps p.tables e below (T.setTop g) ((T'.setTop { g with stack := rest }).pushFrame (.throwing q)))
section Runs
variable {p : Program} {l : Launch} {e : Env} {R : Room} {s : State} {m : MethodId} {args : Array Value} {below : List Frame} {meth : Method} {c : Code} {H : Heap} {locs : List Loc} {cells slots : Nat}
variable {y : MethodName} {bytes cc : ByteArray} {maxL nL mc ms n index : Nat} {ret : Option FieldType} {ws : List Cond} {rm : Room} {Pc : Array Value → State → Prop} {Qc : Array Value → State → Outcome → State → Prop} {XC : String → State → State → Prop} {free : Addr → Prop} {Ts : List Cond} {own C : String} {b : Addr} {As rest : List Value} {g : JFrame}
theorem vx_callBack (cb : CallB R s args own index y bytes maxL ret ws rm mc ms n) (hM : vx_Met l y ws rm Pc Qc XC mc ms free) (hbl : FrameBlind Pc) : vx_Back l R p e below s args y 3 8 (PreOf R mc ms Pc) (PostOf Qc mc ms free) (vx_Post XC mc ms free) := by
  obtain ⟨hrc, hrs, hfr, hlo, hws, hcw, -, hini, -⟩ := cb
  exact vx_back (bytes := bytes) (maxL := maxL) (ret := ret) hM hbl hrc hrs hfr hlo hws hcw (fun a' U hW => word_at hW (Or.inl (by first | rfl | simp [Cond.onTables, Cond.keeps, Cond.steady])) hini)
theorem vx_runV (S : CallFix p m c cc nL s args Ts own) (hM : vx_Met l y ws rm Pc Qc XC mc ms free) (cw : CallW R s args own C index y bytes maxL ret ws rm mc ms n) (hp : PreV s H C b Pc As)
    (hg : g.method = m) (hn : As.length = n) (hsize : g.locals.size = nL) (hstack : g.stack = As.reverse ++ .ref b :: rest) (hW : 2 * g.monitorRoom + (rest.map fun v => v.category).sum ≤ 8) (hdg : decode cc g.pc = .ok (.invokevirtual index, 3)) (hf : cells + mc ≤ R.cells ∧ slots + ms ≤ R.slots) :
    vx_Run p l e R s m args below meth c H locs cells slots mc ms g rest (Qc (Value.ref b :: As).toArray) XC free := by
  have hK : vx_Back l R p e below s args y 3 8 (PreOf R mc ms Pc) (PostOf Qc mc ms free) (vx_Post XC mc ms free) := vx_callBack cw.1 hM hp.1
  obtain ⟨⟨-, -, -, -, -, -, hcode, -, hy, hlen, hl⟩, hin, hse⟩ := cw
  obtain ⟨hx, hb, hml, ho, -⟩ := S
  obtain ⟨-, ⟨cellB, hcB, hoB, hclB⟩, hPc⟩ := hp
  intro T hT X
  rcases vx_callV X hx (C := C) (bytes := bytes) (maxL := maxL) (ret := ret) ho hl hin hse hcode hy hK (by rw [hT]; exact hcB) hoB hclB hg (hsize.trans hml.symm) (argsL := As) (rest := rest) (fun sig h => hn.trans (hlen sig h)) hstack hW (by rw [hb]; exact hdg)
    (fun vm₁ hW₁ => ⟨hf.1, hf.2, hPc (T.setVm vm₁) hT hW₁⟩) with ⟨v, vm₁, ⟨U', l2, c2, s2⟩, hW₁, X', ⟨g', mk, t, L, e1, e2, hq, h1, hL, h2, h3⟩, st⟩ | ⟨q, vm₁, ⟨U', l2, c2, s2⟩, hW₁, X', ⟨g', mk, t, L, E, ce, e1, e2, hq, hce, hcv, hcl, h1, hL, h2, h3⟩, st⟩
  · dsimp only [Pt.U, Pt.locs, Pt.cells, Pt.slots] at X' e1 e2 h1 h2 h3 st
    subst h1; subst h2; subst h3
    exact Or.inl ⟨v, (T.setVm vm₁).calling g' mk (Value.ref b :: As).toArray, t, U', L, hT, X', hL, e1, e2, hq, st⟩
  · dsimp only [Pt.U, Pt.locs, Pt.cells, Pt.slots] at X' e1 e2 h1 h2 h3 st hcl
    subst h1; subst h2; subst h3
    exact Or.inr ⟨q, (T.setVm vm₁).calling g' mk (Value.ref b :: As).toArray, t, U', L, E, ce, hT, X', hL, e1, e2, hq, hce, hcv, vx_cls hW₁ hcl, st⟩
theorem vx_runS (S : CallFix p m c cc nL s args Ts own) (hM : vx_Met l y ws rm Pc Qc XC mc ms free) (cw : CallB R s args own index y bytes maxL ret ws rm mc ms n ∧ (Cond.static y).before args s = true) (hp : PreS s H Pc As)
    (hg : g.method = m) (hn : As.length = n) (hsize : g.locals.size = nL) (hstack : g.stack = As.reverse ++ rest) (hW : 2 * g.monitorRoom + (rest.map fun v => v.category).sum ≤ 8) (hdg : decode cc g.pc = .ok (.invokestatic index, 3)) (hf : cells + mc ≤ R.cells ∧ slots + ms ≤ R.slots) :
    vx_Run p l e R s m args below meth c H locs cells slots mc ms g rest (Qc As.toArray) XC free := by
  have hK : vx_Back l R p e below s args y 3 8 (PreOf R mc ms Pc) (PostOf Qc mc ms free) (vx_Post XC mc ms free) := vx_callBack cw.1 hM hp.1
  obtain ⟨⟨-, -, -, -, -, -, hcode, hini, hy, hlen, hl⟩, hstt⟩ := cw
  obtain ⟨hx, hb, hml, ho, -⟩ := S
  intro T hT X
  rcases vx_callS X hx (bytes := bytes) (maxL := maxL) (ret := ret) ho hl hstt hini hcode hy hK hg (hsize.trans hml.symm) (argsL := As) (rest := rest) (fun sig h => hn.trans (hlen sig h)) hstack hW (by rw [hb]; exact hdg)
    (fun vm₁ hW₁ => ⟨hf.1, hf.2, hp.2 (T.setVm vm₁) hT hW₁⟩) with ⟨v, vm₁, ⟨U', l2, c2, s2⟩, hW₁, X', ⟨g', mk, t, L, e1, e2, hq, h1, hL, h2, h3⟩, st⟩ | ⟨q, vm₁, ⟨U', l2, c2, s2⟩, hW₁, X', ⟨g', mk, t, L, E, ce, e1, e2, hq, hce, hcv, hcl, h1, hL, h2, h3⟩, st⟩
  · dsimp only [Pt.U, Pt.locs, Pt.cells, Pt.slots] at X' e1 e2 h1 h2 h3 st
    subst h1; subst h2; subst h3
    exact Or.inl ⟨v, (T.setVm vm₁).calling g' mk As.toArray, t, U', L, hT, X', hL, e1, e2, hq, st⟩
  · dsimp only [Pt.U, Pt.locs, Pt.cells, Pt.slots] at X' e1 e2 h1 h2 h3 st hcl
    subst h1; subst h2; subst h3
    exact Or.inr ⟨q, (T.setVm vm₁).calling g' mk As.toArray, t, U', L, E, ce, hT, X', hL, e1, e2, hq, hce, hcv, vx_cls hW₁ hcl, st⟩
end Runs
section Rows
variable {p : Program} {l : Launch} {e : Env} {R : Room} {s : State} {m : MethodId} {args : Array Value} {below : List Frame} {meth : Method} {c : Code} {H : Heap} {locs : List Loc} {cells slots : Nat} {Q : State → Prop}
variable {mc ms : Nat} {free : Addr → Prop} {A0 A1 : Nat → Prop} {H0 : Heap} {a : Array Value} {pc : Nat} {ls : Array Slot} {st0 rest : List Value}
theorem vx_keep {st₀ t T' : State} {L : List Loc} (h0 : st₀.heap = H) (e1 : T'.heap = t.heap) (hS : va_S A0 H0 H locs) (hA : ∀ q, q < H.size → A1 q → A0 q) (hf : ∀ q, free q → A0 q) (hL : ∀ q ∈ L, free q.base) (hF : va_F A1 st₀ t) :
    H.size ≤ T'.heap.size ∧ (∀ q : Nat, q < H.size → ¬ A1 q → T'.heap[q]? = H[q]?) ∧ va_S A0 H0 T'.heap (locs ++ L) := by
  obtain ⟨hz, hk⟩ := hF
  rw [h0] at hz hk
  exact ⟨by rw [e1]; exact hz, fun q h1 h2 => by rw [e1]; exact hk q h1 h2,
    ⟨Nat.le_trans hS.1 (by rw [e1]; exact hz), fun q h1 h2 => by rw [e1, hk q (Nat.lt_of_lt_of_le h1 hS.1) (fun z => h2 (hA q (Nat.lt_of_lt_of_le h1 hS.1) z))]; exact hS.2.1 q h1 h2, fun q hq => by
      rcases List.mem_append.mp hq with h | h
      · exact hS.2.2 q h
      · exact hf _ (hL q h)⟩⟩
/-- caught by the row x of this method's table; the rows ahead don't take it -/
theorem vx_catch {own name : String} {E : String} {ce : Cell} {q : Addr} (hown : s.vm.findClass own = some m.cls) (pre : List ExceptionTableEntry) (x : ExceptionTableEntry) (suf : List ExceptionTableEntry) (hsplit : c.exceptionTable.toList = pre ++ x :: suf)
    (hpass : ∀ z ∈ pre, covers z pc = false ∨ (z.catchType ≠ 0 ∧ ∃ nm : String, (Cond.classLink own z.catchType nm).before args s = true ∧ va_Nc E nm s)) (hx : covers x pc = true) (h0 : x.catchType ≠ 0)
    (hlink : (Cond.classLink own x.catchType name).before args s = true) (hcast : (Cond.castable E name).before args s = true) (hcell : H[q]? = some ce) (hv : ce.vm = .none) (hcl : s.vm.findClass E = some ce.cls)
    (kk : W p l e R s m args below meth c H locs cells slots Q (F0 m x.handlerPc ls [.ref q])) : vx_W p l e R s m args below meth c H locs cells slots Q (F0 m pc ls rest) q := by
  intro T hT X
  have hpl : e.platform.magicAccessors = ({} : Platform).magicAccessors := by rw [X.admits.platform]
  obtain ⟨c3, c4, hc3, hc4, hasg⟩ := Cond.castable_spec hcast
  cases Option.some.inj (hc3.symm.trans hcl)
  obtain ⟨c5, hc5, hcl5⟩ := Cond.classLink_spec hown hlink e.platform hpl
  cases Option.some.inj (hc4.symm.trans hc5)
  obtain ⟨vm', X', st⟩ := Stand.thenCaughtThrough X q (g := F0 m pc ls rest) rfl (Steps.refl _) (by rw [hT]; exact hcell) (by rw [hv]; rfl) (by obtain ⟨k9, h9, -⟩ := Vm.findClass_spec hcl; exact ⟨k9, h9⟩) pre x suf hsplit
    (fun z hz => by
      rcases hpass z hz with h | ⟨hz0, nm, hl1, hn1⟩
      · exact Or.inl h
      · obtain ⟨c6, hc6, hcl6⟩ := Cond.classLink_spec hown hl1 e.platform hpl
        obtain ⟨a8, b8, h1, h2, h3⟩ := hn1
        cases Option.some.inj (h1.symm.trans hcl)
        cases Option.some.inj (h2.symm.trans hc6)
        exact Or.inr ⟨hz0, _, hcl6, h3⟩) hx (Or.inr ⟨h0, c4, hcl5, hasg⟩)
  obtain ⟨t, a1, b1⟩ := kk (T.setVm vm') hT X'
  exact ⟨t, st.trans a1, b1⟩
end Rows
section Ends
variable {p : Program} {l : Launch} {e : Env} {R : Room} {s : State} {m : MethodId} {args : Array Value} {below : List Frame} {meth : Method} {c : Code} {H : Heap} {locs : List Loc} {cells slots : Nat} {Q : State → Prop}
variable {mc ms : Nat} {free : Addr → Prop} {A0 A1 : Nat → Prop} {H0 : Heap} {a : Array Value} {ls : Array Slot} {st0 rest : List Value}
variable {Qc : Array Value → State → Outcome → State → Prop} {XC : String → State → State → Prop}
/-- what a body that may throw owes at its end -/
def vx_MQ (below : List Frame) (Qc : Array Value → State → Outcome → State → Prop) (XC : String → State → State → Prop) (a : Array Value) (s : State) (mc ms : Nat) (free : Addr → Prop) : State → Prop := fun t =>
  ∃ o, t.status = .running ∧ Ended t below o ∧ vx_Q Qc XC mc ms free a s o t
theorem vx_ret {g : JFrame} {mc ms : Nat} (k : W p l e R s m args below meth c H locs cells slots (MQ below Qc args s mc ms free) g) : W p l e R s m args below meth c H locs cells slots (vx_MQ below Qc XC args s mc ms free) g := by
  intro T hT X
  obtain ⟨t, a1, o, b1, b2, b3, b4⟩ := k T hT X
  exact ⟨t, a1, o, b1, b2, Or.inl ⟨b3, b4⟩⟩
theorem vx_out {pc : Nat} {E : String} {ce : Cell} {q : Addr} {mc ms : Nat} (hout : ∀ x ∈ c.exceptionTable.toList, covers x pc = false) (hlocks : meth.locks = false) (hcell : H[q]? = some ce) (hv : ce.vm = .none) (hcl : s.vm.findClass E = some ce.cls)
    (hx : ∀ t : State, t.heap = H → s.vm.Alike t.vm → XC E s t) (hf : ∀ z ∈ locs, free z.base) (hc : cells ≤ mc) (hs : slots ≤ ms) :
    vx_W p l e R s m args below meth c H locs cells slots (vx_MQ below Qc XC args s mc ms free) (F0 m pc ls rest) q := by
  intro T hT X
  obtain ⟨st1, hrun, hend, hW, hsm⟩ := X.leaveThrown q (g := F0 m pc ls rest) rfl rfl rfl hout hlocks
  have hcell9 : (T.setFrames (.throwing q :: below)).heap[q]? = some ce := by
    show T.heap[q]? = some ce
    rw [hT]; exact hcell
  exact ⟨_, st1, .threw q, hrun, hend, Or.inr ⟨q, rfl, E, ce, locs, hx _ hT hW.alike, hcell9, hv, hcl, hW, hsm.mono hc hs, hf⟩⟩
theorem vx_frame {U : State} {k n : Nat} (h : s.sameButNew ({ U with vm := s.vm } : State) locs k n) : s.heap.size ≤ U.heap.size ∧ ∀ q : Nat, q < s.heap.size → (∀ z ∈ locs, z.base ≠ q) → U.heap[q]? = s.heap[q]? := by
  obtain ⟨-, h2, -, -, -, h6⟩ := h
  refine ⟨h2, fun q hq hz => ?_⟩
  obtain ⟨c9, e1, e2, e3, e4⟩ := h6 q _ (Array.getElem?_eq_getElem hq)
  have hs : c9.slots = (s.heap[q]).slots := Array.ext_getElem? fun i => e4 i fun hm => hz _ hm rfl
  have h9 : c9 = s.heap[q] := by
    rw [hs] at e2
    exact e2
  have e5 : U.heap[q]? = some c9 := e1
  rw [e5, h9, Array.getElem?_eq_getElem hq]
/-- the words of a throw but the four that speak of the heap -/
def vx_no (w : Cond) : Bool := decide (w ≠ .isRef (.static Bundle.tN "UNASSIGNED_STACK" Bundle.steD)) && decide (w ≠ .isRef (.static Bundle.tN "SUPPRESSED_SENTINEL" Bundle.listD)) && decide (w ≠ .laysStatic Bundle.tN "UNASSIGNED_STACK" Bundle.steD) && decide (w ≠ .laysStatic Bundle.tN "SUPPRESSED_SENTINEL" Bundle.listD)
def vx_at0 (own : String) (ic : Nat) (X : String) (names : List String) : List Cond := (Bundle.ownAtoms0 own ic X names).filter vx_no
def vx_atS (own : String) (ic : Nat) (X : String) (names : List String) : List Cond := (Bundle.ownAtoms own ic X names).filter vx_no
/-- a word that the tables alone decide, or a good one -/
def vx_ot (w : Cond) : Bool := w.onTables || goodWord w
theorem vx_ot_at {args a' : Array Value} {s U : State} {w : Cond} (hW : s.WarmedH U.vm) (hvm : s.vm = U.vm) (hg : vx_ot w = true) (h : w.before args s = true) : w.before a' U = true := by
  simp only [vx_ot, Bool.or_eq_true] at hg
  rcases hg with hg | hg
  · exact va_tabs hg hvm h
  · exact word_at hW (good_of_word hg) h
/-- a list's words: the good ones out of the method's own list, the others by premises of their own -/
theorem vx_hat {args : Array Value} {s : State} {L B : List Cond} (h1 : ∀ w ∈ L.filter goodWord, w.before args s = true) (h2 : ∀ w ∈ L.filter (fun w => !goodWord w), w ∈ B) (h3 : ∀ w ∈ B, w.before args s = true) : ∀ w ∈ L, w.before args s = true := by
  intro w hw
  by_cases g : goodWord w = true
  · exact h1 w (List.mem_filter.mpr ⟨hw, g⟩)
  · refine h3 w (h2 w (List.mem_filter.mpr ⟨hw, ?_⟩))
    show (!goodWord w) = true
    cases hgw : goodWord w
    · rfl
    · exact absurd hgw g
theorem vx_own {args : Array Value} {s : State} {L : List Cond} (h1 : ∀ w ∈ L.filter vx_no, w.before args s = true)
    (hU : (Cond.isRef (.static Bundle.tN "UNASSIGNED_STACK" Bundle.steD)).before args s = true) (hN : (Cond.isRef (.static Bundle.tN "SUPPRESSED_SENTINEL" Bundle.listD)).before args s = true)
    (lU : (Cond.laysStatic Bundle.tN "UNASSIGNED_STACK" Bundle.steD).before args s = true) (lN : (Cond.laysStatic Bundle.tN "SUPPRESSED_SENTINEL" Bundle.listD).before args s = true) : ∀ w ∈ L, w.before args s = true := by
  intro w hw
  by_cases e1 : w = .isRef (.static Bundle.tN "UNASSIGNED_STACK" Bundle.steD)
  · rw [e1]; exact hU
  · by_cases e2 : w = .isRef (.static Bundle.tN "SUPPRESSED_SENTINEL" Bundle.listD)
    · rw [e2]; exact hN
    · by_cases e3 : w = .laysStatic Bundle.tN "UNASSIGNED_STACK" Bundle.steD
      · rw [e3]; exact lU
      · by_cases e4 : w = .laysStatic Bundle.tN "SUPPRESSED_SENTINEL" Bundle.listD
        · rw [e4]; exact lN
        · exact h1 w (List.mem_filter.mpr ⟨hw, by unfold vx_no; rw [decide_eq_true e1, decide_eq_true e2, decide_eq_true e3, decide_eq_true e4]; rfl⟩)
/-- where a static field lies, its class's statics cell in H -/
def vx_L (C n d : String) (A : Nat → Prop) (U : State) (H : Heap) : Prop := ∃ (c : ClassId) (k : Class) (i : Nat) (f : Field) (a : Nat) (cell : Cell), U.vm.findClass C = some c ∧ U.fieldFound? C n d = some (c, k, i, f) ∧ f.isStatic = true ∧ k.statics = some a ∧ H[a]? = some cell ∧ cell.vm.isStatics = true ∧ cell.cls = c ∧ f.slot < cell.slots.size ∧ k.staticTypes[f.slot]? = some f.type ∧ ¬ A a
theorem vx_L.moved {C n d : String} {A : Nat → Prop} {u U : State} {H : Heap} (hvm : u.vm.Alike U.vm) (h : vx_L C n d A u H) : vx_L C n d A U H := by
  obtain ⟨c, k, i, f, a, cell, h1, h2, h3, h4, h5, h6, h7, h8, h9, h10⟩ := h
  obtain ⟨k', hi', he⟩ := State.fieldFound?_setVm hvm h2
  exact ⟨c, k', i, f, a, cell, by rw [hvm.findClass]; exact h1, hi', h3, by rw [he]; exact h4, h5, h6, h7, h8, by rw [he]; exact h9, h10⟩
theorem vx_L.kept {C n d : String} {A : Nat → Prop} {U : State} {H H1 : Heap} (h : vx_L C n d A U H) (hq : ∀ a : Nat, a < H.size → ¬ A a → H1[a]? = H[a]?) : vx_L C n d A U H1 := by
  obtain ⟨c, k, i, f, a, cell, h1, h2, h3, h4, h5, h6, h7, h8, h9, h10⟩ := h
  exact ⟨c, k, i, f, a, cell, h1, h2, h3, h4, by rw [hq a (Array.getElem?_eq_some_iff.mp h5).1 h10]; exact h5, h6, h7, h8, h9, h10⟩
theorem vx_L.narrow {C n d : String} {A B : Nat → Prop} {U : State} {H : Heap} (h : vx_L C n d A U H) (hAB : ∀ q, B q → A q) : vx_L C n d B U H := by
  obtain ⟨c, k, i, f, a, cell, h1, h2, h3, h4, h5, h6, h7, h8, h9, h10⟩ := h
  exact ⟨c, k, i, f, a, cell, h1, h2, h3, h4, h5, h6, h7, h8, h9, fun z => h10 (hAB _ z)⟩
theorem vx_L.word {C n d : String} {A : Nat → Prop} {s : State} {args : Array Value} (h : vx_L C n d A s s.heap) : (Cond.laysStatic C n d).before args s = true := by
  obtain ⟨c, k, i, f, a, cell, h1, h2, h3, h4, h5, h6, h7, h8, h9, -⟩ := h
  show (Cond.laysStatic C n d).holds args s none s [] = true
  exact Cond.laysStatic_of h1 h2 h3 h4 h5 h6 h7 h8 h9
/-- .. and what it holds: null or some reference -/
def vx_Zq (C n d : String) (A : Nat → Prop) (U : State) (H : Heap) : Prop := va_Zq C n d A U H ∧ vx_L C n d A U H
theorem vx_Zq.moved {C n d : String} {A : Nat → Prop} {u U : State} {H : Heap} (hvm : u.vm.Alike U.vm) (h : vx_Zq C n d A u H) : vx_Zq C n d A U H := ⟨va_Zq.moved hvm h.1, vx_L.moved hvm h.2⟩
theorem vx_Zq.kept {C n d : String} {A : Nat → Prop} {U : State} {H H1 : Heap} (h : vx_Zq C n d A U H) (hq : ∀ a : Nat, a < H.size → ¬ A a → H1[a]? = H[a]?) : vx_Zq C n d A U H1 := ⟨va_Zq.kept h.1 hq, vx_L.kept h.2 hq⟩
theorem vx_Zq.narrow {C n d : String} {A B : Nat → Prop} {U : State} {H : Heap} (h : vx_Zq C n d A U H) (hAB : ∀ q, B q → A q) : vx_Zq C n d B U H := ⟨va_Zq.narrow h.1 hAB, vx_L.narrow h.2 hAB⟩
theorem vx_Zqof {args : Array Value} {s : State} {C n d : String} {A : Nat → Prop} (hl : (Cond.laysStatic C n d).before args s = true) (hini : (Cond.initialized C).before args s = true) (h : (Cond.isRef (.static C n d)).before args s = true) (hA : ∀ a : Nat, a < s.heap.size → ¬ A a) : vx_Zq C n d A s s.heap := by
  refine ⟨va_Zqof hl hini h hA, ?_⟩
  obtain ⟨c, k, i, f, a, cell, h1, h2, h3, h4, h5, h6, h7, h8, h9⟩ := Cond.laysStatic_spec hl
  exact ⟨c, k, i, f, a, cell, h1, h2, h3, h4, h5, h6, h7, h8, h9, hA a (Array.getElem?_eq_some_iff.mp h5).1⟩
theorem vx_isRef {C n d : String} {v : Value} {A : Nat → Prop} {s : State} {args : Array Value} (h : va_Z C n d v A s s.heap) (hv : v.isRef = true) : (Cond.isRef (.static C n d)).before args s = true := by
  obtain ⟨cf, kf, fi, f, a, cell, h1, h2, h3, h4, h5, h6, h7, -⟩ := h
  have he : (Term.static C n d).eval args s none [] s = some v := by
    simp [Term.eval, State.fieldNamed?, h1, h2, h4, h5, h6, h7]
  simp only [Cond.before, Cond.holds, Cond.value, he]
  cases v <;> simp_all [Value.isRef]
theorem vx_isRefq {C n d : String} {A : Nat → Prop} {s : State} {args : Array Value} (h : va_Zq C n d A s s.heap) : (Cond.isRef (.static C n d)).before args s = true := by
  rcases h with h | ⟨t, h⟩
  · exact vx_isRef h rfl
  · exact vx_isRef h rfl
/-- the same frame, seen from here: as if the method were called anew in this heap -/
theorem vx_rebase {T : State} (X : Stand p l e R s m args below meth c T locs cells slots) {R' : Room} (hf : R'.frames ≤ R.frames) (hl : R'.locals ≤ R.locals) (hc : cells + R'.cells ≤ R.cells) (hs : slots + R'.slots ≤ R.slots) :
    Stand p l e R' ((T.setVm s.vm).setFrames (.invoking m args :: below)) m args below meth c T [] 0 0 := by
  have htop : (T.setVm s.vm).topJava?.isSome := X.here.top
  have hF : ((T.setVm s.vm).setFrames (.invoking m args :: below)).frames = .invoking m args :: below := State.frames_setFrames _ (State.cur_lt_of_top htop)
  obtain ⟨g₀, hg0⟩ := Option.isSome_iff_exists.mp htop
  obtain ⟨r, hr⟩ := State.topJava?_eq_some.mp hg0
  have hl9 : e.platform.stackLimits (T.setVm s.vm).me = e.platform.stackLimits s.me := X.limits
  have hb9 : (T.setVm s.vm).me.stackBytes = s.me.stackBytes := X.bytes
  refine ⟨X.admits, X.cas, X.clock, hF, ?_, X.hears, X.method, X.code, X.here, X.tail, X.warmed, ?_, ?_, ?_⟩
  · have h := X.room
    have hU : ((T.setVm s.vm).setFrames (.invoking m args :: below)).localsInUse = s.localsInUse := by
      rw [State.localsInUse_invoking hF (meth := meth) (c := c) X.method X.code, State.localsInUse_invoking X.frames X.method X.code]
    simp only [State.hasRoom, Bool.and_eq_true, decide_eq_true_eq] at h ⊢
    obtain ⟨⟨⟨⟨h1, h2, h3, h4, h5, h6⟩, h7⟩, h8⟩, h9⟩ := h
    rw [X.frames, List.length_cons] at h2 h3
    have q1 := X.heapSize
    have q2 := X.used
    simp only [hF, hU, List.length_cons, State.stackLimits_setFrames, State.stackBytes_setFrames, hl9, hb9]
    refine ⟨⟨⟨⟨by omega, by omega, by omega, by omega, by omega, h6⟩, ?_⟩, ?_⟩, X.book⟩
    · show T.heap.size + R'.cells ≤ e.platform.maxCells
      omega
    · show T.slotsUsed + R'.slots ≤ e.platform.maxSlots
      omega
  · rw [State.stackLimits_setFrames]; rfl
  · rw [State.stackBytes_setFrames]; rfl
  · refine ⟨?_, Nat.le_refl _, Nat.le_refl _, ?_, ?_, fun a c9 h9 => ⟨c9, h9, rfl, rfl, fun _ _ => rfl⟩⟩
    · obtain ⟨t, ht, -⟩ := State.frames_cons hr
      show T.setVm s.vm = { ((T.setVm s.vm).setFrames (.invoking m args :: below)).setFrames (T.setVm s.vm).frames with heap := T.heap, slotsUsed := T.slotsUsed }
      rw [State.setFrames_setFrames, State.setFrames_self ht]
      rfl
    · show T.slotsUsed = T.slotsUsed + ((T.heap.toList.drop T.heap.size).map (·.slots.size)).sum
      rw [List.drop_eq_nil_of_le (Nat.le_of_eq Array.length_toList)]
      rfl
    · show ((T.heap.toList.drop T.heap.size).map (·.slots.size)).sum ≤ 0
      rw [List.drop_eq_nil_of_le (Nat.le_of_eq Array.length_toList)]
      exact Nat.le_refl _
/-- 'throw new E()': new; dup; invokespecial; athrow -/
theorem vx_throw0 {cc : ByteArray} {pc : Nat} (hexec : p.tables.exec = Jvm.exec) (hb : c.code = cc) (hl : l.stackTraces = false) {own cls : String} {names : List String} {ik ic mc ms : Nat} {A : Nat → Prop}
    (hown : s.vm.findClass own = some m.cls) (hcls : Bundle.fit cls = true) (hnames : ∀ n ∈ names, Bundle.fit n = true)
    (hk : (Cond.classLink own ik cls).before args s = true) (hini : (Cond.initialized cls).before args s = true) (hat : ∀ w ∈ vx_at0 own ic cls names, w.before args s = true)
    (hgood : ∀ w ∈ Cond.classLink own ik cls :: Cond.initialized cls :: vx_at0 own ic cls names, vx_ot w = true)
    (hU : vx_Zq Bundle.tN "UNASSIGNED_STACK" Bundle.steD A s s.heap) (hN : vx_Zq Bundle.tN "SUPPRESSED_SENTINEL" Bundle.listD A s s.heap) (hS : va_S A s.heap H locs) (hsize : ls.size = c.maxLocals)
    (d0 : decode cc pc = .ok (.new ik, 3)) (d3 : decode cc (pc + 3) = .ok (.dup, 1)) (d4 : decode cc (pc + 4) = .ok (.invokespecial ic, 3)) (d7 : decode cc (pc + 7) = .ok (.athrow, 1))
    (hout : ∀ x ∈ c.exceptionTable.toList, covers x (pc + 7) = false)
    (hRframes : names.length + 3 < R.frames) (hRlocals : (rest.map fun v => v.category).sum + (13 * (names.length + 1) + 42) ≤ R.locals) (hRcells : cells + 1 ≤ R.cells) (hRslots : slots + 6 ≤ R.slots) (hlocks : meth.locks = false)
    (hx : ∀ t : State, s.vm.Alike t.vm → H.size ≤ t.heap.size → (∀ q : Nat, q < H.size → t.heap[q]? = H[q]?) → XC cls s t)
    (hf : ∀ z ∈ locs, free z.base) (hc : cells + 1 ≤ mc) (hs : slots + 6 ≤ ms) :
    W p l e R s m args below meth c H locs cells slots (vx_MQ below Qc XC args s mc ms free) (F0 m pc ls rest) := by
  intro T hT X
  have htr : e.platform.stackTraces = false := (show e.platform.stackTraces = l.stackTraces by rw [X.admits.platform]).trans hl
  have Y := vx_rebase X (R' := { frames := R.frames, locals := R.locals, cells := 1, slots := 6 }) (Nat.le_refl _) (Nat.le_refl _) hRcells hRslots
  obtain ⟨s', hA⟩ : ∃ z, z = (T.setVm s.vm).setFrames (.invoking m args :: below) := ⟨_, rfl⟩
  rw [← hA] at Y
  have hvm : s'.vm = s.vm := by rw [hA]; rfl
  have hhp : s'.heap = H := by rw [hA]; exact hT
  have hW0 : s.WarmedH s'.vm := by rw [hvm]; exact State.WarmedH.refl s
  have hat' : ∀ w ∈ vx_at0 own ic cls names, w.before args s' = true := fun w hw => vx_ot_at hW0 hvm.symm (hgood w (List.mem_cons_of_mem _ (List.mem_cons_of_mem _ hw))) (hat w hw)
  have hk' : (Cond.classLink own ik cls).before args s' = true := vx_ot_at hW0 hvm.symm (hgood _ List.mem_cons_self) hk
  have hini' : (Cond.initialized cls).before args s' = true := vx_ot_at hW0 hvm.symm (hgood _ (List.mem_cons_of_mem _ List.mem_cons_self)) hini
  have hU' : vx_Zq Bundle.tN "UNASSIGNED_STACK" Bundle.steD A s' s'.heap := by rw [hhp]; exact vx_Zq.moved hW0.alike (hU.kept hS.2.1)
  have hN' : vx_Zq Bundle.tN "SUPPRESSED_SENTINEL" Bundle.listD A s' s'.heap := by rw [hhp]; exact vx_Zq.moved hW0.alike (hN.kept hS.2.1)
  have h : ∀ w ∈ Bundle.ownAtoms0 own ic cls names, w.before args s' = true := vx_own hat' (vx_isRefq hU'.1) (vx_isRefq hN'.1) hU'.2.word hN'.2.word
  have hown' : s'.vm.findClass own = some m.cls := by rw [hvm]; exact hown
  have hins : (Cond.instantiable cls 6).before args s' = true := h _ (by simp [Bundle.ownAtoms0])
  obtain ⟨vm₁, cX, kX, hfX, hkX, -, -, X₁, st1⟩ := Y.newCold hexec (own := own) (C := cls) (index := ik) (n := 6) hown' hk' hins hini'
    (g := F0 m pc ls rest) rfl (by rw [hb]; exact d0) (Nat.le_refl _) (Nat.le_refl _)
  generalize hT1 : (T.setVm vm₁).pushCell { cls := cX, slots := kX.instanceTypes.map defaultValue, vm := .none } = T1 at X₁ st1
  have hcat : (Value.ref T.heap.size).category = 1 := rfl
  have hcellA : T1.heap[T.heap.size]? = some (freshCell cX kX) := by rw [← hT1]; exact State.heap_pushCell_size _ _
  have d3' : decode c.code (pc + 3) = .ok (.dup, 1) := by rw [hb]; exact d3
  obtain ⟨U, hsteps, hrun, hend, hW, hsame, ce, hce, hO⟩ := X₁.ctorThrow0 hexec htr (own := own) (cls := cls) (names := names) (ic := ic) hown' hcls hnames h (fun x hx => nomatch hx) hfX hkX hcellA (by rw [hhp, hT]; exact Nat.le_refl _)
    (g := { method := m, pc := pc + 4, locals := ls, stack := .ref T.heap.size :: .ref T.heap.size :: rest, locked := none }) rfl hsize rfl rfl (rest := rest) rfl
    (by rw [hb]; exact d4) (by rw [hb]; exact d7) hout hRframes (by simp only [List.map_cons, List.sum_cons, hcat]; omega) hlocks
  obtain ⟨f1, f2⟩ := vx_frame hsame
  rw [hhp] at f1 f2
  have hWs : s.WarmedH U.vm := State.WarmedH.trans hW0 hW
  have hcl : s.vm.findClass cls = some ce.cls := by
    have h9 := hO.cls
    rw [hvm] at h9
    exact h9
  have hall : s.sameButNew ({ U with vm := s.vm } : State) locs mc ms := by
    subst hA
    obtain ⟨e1, e2⟩ := hsame
    rw [State.setFrames_setFrames] at e1
    have h2 : (T.setVm s.vm).sameButNew ({ U with vm := s.vm } : State) [] (0 + 1) (0 + 6) := ⟨e1, e2⟩
    have h3 := X.same.trans h2
    rw [List.append_nil] at h3
    exact h3.mono hc hs
  refine ⟨U, ?_, .threw T.heap.size, hrun, hend, Or.inr ⟨T.heap.size, rfl, cls, ce, locs, hx U hWs.alike f1 (fun q hq => f2 q hq (fun z hz => nomatch hz)), hce, hO.vm, hcl, hWs, hall, hf⟩⟩
  refine st1 _ ?_
  show Steps p.tables e below (T1.setTop { method := m, pc := pc + 3, locals := ls, stack := .ref T.heap.size :: rest, locked := none }) _
  jvm_step X₁.here [X₁.here.top, hexec, d3', Value.category]
  exact hsteps
/-- 'throw new E("text")': new; dup; ldc; invokespecial; athrow -/
theorem vx_throwS {cc : ByteArray} {pc : Nat} (hexec : p.tables.exec = Jvm.exec) (hb : c.code = cc) (hl : l.stackTraces = false) {own cls text : String} {names : List String} {ik is ic mc ms sa : Nat} {A : Nat → Prop}
    (hown : s.vm.findClass own = some m.cls) (hcls : Bundle.fit cls = true) (hnames : ∀ n ∈ names, Bundle.fit n = true)
    (hk : (Cond.classLink own ik cls).before args s = true) (hini : (Cond.initialized cls).before args s = true) (hstr : vk_R own is text sa s) (hat : ∀ w ∈ vx_atS own ic cls names, w.before args s = true)
    (hgood : ∀ w ∈ Cond.classLink own ik cls :: Cond.initialized cls :: vx_atS own ic cls names, vx_ot w = true)
    (hU : vx_Zq Bundle.tN "UNASSIGNED_STACK" Bundle.steD A s s.heap) (hN : vx_Zq Bundle.tN "SUPPRESSED_SENTINEL" Bundle.listD A s s.heap) (hS : va_S A s.heap H locs) (hsize : ls.size = c.maxLocals)
    (d0 : decode cc pc = .ok (.new ik, 3)) (d3 : decode cc (pc + 3) = .ok (.dup, 1)) (d4 : decode cc (pc + 4) = .ok (.ldc is, 2)) (d6 : decode cc (pc + 6) = .ok (.invokespecial ic, 3)) (d9 : decode cc (pc + 9) = .ok (.athrow, 1))
    (hout : ∀ x ∈ c.exceptionTable.toList, covers x (pc + 9) = false)
    (hRframes : names.length + 3 < R.frames) (hRlocals : (rest.map fun v => v.category).sum + (13 * (names.length + 1) + 43) ≤ R.locals) (hRcells : cells + 1 ≤ R.cells) (hRslots : slots + 6 ≤ R.slots) (hlocks : meth.locks = false)
    (hx : ∀ t : State, s.vm.Alike t.vm → H.size ≤ t.heap.size → (∀ q : Nat, q < H.size → t.heap[q]? = H[q]?) → XC cls s t)
    (hf : ∀ z ∈ locs, free z.base) (hc : cells + 1 ≤ mc) (hs : slots + 6 ≤ ms) :
    W p l e R s m args below meth c H locs cells slots (vx_MQ below Qc XC args s mc ms free) (F0 m pc ls rest) := by
  intro T hT X
  have htr : e.platform.stackTraces = false := (show e.platform.stackTraces = l.stackTraces by rw [X.admits.platform]).trans hl
  have Y := vx_rebase X (R' := { frames := R.frames, locals := R.locals, cells := 1, slots := 6 }) (Nat.le_refl _) (Nat.le_refl _) hRcells hRslots
  obtain ⟨s', hA⟩ : ∃ z, z = (T.setVm s.vm).setFrames (.invoking m args :: below) := ⟨_, rfl⟩
  rw [← hA] at Y
  have hvm : s'.vm = s.vm := by rw [hA]; rfl
  have hhp : s'.heap = H := by rw [hA]; exact hT
  have hW0 : s.WarmedH s'.vm := by rw [hvm]; exact State.WarmedH.refl s
  have hat' : ∀ w ∈ vx_atS own ic cls names, w.before args s' = true := fun w hw => vx_ot_at hW0 hvm.symm (hgood w (List.mem_cons_of_mem _ (List.mem_cons_of_mem _ hw))) (hat w hw)
  have hk' : (Cond.classLink own ik cls).before args s' = true := vx_ot_at hW0 hvm.symm (hgood _ List.mem_cons_self) hk
  have hini' : (Cond.initialized cls).before args s' = true := vx_ot_at hW0 hvm.symm (hgood _ (List.mem_cons_of_mem _ List.mem_cons_self)) hini
  have hU' : vx_Zq Bundle.tN "UNASSIGNED_STACK" Bundle.steD A s' s'.heap := by rw [hhp]; exact vx_Zq.moved hW0.alike (hU.kept hS.2.1)
  have hN' : vx_Zq Bundle.tN "SUPPRESSED_SENTINEL" Bundle.listD A s' s'.heap := by rw [hhp]; exact vx_Zq.moved hW0.alike (hN.kept hS.2.1)
  have h : ∀ w ∈ Bundle.ownAtoms own ic cls names, w.before args s' = true := vx_own hat' (vx_isRefq hU'.1) (vx_isRefq hN'.1) hU'.2.word hN'.2.word
  have hown' : s'.vm.findClass own = some m.cls := by rw [hvm]; exact hown
  have hins : (Cond.instantiable cls 6).before args s' = true := h _ (by simp [Bundle.ownAtoms])
  obtain ⟨vm₁, cX, kX, hfX, hkX, -, -, X₁, st1⟩ := Y.newCold hexec (own := own) (C := cls) (index := ik) (n := 6) hown' hk' hins hini'
    (g := F0 m pc ls rest) rfl (by rw [hb]; exact d0) (Nat.le_refl _) (Nat.le_refl _)
  generalize hT1 : (T.setVm vm₁).pushCell { cls := cX, slots := kX.instanceTypes.map defaultValue, vm := .none } = T1 at X₁ st1
  have hcat : (Value.ref T.heap.size).category = 1 := rfl
  have hcellA : T1.heap[T.heap.size]? = some (freshCell cX kX) := by rw [← hT1]; exact State.heap_pushCell_size _ _
  have d3' : decode c.code (pc + 3) = .ok (.dup, 1) := by rw [hb]; exact d3
  have d4' : decode c.code (pc + 4) = .ok (.ldc is, 2) := by rw [hb]; exact d4
  have hstr' : vk_R own is text sa s' := vk_R.warm hW0 hstr
  obtain ⟨U, hsteps, hrun, hend, hW, hsame, ce, hce, hO⟩ := X₁.ctorThrowS hexec htr (own := own) (cls := cls) (names := names) (ic := ic) hown' hcls hnames h (fun x hx => nomatch hx) hfX hkX hcellA (by rw [hhp, hT]; exact Nat.le_refl _) (msg := .ref sa) rfl
    (g := { method := m, pc := pc + 6, locals := ls, stack := .ref sa :: .ref T.heap.size :: .ref T.heap.size :: rest, locked := none }) rfl hsize rfl rfl (rest := rest) rfl
    (by rw [hb]; exact d6) (by rw [hb]; exact d9) hout hRframes (by simp only [List.map_cons, List.sum_cons, hcat]; omega) hlocks
  obtain ⟨f1, f2⟩ := vx_frame hsame
  rw [hhp] at f1 f2
  have hWs : s.WarmedH U.vm := State.WarmedH.trans hW0 hW
  have hcl : s.vm.findClass cls = some ce.cls := by
    have h9 := hO.cls
    rw [hvm] at h9
    exact h9
  have hall : s.sameButNew ({ U with vm := s.vm } : State) locs mc ms := by
    subst hA
    obtain ⟨e1, e2⟩ := hsame
    rw [State.setFrames_setFrames] at e1
    have h2 : (T.setVm s.vm).sameButNew ({ U with vm := s.vm } : State) [] (0 + 1) (0 + 6) := ⟨e1, e2⟩
    have h3 := X.same.trans h2
    rw [List.append_nil] at h3
    exact h3.mono hc hs
  refine ⟨U, ?_, .threw T.heap.size, hrun, hend, Or.inr ⟨T.heap.size, rfl, cls, ce, locs, hx U hWs.alike f1 (fun q hq => f2 q hq (fun z hz => nomatch hz)), hce, hO.vm, hcl, hWs, hall, hf⟩⟩
  refine st1 _ ?_
  show Steps p.tables e below (T1.setTop { method := m, pc := pc + 3, locals := ls, stack := .ref T.heap.size :: rest, locked := none }) _
  jvm_step X₁.here [X₁.here.top, hexec, d3', Value.category]
  exact X₁.ldcString hexec (own := own) (text := text) (index := is) (a := sa) hown' hstr'.1 hstr'.2
    (g := { method := m, pc := pc + 4, locals := ls, stack := .ref T.heap.size :: .ref T.heap.size :: rest, locked := none }) rfl d4' _ hsteps
end Ends
section Bodies
variable {l : Launch}
theorem vx_ofW {y : MethodName} {ws ws' : List Cond} {rm : Room} {Pc : Array Value → State → Prop} {Qc : Array Value → State → Outcome → State → Prop} {XC : String → State → State → Prop} {mc ms : Nat} {free : Addr → Prop} {cc : ByteArray} {maxL : Nat} {ret : Option FieldType}
    (hy : plainName y.cls = true) (hw : ws = Cond.code y cc maxL ret :: ws')
    (body : ∀ p e s m args below meth c s₁, BodyLoose p l y (headSpec ws rm) cc maxL ret e s m args below meth c s₁ → c.maxLocals = maxL → (∀ x ∈ c.exceptionTable.toList, False) → Pc args s →
      W p l e (headSpec ws rm).room s m args below meth c s.heap [] 0 0 (vx_MQ below Qc XC args s mc ms free) (entryFrame m args maxL)) : vx_Met l y ws rm Pc Qc XC mc ms free := by
  refine MetFree.of_bodyS (code := cc) (maxLocals := maxL) (ret := ret) hy ?_ ?_
  · intro args s m h hn
    obtain ⟨meth, c, h1, h2, h3, h4, h5, h6, -, -⟩ := Cond.code_spec hn (atoms_spec (ws := ws) h _ (by rw [hw]; exact List.mem_cons_self))
    exact ⟨meth, c, h1, h2, h3, h4, h5, h6⟩
  · intro p e s m args below meth c s₁ B hml hP _
    have hh0 : s₁.heap = s.heap := by rw [B.state]; rfl
    have ht : ∀ x ∈ c.exceptionTable.toList, False := by
      obtain ⟨meth9, c9, h1, h2, -, -, -, -, h7, -⟩ := Cond.code_spec B.named (atoms_spec (ws := ws) B.pre _ (by rw [hw]; exact List.mem_cons_self))
      cases Option.some.inj (h1.symm.trans B.method)
      cases Option.some.inj (h2.symm.trans (Stand.of_body B).code)
      intro x hx
      rw [Array.isEmpty_iff.mp h7] at hx
      cases hx
    obtain ⟨t, a1, o, b1, b2, b3⟩ := body p e s m args below meth c s₁ B hml ht hP s₁ hh0 (Stand.of_body B)
    exact ⟨t, o, a1, b1, b2, b3⟩
/-- the table of a body with handlers -/
theorem vx_table {p : Program} {x y : MethodName} {S : Spec} {cc bytes : ByteArray} {maxL maxL' : Nat} {ret ret' : Option FieldType} {e : Env} {s s₁ : State} {m : MethodId} {args : Array Value} {below : List Frame} {meth : Method} {c : Code} {hh : List (Nat × Nat × Nat × Nat)}
    (B : BodyLoose p l y S cc maxL ret e s m args below meth c s₁) (h : (Cond.codeWith y bytes maxL' ret' hh).before args s = true) : c.exceptionTable.toList = tableOf hh := by
  obtain ⟨m9, meth9, c9, hn9, h1, h2, -, -, h6, -⟩ := Cond.codeWith_spec h
  cases Option.some.inj (hn9.symm.trans B.named)
  cases Option.some.inj (h1.symm.trans B.method)
  cases Option.some.inj (h2.symm.trans (Stand.of_body B).code)
  rw [← h6, table_eq]
end Bodies
end VXA
/-! ===== END ===== -/
/-! ===== BEGIN a static call of a method with an exception table ===== -/
section VXS
variable {p : Program} {l : Launch} {e : Env} {R : Room} {s : State} {m : MethodId} {args : Array Value} {below : List Frame} {meth : Method} {c : Code} {T : State} {H : Heap} {locs : List Loc} {cells slots : Nat}
abbrev vx_CSW (R : Room) (s : State) (args : Array Value) (own : String) (index : Nat) (y : MethodName) (bytes : ByteArray) (maxL : Nat) (ret : Option FieldType) (hh : List (Nat × Nat × Nat × Nat)) (ws : List Cond) (rm : Room) (mc ms n : Nat) : Prop :=
  (rm.cells = mc ∧ rm.slots = ms ∧ rm.frames + 1 ≤ R.frames ∧ 8 + (maxL + 11) + rm.locals ≤ R.locals ∧ (∀ w ∈ ws, ∀ (a' : Array Value) (U : State), s.WarmedH U.vm → w.before a' U = true) ∧ Cond.codeWith y bytes maxL ret hh ∈ ws) ∧
  (Cond.codeWith y bytes maxL ret hh).before args s = true ∧ (Cond.initialized y.cls).before args s = true ∧ (y.cls ≠ "java/lang/invoke/MethodHandle" ∧ y.cls ≠ "java/lang/invoke/VarHandle") ∧
  (∀ sig, parseMethodDescriptor y.desc = some sig → n = sig.parameters.length) ∧ (Cond.methodLink own index y).before args s = true ∧ (Cond.static y).before args s = true
theorem vx_cwSW {own : String} {index maxL mc ms : Nat} {y : MethodName} {bytes : ByteArray} {ret : Option FieldType} {hh : List (Nat × Nat × Nat × Nat)} {Ts ws ws' : List Cond} {rm : Room} (n : Nat) (ht : ∀ w ∈ Ts, w.before args s = true) (hT : GoodIn Ts (va_wsS own index y ws)) (hw : ws = Cond.codeWith y bytes maxL ret hh :: ws') (hrc : rm.cells = mc) (hrs : rm.slots = ms)
    (hd : y.cls ≠ "java/lang/invoke/MethodHandle" ∧ y.cls ≠ "java/lang/invoke/VarHandle" ∧ (parseMethodDescriptor y.desc).map (fun d => d.parameters.length) = some n) (hR : rm.frames + 1 ≤ R.frames ∧ 8 + (maxL + 11) + rm.locals ≤ R.locals) :
    vx_CSW R s args own index y bytes maxL ret hh ws rm mc ms n := by
  have ok : ∀ w ∈ va_wsS own index y ws, w.before args s = true := fun w h => ht w (hT w h).1
  have hG : GoodIn Ts ws := fun w h => hT w (by unfold va_wsS; exact List.mem_append_right _ h)
  have hc : Cond.codeWith y bytes maxL ret hh ∈ ws := by rw [hw]; exact List.mem_cons_self
  refine ⟨⟨hrc, hrs, hR.1, hR.2, pay_in ht hG, hc⟩, ht _ (hG _ hc).1, ok _ (by simp [va_wsS]), ⟨hd.1, hd.2.1⟩, fun sig h => ?_, ok _ (by simp [va_wsS]), ok _ (by simp [va_wsS])⟩
  have h2 := hd.2.2
  rw [h] at h2
  exact (Option.some.inj h2).symm
theorem vx_callSW (X : Stand p l e R s m args below meth c T locs cells slots) (hexec : p.tables.exec = Jvm.exec) {own : String} {index : Nat} {y : MethodName} {bytes : ByteArray} {maxL : Nat} {ret : Option FieldType} {hh : List (Nat × Nat × Nat × Nat)}
    (hown : s.vm.findClass own = some m.cls) (hlink : (Cond.methodLink own index y).before args s = true) (hstat : (Cond.static y).before args s = true) (hinit : (Cond.initialized y.cls).before args s = true)
    (hcode : (Cond.codeWith y bytes maxL ret hh).before args s = true) (hy : y.cls ≠ "java/lang/invoke/MethodHandle" ∧ y.cls ≠ "java/lang/invoke/VarHandle")
    {W9 : Nat} {Pre : Pt → Array Value → Prop} {Post : Pt → Array Value → Option Value → Pt → Prop} (hK : Back l R p e below s args y 3 W9 Pre Post)
    {g : JFrame} (hg : g.method = m) (hsize : g.locals.size = c.maxLocals) {argsL rest : List Value} (hlen : ∀ sig, parseMethodDescriptor y.desc = some sig → argsL.length = sig.parameters.length)
    (hstack : g.stack = argsL.reverse ++ rest) (hW : 2 * g.monitorRoom + (rest.map fun v => v.category).sum ≤ W9) (hdg : decode c.code g.pc = .ok (.invokestatic index, 3))
    (hpre : ∀ vm₁, s.WarmedH vm₁ → Pre ⟨T.setVm vm₁, locs, cells, slots⟩ argsL.toArray) :
    ∃ (v : Option Value) (vm₁ : Vm) (B : Pt), s.WarmedH vm₁ ∧ Stand p l e R s m args below meth c B.U B.locs B.cells B.slots ∧ Post ⟨T.setVm vm₁, locs, cells, slots⟩ argsL.toArray v B ∧
      ∀ target, Steps p.tables e below (B.U.setTop { g with pc := g.pc + 3, stack := v.toList ++ rest }) target → Steps p.tables e below (T.setTop g) target := by
  obtain ⟨mk, methM, cM, hnamed, hmethM, -, -, -, -, -, -, hsigM⟩ := Cond.codeWith_spec hcode
  have hstatic : methM.isStatic = true := Cond.static_spec hnamed hmethM hstat
  obtain ⟨kP, hkP, -⟩ := className_of_methodNamed hnamed
  have hinitP : kP.init = .initialized := Cond.initialized_spec (findClass_of_methodNamed hnamed) hkP hinit
  obtain ⟨vm₁, X₁, hstep₁⟩ := X.invokestatic hexec hown hlink hnamed hmethM hstatic hkP hinitP hy (g := g) hg (argsL := argsL) (rest := rest) (hlen _ hsigM) hstack hdg
  obtain ⟨v, B, X', hpost, hsteps⟩ := hK m meth c ⟨T.setVm vm₁, locs, cells, slots⟩ { g with stack := rest } (.invokestatic index) mk argsL.toArray X₁ hg hsize hdg hW (X₁.named hnamed) (hpre vm₁ X₁.warmed)
  exact ⟨v, vm₁, B, X₁.warmed, X', hpost, fun target h => hstep₁ _ fun acts => by rw [doInvoke_state]; exact hsteps.trans h⟩
theorem vx_runSW {y : MethodName} {bytes cc : ByteArray} {maxL nL mc ms n index : Nat} {ret : Option FieldType} {hh : List (Nat × Nat × Nat × Nat)} {ws : List Cond} {rm : Room} {Pc : Array Value → State → Prop} {Qc : Array Value → State → Outcome → State → Prop} {free : Addr → Prop} {Ts : List Cond} {own : String} {As rest : List Value} {g : JFrame}
    (S : CallFix p m c cc nL s args Ts own) (hM : Met l y ws rm Pc Qc mc ms free) (cw : vx_CSW R s args own index y bytes maxL ret hh ws rm mc ms n) (hp : PreS s H Pc As)
    (hg : g.method = m) (hn : As.length = n) (hsize : g.locals.size = nL) (hstack : g.stack = As.reverse ++ rest) (hW : 2 * g.monitorRoom + (rest.map fun v => v.category).sum ≤ 8) (hdg : decode cc g.pc = .ok (.invokestatic index, 3)) (hf : cells + mc ≤ R.cells ∧ slots + ms ≤ R.slots) :
    va_Run p l e R s m args below meth c H locs cells slots mc ms g rest (Qc As.toArray) (free) := by
  obtain ⟨⟨hrc, hrs, hfr, hlo, hws, hcw⟩, hcode, hini, hy, hlen, hl, hstt⟩ := cw
  have hK : Back l R p e below s args y 3 8 (PreOf R mc ms Pc) (PostOf Qc mc ms free) := va_backW (hh := hh) (bytes := bytes) (maxL := maxL) (ret := ret) hM hp.1 hrc hrs hfr hlo hws hcw (fun a' U hW => word_at hW (Or.inl (by first | rfl | simp [Cond.onTables, Cond.keeps, Cond.steady])) hini)
  obtain ⟨hx, hb, hml, ho, -⟩ := S
  intro T hT X
  obtain ⟨v, vm₁, ⟨U', l2, c2, s2⟩, hW₁, X', ⟨g', mk, t, L, e1, e2, hq, h1, hL, h2, h3⟩, st⟩ := vx_callSW X hx (hh := hh) (bytes := bytes) (maxL := maxL) (ret := ret) ho hl hstt hini hcode hy hK hg (hsize.trans hml.symm) (argsL := As) (rest := rest) (fun sig h => hn.trans (hlen sig h)) hstack hW (by rw [hb]; exact hdg)
    (fun vm₁ hW₁ => ⟨hf.1, hf.2, hp.2 (T.setVm vm₁) hT hW₁⟩)
  dsimp only [Pt.U, Pt.locs, Pt.cells, Pt.slots] at X' e1 e2 h1 h2 h3 st
  subst h1; subst h2; subst h3
  exact ⟨v, (T.setVm vm₁).calling g' mk As.toArray, t, U', L, hT, X', hL, e1, e2, hq, st⟩
/-- not caught here, past rows that name other classes: it goes on to the caller -/
theorem vx_outP {p : Program} {l : Launch} {e : Env} {R : Room} {s : State} {m : MethodId} {args : Array Value} {below : List Frame} {meth : Method} {c : Code} {H : Heap} {locs : List Loc} {cells slots : Nat} {free : Addr → Prop} {ls : Array Slot} {rest : List Value} {Qc : Array Value → State → Outcome → State → Prop} {XC : String → State → State → Prop}
    {pc : Nat} {own E : String} {ce : Cell} {q : Addr} {mc ms : Nat} (hown : s.vm.findClass own = some m.cls) (hlocks : meth.locks = false)
    (hpass : ∀ z ∈ c.exceptionTable.toList, covers z pc = false ∨ (z.catchType ≠ 0 ∧ ∃ nm : String, (Cond.classLink own z.catchType nm).before args s = true ∧ va_Nc E nm s)) (hcell : H[q]? = some ce) (hv : ce.vm = .none) (hcl : s.vm.findClass E = some ce.cls)
    (hx : ∀ t : State, t.heap = H → s.vm.Alike t.vm → XC E s t) (hf : ∀ z ∈ locs, free z.base) (hc : cells ≤ mc) (hs : slots ≤ ms) :
    vx_W p l e R s m args below meth c H locs cells slots (vx_MQ below Qc XC args s mc ms free) (F0 m pc ls rest) q := by
  intro T hT X
  have hpl : e.platform.magicAccessors = ({} : Platform).magicAccessors := by rw [X.admits.platform]
  obtain ⟨vm', hW', X', st⟩ := Stand.outThrough X hlocks q (g := F0 m pc ls rest) rfl rfl rfl (cell := ce) (by rw [hT]; exact hcell) (by rw [hv]; rfl)
    (by obtain ⟨k9, h9, -⟩ := Vm.findClass_spec hcl; exact ⟨k9, h9⟩) (fun z hz => by
      rcases hpass z hz with h | ⟨hz0, nm, hl1, hn1⟩
      · exact Or.inl h
      · obtain ⟨c6, hc6, hcl6⟩ := Cond.classLink_spec hown hl1 e.platform hpl
        obtain ⟨a8, b8, h1, h2, h3⟩ := hn1
        cases Option.some.inj (h1.symm.trans hcl)
        cases Option.some.inj (h2.symm.trans hc6)
        exact Or.inr ⟨hz0, _, hcl6, h3⟩)
  obtain ⟨g₀, hfr⟩ := X'.frames_eq
  have hcell9 : ((T.setVm vm').setFrames (.throwing q :: below)).heap[q]? = some ce := by
    show T.heap[q]? = some ce
    rw [hT]; exact hcell
  have hend : Ended ((T.setVm vm').setFrames (.throwing q :: below)) below (.threw q) := State.frames_setFrames _ (State.cur_lt_of_frames hfr)
  refine ⟨(T.setVm vm').setFrames (.throwing q :: below), ?_, .threw q, X'.here.running, hend, Or.inr ⟨q, rfl, E, ce, locs, hx _ hT (X'.ends _).1.alike, hcell9, hv, hcl, (X'.ends _).1, (X'.ends _).2.mono hc hs, hf⟩⟩
  rw [X.pushThrowing_eq]
  exact st
end VXS
/-! ===== END ===== -/
/-! ===== BEGIN methods with a table of their own: called by a name, returning or throwing ===== -/
section VXH
/-! vx_backW, vx_callVX, vx_callSX, vx_callVW, vx_runVW, vx_runVX, vx_runSX, vx_ofWH follow the same proofs as their sisters above (Free/Laws.lean, Shelf42/LK1.lean); vx_outP calls Shelf42/NT130.lean (outThrough). -/
section
variable {l : Launch} {R : Room} {p : Program} {e : Env} {below : List Frame} {s : State} {sargs : Array Value} {y : MethodName} {len W9 : Nat}
theorem vx_backW {ws : List Cond} {rm : Room} {Pc : Array Value → State → Prop} {Qc : Array Value → State → Outcome → State → Prop} {XC : String → State → State → Prop} {mc ms : Nat} {free : Addr → Prop} {bytes : ByteArray} {maxL : Nat} {ret : Option FieldType} {hh : List (Nat × Nat × Nat × Nat)}
    (hM : vx_Met l y ws rm Pc Qc XC mc ms free) (hblind : FrameBlind Pc) (hrc : rm.cells = mc) (hrs : rm.slots = ms)
    (hframes : rm.frames + 1 ≤ R.frames) (hlocals : W9 + (maxL + 11) + rm.locals ≤ R.locals)
    (hws : ∀ w ∈ ws, ∀ a' U, s.WarmedH U.vm → w.before a' U = true) (hcode : Cond.codeWith y bytes maxL ret hh ∈ ws) (hinit : ∀ a' U, s.WarmedH U.vm → (Cond.initialized y.cls).before a' U = true) :
    vx_Back l R p e below s sargs y len W9 (PreOf R mc ms Pc) (PostOf Qc mc ms free) (vx_Post XC mc ms free) := by
  intro m meth c A g ig mk a X hg hsize hdg hW hn hp
  have h1 : (headSpec ws rm).pre.before a A.U = true := atoms_intro fun w hw => hws w hw _ _ X.warmed
  have h2 : (Cond.codeWith y bytes maxL ret hh).before a A.U = true := hws _ hcode _ _ X.warmed
  have h3 : (Cond.initialized y.cls).before a A.U = true := hinit _ _ X.warmed
  have h4 : A.cells + (headSpec ws rm).room.cells ≤ R.cells := by rw [show (headSpec ws rm).room.cells = mc from hrc]; exact hp.1
  have h5 : A.slots + (headSpec ws rm).room.slots ≤ R.slots := by rw [show (headSpec ws rm).room.slots = ms from hrs]; exact hp.2.1
  have hPc : Pc a (A.U.calling g mk a) := hblind _ _ _ _ hp.2.2
  obtain ⟨U, Ls, c0, s0⟩ := A
  dsimp only [Pt.U, Pt.locs, Pt.cells, Pt.slots] at h1 h2 h3 h4 h5 X hn hPc ⊢
  obtain ⟨m9, methY, cY, hn9, hmY, hcY, -, hlY, -⟩ := Cond.codeWith_spec h2
  cases Option.some.inj (hn9.symm.trans hn)
  obtain ⟨kY, hkY, -⟩ := className_of_methodNamed hn
  have hinitY : kY.init = .initialized := Cond.initialized_spec (findClass_of_methodNamed hn) hkY h3
  have h : At U g.method c below := by rw [hg]; exact X.here
  have hlocals9 : W9 + (maxL + 11) + (headSpec ws rm).room.locals ≤ R.locals := hlocals
  have happ : (headSpec ws rm).appliesLoose y e.platform (U.calling g mk a) = true :=
    Spec.appliesLoose_calling (g := g) h hdg hn hkY hinitY
      (X.room_calling (g := g) (R' := (headSpec ws rm).room) hsize hmY hcY hframes (by rw [hlY]; omega) h4 h5) h1
  obtain ⟨mid, hmid⟩ := h.above
  have hfr : (U.setTop g).frames = (.java g :: mid) ++ below := by rw [State.frames_setTop' g h.top, hmid]; rfl
  obtain ⟨o, s₂, hsteps, -, hend, hq⟩ := Steps.callFree hM p X.admits X.cas X.clock (acts := []) hfr happ hPc trivial
  have hq' : vx_Q Qc XC mc ms free a (U.calling g mk a) o s₂ := hq
  rw [State.frames_setTop' g h.top] at hend
  obtain ⟨g₀, hg0⟩ := Option.isSome_iff_exists.mp h.top
  obtain ⟨r, hr⟩ := State.topJava?_eq_some.mp hg0
  have hr' : (({ U with heap := s₂.heap, slotsUsed := s₂.slotsUsed } : State).setVm s₂.vm).frames = .java g₀ :: r := hr
  rcases hq' with ⟨hqc, L, hfe, hL⟩ | ⟨q, rfl, E, ce, L, hx, hce, hcv, hcl, hW₂, hsm, hL⟩
  · obtain ⟨⟨v, rfl⟩, hW₂, e2, q2, q3, q4, q5, q6⟩ := id hfe
    have e3 : s₂ = ({ (U.calling g mk a).setFrames s₂.frames with heap := s₂.heap, slotsUsed := s₂.slotsUsed } : State).setVm s₂.vm := by
      have : s₂ = ({ s₂ with vm := (U.calling g mk a).vm } : State).setVm s₂.vm := rfl
      rw [e2] at this
      exact this
    obtain ⟨c₂, i₂, len₂, hc₂, hd₂, hf₂⟩ := hend
    have hW' : U.WarmedH s₂.vm := hW₂
    have hcc : c₂ = c := by
      have h1 : s₂.code? g.method = U.code? g.method := by
        rw [State.code?_eq, State.code?_eq, hW'.alike.method?]
      exact Option.some.inj (hc₂.symm.trans (h1.trans h.code))
    subst hcc
    have hlen : len₂ = len := by rw [hdg] at hd₂; cases hd₂; rfl
    subst hlen
    have hs₂ : s₂ = (({ U with heap := s₂.heap, slotsUsed := s₂.slotsUsed } : State).setVm s₂.vm).setTop { g with pc := g.pc + len₂, stack := v.toList ++ g.stack } := by
      refine e3.trans ?_
      rw [hf₂, State.calling_eq h.top, State.setFrames_setFrames, State.setTop_of_frames _ hr', hr]
      rfl
    have hsame : U.sameButNew ({ U with heap := s₂.heap, slotsUsed := s₂.slotsUsed } : State) L mc ms := by
      refine ⟨?_, q2, q3, q4, q5, q6⟩
      obtain ⟨t, ht, -⟩ := State.frames_cons hr
      show ({ U with heap := s₂.heap, slotsUsed := s₂.slotsUsed } : State) = { U.setFrames U.frames with heap := s₂.heap, slotsUsed := s₂.slotsUsed }
      rw [State.setFrames_self ht]
    subst hg
    refine Or.inl ⟨v, ⟨(({ U with heap := s₂.heap, slotsUsed := s₂.slotsUsed } : State).setVm s₂.vm), Ls ++ L, c0 + mc, s0 + ms⟩,
      ⟨X.admits, X.cas, X.clock, X.frames, X.room, X.hears, X.method, X.code, (X.here.setHeapUsed s₂.heap s₂.slotsUsed).setVm hW'.alike, X.tail, State.WarmedH.trans X.warmed hW', X.limits, X.bytes, X.same.trans (hsame.setVm s.vm)⟩,
      ⟨g, mk, s₂, L, rfl, rfl, hqc, rfl, hL, rfl, rfl⟩, ?_⟩
    show Steps p.tables e below _ ((({ U with heap := s₂.heap, slotsUsed := s₂.slotsUsed } : State).setVm s₂.vm).setTop { g with pc := g.pc + len₂, stack := v.toList ++ g.stack })
    rw [← hs₂]
    exact hsteps
  · obtain ⟨e2, q2, q3, q4, q5, q6⟩ := id hsm
    have e3 : s₂ = ({ (U.calling g mk a).setFrames s₂.frames with heap := s₂.heap, slotsUsed := s₂.slotsUsed } : State).setVm s₂.vm := by
      have : s₂ = ({ s₂ with vm := (U.calling g mk a).vm } : State).setVm s₂.vm := rfl
      rw [e2] at this
      exact this
    have hf₂ : s₂.frames = .throwing q :: .java g :: U.frames.tail := hend
    have hW' : U.WarmedH s₂.vm := hW₂
    have hs₂ : s₂ = ((({ U with heap := s₂.heap, slotsUsed := s₂.slotsUsed } : State).setVm s₂.vm).setTop g).pushFrame (.throwing q) := by
      refine e3.trans ?_
      rw [hf₂, State.calling_eq h.top, State.setFrames_setFrames, State.pushFrame, State.frames_setTop _ hr', State.setTop_of_frames _ hr', State.setFrames_setFrames, hr]
      rfl
    have hsame : U.sameButNew ({ U with heap := s₂.heap, slotsUsed := s₂.slotsUsed } : State) L mc ms := by
      refine ⟨?_, q2, q3, q4, q5, q6⟩
      obtain ⟨t, ht, -⟩ := State.frames_cons hr
      show ({ U with heap := s₂.heap, slotsUsed := s₂.slotsUsed } : State) = { U.setFrames U.frames with heap := s₂.heap, slotsUsed := s₂.slotsUsed }
      rw [State.setFrames_self ht]
    subst hg
    refine Or.inr ⟨q, ⟨(({ U with heap := s₂.heap, slotsUsed := s₂.slotsUsed } : State).setVm s₂.vm), Ls ++ L, c0 + mc, s0 + ms⟩,
      ⟨X.admits, X.cas, X.clock, X.frames, X.room, X.hears, X.method, X.code, (X.here.setHeapUsed s₂.heap s₂.slotsUsed).setVm hW'.alike, X.tail, State.WarmedH.trans X.warmed hW', X.limits, X.bytes, X.same.trans (hsame.setVm s.vm)⟩,
      ⟨g, mk, s₂, L, E, ce, rfl, rfl, hx, hce, hcv, hcl, rfl, hL, rfl, rfl⟩, ?_⟩
    show Steps p.tables e below _ (((({ U with heap := s₂.heap, slotsUsed := s₂.slotsUsed } : State).setVm s₂.vm).setTop g).pushFrame (.throwing q))
    rw [← hs₂]
    exact hsteps
end
variable {p : Program} {l : Launch} {e : Env} {R : Room} {s : State} {m : MethodId} {args : Array Value} {below : List Frame} {meth : Method} {c : Code} {T : State} {H : Heap} {locs : List Loc} {cells slots : Nat}
theorem vx_callVX (X : Stand p l e R s m args below meth c T locs cells slots) (hexec : p.tables.exec = Jvm.exec) {own C : String} {index : Nat} {y : MethodName} {bytes : ByteArray} {maxL : Nat} {ret : Option FieldType} {hh : List (Nat × Nat × Nat × Nat)}
    (hown : s.vm.findClass own = some m.cls) (hlink : (Cond.methodLink own index y).before args s = true) (hinst : (Cond.instanceMethod y).before args s = true) (hsel : (Cond.selects C y y).before args s = true)
    (hcode : (Cond.codeWith y bytes maxL ret hh).before args s = true) (hy : y.cls ≠ "java/lang/invoke/MethodHandle" ∧ y.cls ≠ "java/lang/invoke/VarHandle")
    {W9 : Nat} {Pre : Pt → Array Value → Prop} {Post : Pt → Array Value → Option Value → Pt → Prop} {PostX : Pt → Array Value → Addr → Pt → Prop} (hK : vx_Back l R p e below s args y 3 W9 Pre Post PostX)
    {b : Addr} {cellB : Cell} (hcell : T.heap[b]? = some cellB) (hobj : cellB.vm.isStatics = false) (hcls : s.vm.findClass C = some cellB.cls)
    {g : JFrame} (hg : g.method = m) (hsize : g.locals.size = c.maxLocals) {argsL rest : List Value} (hlen : ∀ sig, parseMethodDescriptor y.desc = some sig → argsL.length = sig.parameters.length)
    (hstack : g.stack = argsL.reverse ++ .ref b :: rest) (hW : 2 * g.monitorRoom + (rest.map fun v => v.category).sum ≤ W9) (hdg : decode c.code g.pc = .ok (.invokevirtual index, 3))
    (hpre : ∀ vm₁, s.WarmedH vm₁ → Pre ⟨T.setVm vm₁, locs, cells, slots⟩ (Value.ref b :: argsL).toArray) :
    (∃ (v : Option Value) (vm₁ : Vm) (B : Pt), s.WarmedH vm₁ ∧ Stand p l e R s m args below meth c B.U B.locs B.cells B.slots ∧ Post ⟨T.setVm vm₁, locs, cells, slots⟩ (Value.ref b :: argsL).toArray v B ∧
      ∀ target, Steps p.tables e below (B.U.setTop { g with pc := g.pc + 3, stack := v.toList ++ rest }) target → Steps p.tables e below (T.setTop g) target) ∨
    (∃ (q : Addr) (vm₁ : Vm) (B : Pt), s.WarmedH vm₁ ∧ Stand p l e R s m args below meth c B.U B.locs B.cells B.slots ∧ PostX ⟨T.setVm vm₁, locs, cells, slots⟩ (Value.ref b :: argsL).toArray q B ∧
      Steps p.tables e below (T.setTop g) ((B.U.setTop { g with stack := rest }).pushFrame (.throwing q))) := by
  obtain ⟨mk, methM, hnamed, hmethM, hstM, habM⟩ := Cond.instanceMethod_spec hinst
  obtain ⟨m8, methM', cM, hn8, hmethM', -, -, -, -, -, -, hsigM⟩ := Cond.codeWith_spec hcode
  cases Option.some.inj (hn8.symm.trans hnamed)
  cases hmethM.symm.trans hmethM'
  obtain ⟨c2, r2, m2, q1, q2, q3, q4, kP, hkP, hkPi⟩ := Cond.selects_spec hsel
  cases hcls.symm.trans q1
  cases (State.methodFound?_of_named hnamed hy).symm.trans q2
  cases hnamed.symm.trans q3
  have hselP : selectMethod e.platform s.vm cellB.cls mk = .method mk := by rw [Launch.admits_selectMethod X.admits]; exact q4
  obtain ⟨vm₁, X₁, hstep₁⟩ := X.invokevirtual hexec hown hlink hnamed hmethM hstM hkP hkPi hy (a := b) (cell := cellB) hcell
    (fun z h => by rw [h] at hobj; cases hobj) hselP hmethM habM hkP hkPi (g := g) hg (argsL := argsL) (rest := rest) (hlen _ hsigM) hstack hdg
  rcases hK m meth c ⟨T.setVm vm₁, locs, cells, slots⟩ { g with stack := rest } (.invokevirtual index) mk (Value.ref b :: argsL).toArray X₁ hg hsize hdg hW (X₁.named hnamed) (hpre vm₁ X₁.warmed) with ⟨v, B, X', hpost, hsteps⟩ | ⟨q, B, X', hpost, hsteps⟩
  · exact Or.inl ⟨v, vm₁, B, X₁.warmed, X', hpost, fun target h => hstep₁ _ fun acts => by rw [doInvoke_state]; exact hsteps.trans h⟩
  · exact Or.inr ⟨q, vm₁, B, X₁.warmed, X', hpost, hstep₁ _ fun acts => by rw [doInvoke_state]; exact hsteps⟩
theorem vx_callSX (X : Stand p l e R s m args below meth c T locs cells slots) (hexec : p.tables.exec = Jvm.exec) {own : String} {index : Nat} {y : MethodName} {bytes : ByteArray} {maxL : Nat} {ret : Option FieldType} {hh : List (Nat × Nat × Nat × Nat)}
    (hown : s.vm.findClass own = some m.cls) (hlink : (Cond.methodLink own index y).before args s = true) (hstat : (Cond.static y).before args s = true) (hinit : (Cond.initialized y.cls).before args s = true)
    (hcode : (Cond.codeWith y bytes maxL ret hh).before args s = true) (hy : y.cls ≠ "java/lang/invoke/MethodHandle" ∧ y.cls ≠ "java/lang/invoke/VarHandle")
    {W9 : Nat} {Pre : Pt → Array Value → Prop} {Post : Pt → Array Value → Option Value → Pt → Prop} {PostX : Pt → Array Value → Addr → Pt → Prop} (hK : vx_Back l R p e below s args y 3 W9 Pre Post PostX)
    {g : JFrame} (hg : g.method = m) (hsize : g.locals.size = c.maxLocals) {argsL rest : List Value} (hlen : ∀ sig, parseMethodDescriptor y.desc = some sig → argsL.length = sig.parameters.length)
    (hstack : g.stack = argsL.reverse ++ rest) (hW : 2 * g.monitorRoom + (rest.map fun v => v.category).sum ≤ W9) (hdg : decode c.code g.pc = .ok (.invokestatic index, 3))
    (hpre : ∀ vm₁, s.WarmedH vm₁ → Pre ⟨T.setVm vm₁, locs, cells, slots⟩ argsL.toArray) :
    (∃ (v : Option Value) (vm₁ : Vm) (B : Pt), s.WarmedH vm₁ ∧ Stand p l e R s m args below meth c B.U B.locs B.cells B.slots ∧ Post ⟨T.setVm vm₁, locs, cells, slots⟩ argsL.toArray v B ∧
      ∀ target, Steps p.tables e below (B.U.setTop { g with pc := g.pc + 3, stack := v.toList ++ rest }) target → Steps p.tables e below (T.setTop g) target) ∨
    (∃ (q : Addr) (vm₁ : Vm) (B : Pt), s.WarmedH vm₁ ∧ Stand p l e R s m args below meth c B.U B.locs B.cells B.slots ∧ PostX ⟨T.setVm vm₁, locs, cells, slots⟩ argsL.toArray q B ∧
      Steps p.tables e below (T.setTop g) ((B.U.setTop { g with stack := rest }).pushFrame (.throwing q))) := by
  obtain ⟨mk, methM, cM, hnamed, hmethM, -, -, -, -, -, -, hsigM⟩ := Cond.codeWith_spec hcode
  have hstatic : methM.isStatic = true := Cond.static_spec hnamed hmethM hstat
  obtain ⟨kP, hkP, -⟩ := className_of_methodNamed hnamed
  have hinitP : kP.init = .initialized := Cond.initialized_spec (findClass_of_methodNamed hnamed) hkP hinit
  obtain ⟨vm₁, X₁, hstep₁⟩ := X.invokestatic hexec hown hlink hnamed hmethM hstatic hkP hinitP hy (g := g) hg (argsL := argsL) (rest := rest) (hlen _ hsigM) hstack hdg
  rcases hK m meth c ⟨T.setVm vm₁, locs, cells, slots⟩ { g with stack := rest } (.invokestatic index) mk argsL.toArray X₁ hg hsize hdg hW (X₁.named hnamed) (hpre vm₁ X₁.warmed) with ⟨v, B, X', hpost, hsteps⟩ | ⟨q, B, X', hpost, hsteps⟩
  · exact Or.inl ⟨v, vm₁, B, X₁.warmed, X', hpost, fun target h => hstep₁ _ fun acts => by rw [doInvoke_state]; exact hsteps.trans h⟩
  · exact Or.inr ⟨q, vm₁, B, X₁.warmed, X', hpost, hstep₁ _ fun acts => by rw [doInvoke_state]; exact hsteps⟩
theorem vx_callVW (X : Stand p l e R s m args below meth c T locs cells slots) (hexec : p.tables.exec = Jvm.exec) {own C : String} {index : Nat} {y : MethodName} {bytes : ByteArray} {maxL : Nat} {ret : Option FieldType} {hh : List (Nat × Nat × Nat × Nat)}
    (hown : s.vm.findClass own = some m.cls) (hlink : (Cond.methodLink own index y).before args s = true) (hinst : (Cond.instanceMethod y).before args s = true) (hsel : (Cond.selects C y y).before args s = true)
    (hcode : (Cond.codeWith y bytes maxL ret hh).before args s = true) (hy : y.cls ≠ "java/lang/invoke/MethodHandle" ∧ y.cls ≠ "java/lang/invoke/VarHandle")
    {W9 : Nat} {Pre : Pt → Array Value → Prop} {Post : Pt → Array Value → Option Value → Pt → Prop} (hK : Back l R p e below s args y 3 W9 Pre Post)
    {b : Addr} {cellB : Cell} (hcell : T.heap[b]? = some cellB) (hobj : cellB.vm.isStatics = false) (hcls : s.vm.findClass C = some cellB.cls)
    {g : JFrame} (hg : g.method = m) (hsize : g.locals.size = c.maxLocals) {argsL rest : List Value} (hlen : ∀ sig, parseMethodDescriptor y.desc = some sig → argsL.length = sig.parameters.length)
    (hstack : g.stack = argsL.reverse ++ .ref b :: rest) (hW : 2 * g.monitorRoom + (rest.map fun v => v.category).sum ≤ W9) (hdg : decode c.code g.pc = .ok (.invokevirtual index, 3))
    (hpre : ∀ vm₁, s.WarmedH vm₁ → Pre ⟨T.setVm vm₁, locs, cells, slots⟩ (Value.ref b :: argsL).toArray) :
    ∃ (v : Option Value) (vm₁ : Vm) (B : Pt), s.WarmedH vm₁ ∧ Stand p l e R s m args below meth c B.U B.locs B.cells B.slots ∧ Post ⟨T.setVm vm₁, locs, cells, slots⟩ (Value.ref b :: argsL).toArray v B ∧
      ∀ target, Steps p.tables e below (B.U.setTop { g with pc := g.pc + 3, stack := v.toList ++ rest }) target → Steps p.tables e below (T.setTop g) target := by
  obtain ⟨mk, methM, hnamed, hmethM, hstM, habM⟩ := Cond.instanceMethod_spec hinst
  obtain ⟨m8, methM', cM, hn8, hmethM', -, -, -, -, -, -, hsigM⟩ := Cond.codeWith_spec hcode
  cases Option.some.inj (hn8.symm.trans hnamed)
  cases hmethM.symm.trans hmethM'
  obtain ⟨c2, r2, m2, q1, q2, q3, q4, kP, hkP, hkPi⟩ := Cond.selects_spec hsel
  cases hcls.symm.trans q1
  cases (State.methodFound?_of_named hnamed hy).symm.trans q2
  cases hnamed.symm.trans q3
  have hselP : selectMethod e.platform s.vm cellB.cls mk = .method mk := by rw [Launch.admits_selectMethod X.admits]; exact q4
  obtain ⟨vm₁, X₁, hstep₁⟩ := X.invokevirtual hexec hown hlink hnamed hmethM hstM hkP hkPi hy (a := b) (cell := cellB) hcell
    (fun z h => by rw [h] at hobj; cases hobj) hselP hmethM habM hkP hkPi (g := g) hg (argsL := argsL) (rest := rest) (hlen _ hsigM) hstack hdg
  obtain ⟨v, B, X', hpost, hsteps⟩ := hK m meth c ⟨T.setVm vm₁, locs, cells, slots⟩ { g with stack := rest } (.invokevirtual index) mk (Value.ref b :: argsL).toArray X₁ hg hsize hdg hW (X₁.named hnamed) (hpre vm₁ X₁.warmed)
  exact ⟨v, vm₁, B, X₁.warmed, X', hpost, fun target h => hstep₁ _ fun acts => by rw [doInvoke_state]; exact hsteps.trans h⟩
abbrev vx_CVW (R : Room) (s : State) (args : Array Value) (own C : String) (index : Nat) (y : MethodName) (bytes : ByteArray) (maxL : Nat) (ret : Option FieldType) (hh : List (Nat × Nat × Nat × Nat)) (ws : List Cond) (rm : Room) (mc ms n : Nat) : Prop :=
  (rm.cells = mc ∧ rm.slots = ms ∧ rm.frames + 1 ≤ R.frames ∧ 8 + (maxL + 11) + rm.locals ≤ R.locals ∧ (∀ w ∈ ws, ∀ (a' : Array Value) (U : State), s.WarmedH U.vm → w.before a' U = true) ∧ Cond.codeWith y bytes maxL ret hh ∈ ws) ∧
  (Cond.codeWith y bytes maxL ret hh).before args s = true ∧ (Cond.initialized y.cls).before args s = true ∧ (y.cls ≠ "java/lang/invoke/MethodHandle" ∧ y.cls ≠ "java/lang/invoke/VarHandle") ∧
  (∀ sig, parseMethodDescriptor y.desc = some sig → n = sig.parameters.length) ∧ (Cond.methodLink own index y).before args s = true ∧ (Cond.instanceMethod y).before args s = true ∧ (Cond.selects C y y).before args s = true
theorem vx_runVW {y : MethodName} {bytes cc : ByteArray} {maxL nL mc ms n index : Nat} {ret : Option FieldType} {hh : List (Nat × Nat × Nat × Nat)} {ws : List Cond} {rm : Room} {Pc : Array Value → State → Prop} {Qc : Array Value → State → Outcome → State → Prop} {free : Addr → Prop} {Ts : List Cond} {own C : String} {b : Addr} {As rest : List Value} {g : JFrame}
    (S : CallFix p m c cc nL s args Ts own) (hM : Met l y ws rm Pc Qc mc ms free) (cw : vx_CVW R s args own C index y bytes maxL ret hh ws rm mc ms n) (hp : PreV s H C b Pc As)
    (hg : g.method = m) (hn : As.length = n) (hsize : g.locals.size = nL) (hstack : g.stack = As.reverse ++ .ref b :: rest) (hW : 2 * g.monitorRoom + (rest.map fun v => v.category).sum ≤ 8) (hdg : decode cc g.pc = .ok (.invokevirtual index, 3)) (hf : cells + mc ≤ R.cells ∧ slots + ms ≤ R.slots) :
    va_Run p l e R s m args below meth c H locs cells slots mc ms g rest (Qc (Value.ref b :: As).toArray) free := by
  obtain ⟨⟨hrc, hrs, hfr, hlo, hws, hcw⟩, hcode, hini, hy, hlen, hl, hin, hse⟩ := cw
  have hK : Back l R p e below s args y 3 8 (PreOf R mc ms Pc) (PostOf Qc mc ms free) := va_backW (hh := hh) (bytes := bytes) (maxL := maxL) (ret := ret) hM hp.1 hrc hrs hfr hlo hws hcw (fun a' U hW => word_at hW (Or.inl (by first | rfl | simp [Cond.onTables, Cond.keeps, Cond.steady])) hini)
  obtain ⟨hx, hb, hml, ho, -⟩ := S
  obtain ⟨-, ⟨cellB, hcB, hoB, hclB⟩, hPc⟩ := hp
  intro T hT X
  obtain ⟨v, vm₁, ⟨U', l2, c2, s2⟩, hW₁, X', ⟨g', mk, t, L, e1, e2, hq, h1, hL, h2, h3⟩, st⟩ := vx_callVW X hx (C := C) (hh := hh) (bytes := bytes) (maxL := maxL) (ret := ret) ho hl hin hse hcode hy hK (by rw [hT]; exact hcB) hoB hclB hg (hsize.trans hml.symm) (argsL := As) (rest := rest) (fun sig h => hn.trans (hlen sig h)) hstack hW (by rw [hb]; exact hdg)
    (fun vm₁ hW₁ => ⟨hf.1, hf.2, hPc (T.setVm vm₁) hT hW₁⟩)
  dsimp only [Pt.U, Pt.locs, Pt.cells, Pt.slots] at X' e1 e2 h1 h2 h3 st
  subst h1; subst h2; subst h3
  exact ⟨v, (T.setVm vm₁).calling g' mk (Value.ref b :: As).toArray, t, U', L, hT, X', hL, e1, e2, hq, st⟩
section
variable {y : MethodName} {bytes cc : ByteArray} {maxL nL mc ms n index : Nat} {ret : Option FieldType} {ws : List Cond} {rm : Room} {Pc : Array Value → State → Prop} {Qc : Array Value → State → Outcome → State → Prop} {XC : String → State → State → Prop} {free : Addr → Prop} {Ts : List Cond} {own C : String} {b : Addr} {As rest : List Value} {g : JFrame}
theorem vx_runVX {hh : List (Nat × Nat × Nat × Nat)} (S : CallFix p m c cc nL s args Ts own) (hM : vx_Met l y ws rm Pc Qc XC mc ms free) (cw : vx_CVW R s args own C index y bytes maxL ret hh ws rm mc ms n) (hp : PreV s H C b Pc As)
    (hg : g.method = m) (hn : As.length = n) (hsize : g.locals.size = nL) (hstack : g.stack = As.reverse ++ .ref b :: rest) (hW : 2 * g.monitorRoom + (rest.map fun v => v.category).sum ≤ 8) (hdg : decode cc g.pc = .ok (.invokevirtual index, 3)) (hf : cells + mc ≤ R.cells ∧ slots + ms ≤ R.slots) :
    vx_Run p l e R s m args below meth c H locs cells slots mc ms g rest (Qc (Value.ref b :: As).toArray) XC free := by
  obtain ⟨⟨hrc, hrs, hfr, hlo, hws, hcw⟩, hcode, hini, hy, hlen, hl, hin, hse⟩ := cw
  have hK : vx_Back l R p e below s args y 3 8 (PreOf R mc ms Pc) (PostOf Qc mc ms free) (vx_Post XC mc ms free) := vx_backW (hh := hh) (bytes := bytes) (maxL := maxL) (ret := ret) hM hp.1 hrc hrs hfr hlo hws hcw (fun a' U hW => word_at hW (Or.inl (by first | rfl | simp [Cond.onTables, Cond.keeps, Cond.steady])) hini)
  obtain ⟨hx, hb, hml, ho, -⟩ := S
  obtain ⟨-, ⟨cellB, hcB, hoB, hclB⟩, hPc⟩ := hp
  intro T hT X
  rcases vx_callVX X hx (C := C) (hh := hh) (bytes := bytes) (maxL := maxL) (ret := ret) ho hl hin hse hcode hy hK (by rw [hT]; exact hcB) hoB hclB hg (hsize.trans hml.symm) (argsL := As) (rest := rest) (fun sig h => hn.trans (hlen sig h)) hstack hW (by rw [hb]; exact hdg)
    (fun vm₁ hW₁ => ⟨hf.1, hf.2, hPc (T.setVm vm₁) hT hW₁⟩) with ⟨v, vm₁, ⟨U', l2, c2, s2⟩, hW₁, X', ⟨g', mk, t, L, e1, e2, hq, h1, hL, h2, h3⟩, st⟩ | ⟨q, vm₁, ⟨U', l2, c2, s2⟩, hW₁, X', ⟨g', mk, t, L, E, ce, e1, e2, hq, hce, hcv, hcl, h1, hL, h2, h3⟩, st⟩
  · dsimp only [Pt.U, Pt.locs, Pt.cells, Pt.slots] at X' e1 e2 h1 h2 h3 st
    subst h1; subst h2; subst h3
    exact Or.inl ⟨v, (T.setVm vm₁).calling g' mk (Value.ref b :: As).toArray, t, U', L, hT, X', hL, e1, e2, hq, st⟩
  · dsimp only [Pt.U, Pt.locs, Pt.cells, Pt.slots] at X' e1 e2 h1 h2 h3 st hcl
    subst h1; subst h2; subst h3
    exact Or.inr ⟨q, (T.setVm vm₁).calling g' mk (Value.ref b :: As).toArray, t, U', L, E, ce, hT, X', hL, e1, e2, hq, hce, hcv, vx_cls hW₁ hcl, st⟩
theorem vx_runSX {hh : List (Nat × Nat × Nat × Nat)} (S : CallFix p m c cc nL s args Ts own) (hM : vx_Met l y ws rm Pc Qc XC mc ms free) (cw : vx_CSW R s args own index y bytes maxL ret hh ws rm mc ms n) (hp : PreS s H Pc As)
    (hg : g.method = m) (hn : As.length = n) (hsize : g.locals.size = nL) (hstack : g.stack = As.reverse ++ rest) (hW : 2 * g.monitorRoom + (rest.map fun v => v.category).sum ≤ 8) (hdg : decode cc g.pc = .ok (.invokestatic index, 3)) (hf : cells + mc ≤ R.cells ∧ slots + ms ≤ R.slots) :
    vx_Run p l e R s m args below meth c H locs cells slots mc ms g rest (Qc As.toArray) XC free := by
  obtain ⟨⟨hrc, hrs, hfr, hlo, hws, hcw⟩, hcode, hini, hy, hlen, hl, hstt⟩ := cw
  have hK : vx_Back l R p e below s args y 3 8 (PreOf R mc ms Pc) (PostOf Qc mc ms free) (vx_Post XC mc ms free) := vx_backW (hh := hh) (bytes := bytes) (maxL := maxL) (ret := ret) hM hp.1 hrc hrs hfr hlo hws hcw (fun a' U hW => word_at hW (Or.inl (by first | rfl | simp [Cond.onTables, Cond.keeps, Cond.steady])) hini)
  obtain ⟨hx, hb, hml, ho, -⟩ := S
  intro T hT X
  rcases vx_callSX X hx (hh := hh) (bytes := bytes) (maxL := maxL) (ret := ret) ho hl hstt hini hcode hy hK hg (hsize.trans hml.symm) (argsL := As) (rest := rest) (fun sig h => hn.trans (hlen sig h)) hstack hW (by rw [hb]; exact hdg)
    (fun vm₁ hW₁ => ⟨hf.1, hf.2, hp.2 (T.setVm vm₁) hT hW₁⟩) with ⟨v, vm₁, ⟨U', l2, c2, s2⟩, hW₁, X', ⟨g', mk, t, L, e1, e2, hq, h1, hL, h2, h3⟩, st⟩ | ⟨q, vm₁, ⟨U', l2, c2, s2⟩, hW₁, X', ⟨g', mk, t, L, E, ce, e1, e2, hq, hce, hcv, hcl, h1, hL, h2, h3⟩, st⟩
  · dsimp only [Pt.U, Pt.locs, Pt.cells, Pt.slots] at X' e1 e2 h1 h2 h3 st
    subst h1; subst h2; subst h3
    exact Or.inl ⟨v, (T.setVm vm₁).calling g' mk As.toArray, t, U', L, hT, X', hL, e1, e2, hq, st⟩
  · dsimp only [Pt.U, Pt.locs, Pt.cells, Pt.slots] at X' e1 e2 h1 h2 h3 st hcl
    subst h1; subst h2; subst h3
    exact Or.inr ⟨q, (T.setVm vm₁).calling g' mk As.toArray, t, U', L, E, ce, hT, X', hL, e1, e2, hq, hce, hcv, vx_cls hW₁ hcl, st⟩
end
end VXH
theorem vx_ofWH {l : Launch} {y : MethodName} {ws ws' : List Cond} {rm : Room} {Pc : Array Value → State → Prop} {Qc : Array Value → State → Outcome → State → Prop} {XC : String → State → State → Prop} {mc ms : Nat} {free : Addr → Prop} {cc : ByteArray} {maxL : Nat} {ret : Option FieldType} {hh : List (Nat × Nat × Nat × Nat)}
    (hy : plainName y.cls = true) (hw : ws = Cond.codeWith y cc maxL ret hh :: ws')
    (body : ∀ p e s m args below meth c s₁, BodyLoose p l y (headSpec ws rm) cc maxL ret e s m args below meth c s₁ → c.maxLocals = maxL → Pc args s →
      W p l e (headSpec ws rm).room s m args below meth c s.heap [] 0 0 (vx_MQ below Qc XC args s mc ms free) (entryFrame m args maxL)) : vx_Met l y ws rm Pc Qc XC mc ms free := by
  refine MetFree.of_bodyS (code := cc) (maxLocals := maxL) (ret := ret) hy ?_ ?_
  · intro args s m h hn
    obtain ⟨m9, meth, c, hn9, h1, h2, h3, h4, -, h5, h6, -⟩ := Cond.codeWith_spec (atoms_spec (ws := ws) h _ (by rw [hw]; exact List.mem_cons_self))
    cases hn.symm.trans hn9
    exact ⟨meth, c, h1, h2, h3, h4, h5, h6⟩
  · intro p e s m args below meth c s₁ B hml hP _
    have hh0 : s₁.heap = s.heap := by rw [B.state]; rfl
    obtain ⟨t, a1, o, b1, b2, b3⟩ := body p e s m args below meth c s₁ B hml hP s₁ hh0 (Stand.of_body B)
    exact ⟨t, o, a1, b1, b2, b3⟩
/-! ===== END ===== -/
end
section
def RX0 : String := "GraphHouse$Colours"
def TX0 : u_T := fun k => match k with
  | 0 => ("GraphHouse$Colours", "cliqueFor", "I", false)
  | 1 => ("GraphHouse$Colours", "found", "I", false)
  | 2 => ("GraphHouse$Colours", "colourFor", "I", false)
  | 3 => ("GraphHouse$Colours", "limit", "I", false)
  | 4 => ("GraphHouse$Colours", "classes", "[I", true)
  | 5 => ("GraphHouse$Colours", "saved", "[I", true)
  | 6 => ("GraphHouse$Colours", "aside", "[I", true)
  | 7 => ("GraphHouse$Colours", "asideCount", "I", false)
  | _ => ("GraphHouse$Colours", "result", "[I", true)
def tyX0 : Nat → FieldType := fun k => match k with
  | 0 => .int
  | 1 => .int
  | 2 => .int
  | 3 => .int
  | 4 => .array .int
  | 5 => .array .int
  | 6 => .array .int
  | 7 => .int
  | _ => .array .int
theorem nmX0 : ∀ a, a < 9 → ∀ b, b < 9 → a ≠ b → (TX0 a).2.1 ≠ (TX0 b).2.1 := by decide +kernel
theorem tyX0_ok : ∀ k, k < 9 → parseFieldDescriptor (TX0 k).2.2.1 = some (tyX0 k) := by decide +kernel
abbrev cX0_init : ByteArray := prog_2_method_1_code
abbrev cX0_greatestClique : ByteArray := prog_2_method_2_code
abbrev cX0_growClique : ByteArray := prog_2_method_3_code
abbrev cX0_colourOf : ByteArray := prog_2_method_4_code
abbrev cX0_makeColours : ByteArray := prog_2_method_5_code
abbrev cX0_classOf : ByteArray := prog_2_method_6_code
abbrev cX0_fill : ByteArray := prog_2_method_7_code
abbrev cX0_fillPiece : ByteArray := prog_2_method_8_code
abbrev cX0_besides : ByteArray := prog_2_method_9_code
abbrev cX0_setAside : ByteArray := prog_2_method_10_code
abbrev cX0_takeBack : ByteArray := prog_2_method_11_code
abbrev cX0_freeColours : ByteArray := prog_2_method_12_code
abbrev cX0_tightest : ByteArray := prog_2_method_13_code
abbrev cX0_lessen : ByteArray := prog_2_method_14_code
abbrev cX0_canLower : ByteArray := prog_2_method_15_code
def RX1 : String := "GraphHouse$Engine"
def TX1 : u_T := fun k => match k with
  | 0 => ("GraphHouse$Engine", "code", "[I", true)
  | 1 => ("GraphHouse$Engine", "split", "I", false)
  | 2 => ("GraphHouse$Engine", "codeLength", "I", false)
  | 3 => ("GraphHouse$Engine", "draft", "[I", true)
  | 4 => ("GraphHouse$Engine", "draftLength", "I", false)
  | 5 => ("GraphHouse$Engine", "stack", "[J", true)
  | 6 => ("GraphHouse$Engine", "values", "[J", true)
  | 7 => ("GraphHouse$Engine", "states", "[J", true)
  | 8 => ("GraphHouse$Engine", "before", "[J", true)
  | 9 => ("GraphHouse$Engine", "nodes", "I", false)
  | 10 => ("GraphHouse$Engine", "sent", "I", false)
  | 11 => ("GraphHouse$Engine", "lost", "I", false)
  | _ => ("GraphHouse$Engine", "turns", "I", false)
def tyX1 : Nat → FieldType := fun k => match k with
  | 0 => .array .int
  | 1 => .int
  | 2 => .int
  | 3 => .array .int
  | 4 => .int
  | 5 => .array .long
  | 6 => .array .long
  | 7 => .array .long
  | 8 => .array .long
  | 9 => .int
  | 10 => .int
  | 11 => .int
  | _ => .int
theorem nmX1 : ∀ a, a < 13 → ∀ b, b < 13 → a ≠ b → (TX1 a).2.1 ≠ (TX1 b).2.1 := by decide +kernel
theorem tyX1_ok : ∀ k, k < 13 → parseFieldDescriptor (TX1 k).2.2.1 = some (tyX1 k) := by decide +kernel
abbrev cX1_init : ByteArray := prog_3_method_1_code
abbrev cX1_adopt : ByteArray := prog_3_method_2_code
abbrev cX1_emit : ByteArray := prog_3_method_3_code
abbrev cX1_readExpression : ByteArray := prog_3_method_4_code
abbrev cX1_readSum : ByteArray := prog_3_method_5_code
abbrev cX1_readProduct : ByteArray := prog_3_method_6_code
abbrev cX1_readFactor : ByteArray := prog_3_method_7_code
abbrev cX1_readAtom : ByteArray := prog_3_method_8_code
abbrev cX1_work : ByteArray := prog_3_method_9_code
abbrev cX1_doRound : ByteArray := prog_3_method_10_code
abbrev cX1_look : ByteArray := prog_3_method_11_code
abbrev cX1_compute : ByteArray := prog_3_method_12_code
abbrev cX1_combine : ByteArray := prog_3_method_13_code
abbrev cX1_times : ByteArray := prog_3_method_14_code
abbrev cX1_clip : ByteArray := prog_3_method_15_code
abbrev cX1_post : ByteArray := prog_3_method_16_code
abbrev cX1_lettersOf : ByteArray := prog_3_method_17_code
abbrev cX1_sendAll : ByteArray := prog_3_method_18_code
abbrev cX1_draw : ByteArray := prog_3_method_19_code
def RX2 : String := "GraphHouse$Flows"
def TX2 : u_T := fun k => match k with
  | 0 => ("GraphHouse$Flows", "flowFor", "I", false)
  | 1 => ("GraphHouse$Flows", "flowFrom", "I", false)
  | 2 => ("GraphHouse$Flows", "flowTo", "I", false)
  | 3 => ("GraphHouse$Flows", "value", "J", false)
  | 4 => ("GraphHouse$Flows", "sideMask", "I", false)
  | 5 => ("GraphHouse$Flows", "left", "[I", true)
  | 6 => ("GraphHouse$Flows", "open", "[I", true)
  | 7 => ("GraphHouse$Flows", "via", "[I", true)
  | 8 => ("GraphHouse$Flows", "pipes", "I", false)
  | 9 => ("GraphHouse$Flows", "tail", "[I", true)
  | 10 => ("GraphHouse$Flows", "head", "[I", true)
  | 11 => ("GraphHouse$Flows", "price", "[I", true)
  | 12 => ("GraphHouse$Flows", "limit", "[I", true)
  | 13 => ("GraphHouse$Flows", "filled", "[I", true)
  | 14 => ("GraphHouse$Flows", "excess", "[I", true)
  | 15 => ("GraphHouse$Flows", "far", "[J", true)
  | 16 => ("GraphHouse$Flows", "pairFor", "I", false)
  | 17 => ("GraphHouse$Flows", "pairs", "I", false)
  | _ => ("GraphHouse$Flows", "pairSum", "J", false)
def tyX2 : Nat → FieldType := fun k => match k with
  | 0 => .int
  | 1 => .int
  | 2 => .int
  | 3 => .long
  | 4 => .int
  | 5 => .array .int
  | 6 => .array .int
  | 7 => .array .int
  | 8 => .int
  | 9 => .array .int
  | 10 => .array .int
  | 11 => .array .int
  | 12 => .array .int
  | 13 => .array .int
  | 14 => .array .int
  | 15 => .array .long
  | 16 => .int
  | 17 => .int
  | _ => .long
theorem nmX2 : ∀ a, a < 19 → ∀ b, b < 19 → a ≠ b → (TX2 a).2.1 ≠ (TX2 b).2.1 := by decide +kernel
theorem tyX2_ok : ∀ k, k < 19 → parseFieldDescriptor (TX2 k).2.2.1 = some (tyX2 k) := by decide +kernel
abbrev cX2_init : ByteArray := prog_4_method_1_code
abbrev cX2_greatest : ByteArray := prog_4_method_2_code
abbrev cX2_openAll : ByteArray := prog_4_method_3_code
abbrev cX2_reach : ByteArray := prog_4_method_4_code
abbrev cX2_push : ByteArray := prog_4_method_5_code
abbrev cX2_cheapest : ByteArray := prog_4_method_6_code
abbrev cX2_layArcs : ByteArray := prog_4_method_7_code
abbrev cX2_turnEarners : ByteArray := prog_4_method_8_code
abbrev cX2_turn : ByteArray := prog_4_method_9_code
abbrev cX2_carryAll : ByteArray := prog_4_method_10_code
abbrev cX2_lay : ByteArray := prog_4_method_11_code
abbrev cX2_nearestLack : ByteArray := prog_4_method_12_code
abbrev cX2_relaxAll : ByteArray := prog_4_method_13_code
abbrev cX2_relaxPipe : ByteArray := prog_4_method_14_code
abbrev cX2_carryTo : ByteArray := prog_4_method_15_code
abbrev cX2_pair : ByteArray := prog_4_method_16_code
abbrev cX2_isLow : ByteArray := prog_4_method_17_code
def RX3 : String := "GraphHouse$Graph"
def TX3 : u_T := fun k => match k with
  | 0 => ("GraphHouse$Graph", "version", "I", false)
  | 1 => ("GraphHouse$Graph", "nodes", "I", false)
  | 2 => ("GraphHouse$Graph", "arcs", "I", false)
  | 3 => ("GraphHouse$Graph", "top", "I", false)
  | 4 => ("GraphHouse$Graph", "tied", "I", false)
  | 5 => ("GraphHouse$Graph", "labels", "[I", true)
  | 6 => ("GraphHouse$Graph", "from", "[I", true)
  | 7 => ("GraphHouse$Graph", "to", "[I", true)
  | 8 => ("GraphHouse$Graph", "weight", "[I", true)
  | 9 => ("GraphHouse$Graph", "room", "[I", true)
  | 10 => ("GraphHouse$Graph", "kind", "[I", true)
  | 11 => ("GraphHouse$Graph", "near", "[I", true)
  | 12 => ("GraphHouse$Graph", "out", "[I", true)
  | 13 => ("GraphHouse$Graph", "in", "[I", true)
  | 14 => ("GraphHouse$Graph", "outAt", "[I", true)
  | 15 => ("GraphHouse$Graph", "outs", "[I", true)
  | 16 => ("GraphHouse$Graph", "inAt", "[I", true)
  | _ => ("GraphHouse$Graph", "ins", "[I", true)
def tyX3 : Nat → FieldType := fun k => match k with
  | 0 => .int
  | 1 => .int
  | 2 => .int
  | 3 => .int
  | 4 => .int
  | 5 => .array .int
  | 6 => .array .int
  | 7 => .array .int
  | 8 => .array .int
  | 9 => .array .int
  | 10 => .array .int
  | 11 => .array .int
  | 12 => .array .int
  | 13 => .array .int
  | 14 => .array .int
  | 15 => .array .int
  | 16 => .array .int
  | _ => .array .int
theorem nmX3 : ∀ a, a < 18 → ∀ b, b < 18 → a ≠ b → (TX3 a).2.1 ≠ (TX3 b).2.1 := by decide +kernel
theorem tyX3_ok : ∀ k, k < 18 → parseFieldDescriptor (TX3 k).2.2.1 = some (tyX3 k) := by decide +kernel
abbrev cX3_init : ByteArray := prog_5_method_1_code
abbrev cX3_clear : ByteArray := prog_5_method_2_code
abbrev cX3_copyOf : ByteArray := prog_5_method_3_code
abbrev cX3_hasNode : ByteArray := prog_5_method_4_code
abbrev cX3_hasTwo : ByteArray := prog_5_method_5_code
abbrev cX3_hasArc : ByteArray := prog_5_method_6_code
abbrev cX3_isJoint : ByteArray := prog_5_method_7_code
abbrev cX3_joints : ByteArray := prog_5_method_8_code
abbrev cX3_countJoints : ByteArray := prog_5_method_9_code
abbrev cX3_valueOf : ByteArray := prog_5_method_10_code
abbrev cX3_freePlace : ByteArray := prog_5_method_11_code
abbrev cX3_allNodes : ByteArray := prog_5_method_12_code
abbrev cX3_outCount : ByteArray := prog_5_method_13_code
abbrev cX3_inCount : ByteArray := prog_5_method_14_code
abbrev cX3_dropAt : ByteArray := prog_5_method_15_code
abbrev cX3_tie : ByteArray := prog_5_method_16_code
abbrev cX3_tieEnds : ByteArray := prog_5_method_17_code
def RX4 : String := "GraphHouse$Groups"
def TX4 : u_T := fun k => match k with
  | 0 => ("GraphHouse$Groups", "rankFor", "I", false)
  | 1 => ("GraphHouse$Groups", "roundsDone", "I", false)
  | 2 => ("GraphHouse$Groups", "units", "[J", false)
  | 3 => ("GraphHouse$Groups", "later", "[J", false)
  | 4 => ("GraphHouse$Groups", "groupFor", "I", false)
  | 5 => ("GraphHouse$Groups", "joints", "I", false)
  | 6 => ("GraphHouse$Groups", "home", "[I", true)
  | 7 => ("GraphHouse$Groups", "members", "[I", true)
  | 8 => ("GraphHouse$Groups", "degrees", "[I", true)
  | 9 => ("GraphHouse$Groups", "weights", "[I", true)
  | _ => ("GraphHouse$Groups", "links", "[I", true)
def tyX4 : Nat → FieldType := fun k => match k with
  | 0 => .int
  | 1 => .int
  | 2 => .array .long
  | 3 => .array .long
  | 4 => .int
  | 5 => .int
  | 6 => .array .int
  | 7 => .array .int
  | 8 => .array .int
  | 9 => .array .int
  | _ => .array .int
theorem nmX4 : ∀ a, a < 11 → ∀ b, b < 11 → a ≠ b → (TX4 a).2.1 ≠ (TX4 b).2.1 := by decide +kernel
theorem tyX4_ok : ∀ k, k < 11 → parseFieldDescriptor (TX4 k).2.2.1 = some (tyX4 k) := by decide +kernel
abbrev cX4_init : ByteArray := prog_6_method_1_code
abbrev cX4_unitsOf : ByteArray := prog_6_method_2_code
abbrev cX4_shareOut : ByteArray := prog_6_method_3_code
abbrev cX4_groupOf : ByteArray := prog_6_method_4_code
abbrev cX4_totalGain : ByteArray := prog_6_method_5_code
abbrev cX4_settle : ByteArray := prog_6_method_6_code
abbrev cX4_begin : ByteArray := prog_6_method_7_code
abbrev cX4_settleNode : ByteArray := prog_6_method_8_code
abbrev cX4_isBetter : ByteArray := prog_6_method_9_code
abbrev cX4_countLinks : ByteArray := prog_6_method_10_code
abbrev cX4_score : ByteArray := prog_6_method_11_code
abbrev cX4_freeGroup : ByteArray := prog_6_method_12_code
abbrev cX4_moveTo : ByteArray := prog_6_method_13_code
def RX5 : String := "GraphHouse$Ledger"
def TX5 : u_T := fun k => match k with
  | 0 => ("GraphHouse$Ledger", "newest", "LGraphHouse$Graph;", true)
  | 1 => ("GraphHouse$Ledger", "saved", "LGraphHouse$Graph;", true)
  | 2 => ("GraphHouse$Ledger", "log", "[I", false)
  | _ => ("GraphHouse$Ledger", "given", "[I", true)
def tyX5 : Nat → FieldType := fun k => match k with
  | 0 => .object "GraphHouse$Graph"
  | 1 => .object "GraphHouse$Graph"
  | 2 => .array .int
  | _ => .array .int
theorem nmX5 : ∀ a, a < 4 → ∀ b, b < 4 → a ≠ b → (TX5 a).2.1 ≠ (TX5 b).2.1 := by decide +kernel
theorem tyX5_ok : ∀ k, k < 4 → parseFieldDescriptor (TX5 k).2.2.1 = some (tyX5 k) := by decide +kernel
abbrev cX5_init : ByteArray := prog_7_method_1_code
abbrev cX5_isFull : ByteArray := prog_7_method_2_code
abbrev cX5_isGoodArc : ByteArray := prog_7_method_3_code
abbrev cX5_addNode : ByteArray := prog_7_method_4_code
abbrev cX5_addArc : ByteArray := prog_7_method_5_code
abbrev cX5_dropArc : ByteArray := prog_7_method_6_code
abbrev cX5_changeArc : ByteArray := prog_7_method_7_code
abbrev cX5_relabel : ByteArray := prog_7_method_8_code
abbrev cX5_note : ByteArray := prog_7_method_9_code
abbrev cX5_openRow : ByteArray := prog_7_method_10_code
abbrev cX5_apply : ByteArray := prog_7_method_11_code
abbrev cX5_applyArc : ByteArray := prog_7_method_12_code
abbrev cX5_applyValue : ByteArray := prog_7_method_13_code
abbrev cX5_replay : ByteArray := prog_7_method_14_code
abbrev cX5_carryOut : ByteArray := prog_7_method_15_code
abbrev cX5_readCommand : ByteArray := prog_7_method_16_code
abbrev cX5_shapeOf : ByteArray := prog_7_method_17_code
abbrev cX5_doCommand : ByteArray := prog_7_method_18_code
def RX6 : String := "GraphHouse$Parts"
def TX6 : u_T := fun k => match k with
  | 0 => ("GraphHouse$Parts", "orderFor", "I", false)
  | 1 => ("GraphHouse$Parts", "orderLength", "I", false)
  | 2 => ("GraphHouse$Parts", "orderRow", "[I", true)
  | 3 => ("GraphHouse$Parts", "coreFor", "I", false)
  | 4 => ("GraphHouse$Parts", "cores", "[I", true)
  | _ => ("GraphHouse$Parts", "degrees", "[I", true)
def tyX6 : Nat → FieldType := fun k => match k with
  | 0 => .int
  | 1 => .int
  | 2 => .array .int
  | 3 => .int
  | 4 => .array .int
  | _ => .array .int
theorem nmX6 : ∀ a, a < 6 → ∀ b, b < 6 → a ≠ b → (TX6 a).2.1 ≠ (TX6 b).2.1 := by decide +kernel
theorem tyX6_ok : ∀ k, k < 6 → parseFieldDescriptor (TX6 k).2.2.1 = some (tyX6 k) := by decide +kernel
abbrev cX6_init : ByteArray := prog_8_method_1_code
abbrev cX6_strongPart : ByteArray := prog_8_method_2_code
abbrev cX6_weakPart : ByteArray := prog_8_method_3_code
abbrev cX6_isBridge : ByteArray := prog_8_method_4_code
abbrev cX6_isCut : ByteArray := prog_8_method_5_code
abbrev cX6_ordered : ByteArray := prog_8_method_6_code
abbrev cX6_makeOrder : ByteArray := prog_8_method_7_code
abbrev cX6_firstFree : ByteArray := prog_8_method_8_code
abbrev cX6_coreOf : ByteArray := prog_8_method_9_code
abbrev cX6_peel : ByteArray := prog_8_method_10_code
abbrev cX6_loosest : ByteArray := prog_8_method_11_code
abbrev cX6_loosen : ByteArray := prog_8_method_12_code
abbrev cX6_triangles : ByteArray := prog_8_method_13_code
abbrev cX6_squares : ByteArray := prog_8_method_14_code
def RX7 : String := "GraphHouse$Question"
def TX7 : u_T := fun k => match k with
  | 0 => ("GraphHouse$Question", "start", "J", false)
  | 1 => ("GraphHouse$Question", "accept", "J", false)
  | 2 => ("GraphHouse$Question", "jumps", "[J", true)
  | 3 => ("GraphHouse$Question", "match", "[J", true)
  | 4 => ("GraphHouse$Question", "opens", "[I", true)
  | 5 => ("GraphHouse$Question", "bars", "[J", true)
  | 6 => ("GraphHouse$Question", "now", "[J", true)
  | 7 => ("GraphHouse$Question", "next", "[J", true)
  | _ => ("GraphHouse$Question", "seen", "[J", true)
def tyX7 : Nat → FieldType := fun k => match k with
  | 0 => .long
  | 1 => .long
  | 2 => .array .long
  | 3 => .array .long
  | 4 => .array .int
  | 5 => .array .long
  | 6 => .array .long
  | 7 => .array .long
  | _ => .array .long
theorem nmX7 : ∀ a, a < 9 → ∀ b, b < 9 → a ≠ b → (TX7 a).2.1 ≠ (TX7 b).2.1 := by decide +kernel
theorem tyX7_ok : ∀ k, k < 9 → parseFieldDescriptor (TX7 k).2.2.1 = some (tyX7 k) := by decide +kernel
abbrev cX7_init : ByteArray := prog_9_method_1_code
abbrev cX7_adopt : ByteArray := prog_9_method_2_code
abbrev cX7_isGood : ByteArray := prog_9_method_3_code
abbrev cX7_judge : ByteArray := prog_9_method_4_code
abbrev cX7_isAtom : ByteArray := prog_9_method_5_code
abbrev cX7_build : ByteArray := prog_9_method_6_code
abbrev cX7_closeBars : ByteArray := prog_9_method_7_code
abbrev cX7_layPlace : ByteArray := prog_9_method_8_code
abbrev cX7_layRepeat : ByteArray := prog_9_method_9_code
abbrev cX7_close : ByteArray := prog_9_method_10_code
abbrev cX7_leastFit : ByteArray := prog_9_method_11_code
abbrev cX7_step : ByteArray := prog_9_method_12_code
abbrev cX7_behind : ByteArray := prog_9_method_13_code
def RX8 : String := "GraphHouse$Script"
def TX8 : u_T := fun k => match k with
  | 0 => ("GraphHouse$Script", "text", "[C", true)
  | 1 => ("GraphHouse$Script", "length", "I", false)
  | 2 => ("GraphHouse$Script", "at", "I", false)
  | 3 => ("GraphHouse$Script", "sort", "I", false)
  | 4 => ("GraphHouse$Script", "place", "I", false)
  | 5 => ("GraphHouse$Script", "value", "I", false)
  | 6 => ("GraphHouse$Script", "blame", "I", false)
  | 7 => ("GraphHouse$Script", "blameAt", "I", false)
  | 8 => ("GraphHouse$Script", "page", "[C", true)
  | _ => ("GraphHouse$Script", "pageLength", "I", false)
def tyX8 : Nat → FieldType := fun k => match k with
  | 0 => .array .char
  | 1 => .int
  | 2 => .int
  | 3 => .int
  | 4 => .int
  | 5 => .int
  | 6 => .int
  | 7 => .int
  | 8 => .array .char
  | _ => .int
theorem nmX8 : ∀ a, a < 10 → ∀ b, b < 10 → a ≠ b → (TX8 a).2.1 ≠ (TX8 b).2.1 := by decide +kernel
theorem tyX8_ok : ∀ k, k < 10 → parseFieldDescriptor (TX8 k).2.2.1 = some (tyX8 k) := by decide +kernel
abbrev cX8_init : ByteArray := prog_10_method_1_code
abbrev cX8_begin : ByteArray := prog_10_method_2_code
abbrev cX8_accuse : ByteArray := prog_10_method_3_code
abbrev cX8_refuse : ByteArray := prog_10_method_4_code
abbrev cX8_isAt : ByteArray := prog_10_method_5_code
abbrev cX8_next : ByteArray := prog_10_method_6_code
abbrev cX8_isDigit : ByteArray := prog_10_method_7_code
abbrev cX8_readNumber : ByteArray := prog_10_method_8_code
abbrev cX8_isSign : ByteArray := prog_10_method_9_code
abbrev cX8_write : ByteArray := prog_10_method_10_code
abbrev cX8_endCommand : ByteArray := prog_10_method_11_code
abbrev cX8_put : ByteArray := prog_10_method_12_code
abbrev cX8_putNumber : ByteArray := prog_10_method_13_code
def RX9 : String := "GraphHouse$Trees"
def TX9 : u_T := fun k => match k with
  | 0 => ("GraphHouse$Trees", "arcs", "I", false)
  | 1 => ("GraphHouse$Trees", "tail", "[I", true)
  | 2 => ("GraphHouse$Trees", "head", "[I", true)
  | 3 => ("GraphHouse$Trees", "price", "[J", true)
  | 4 => ("GraphHouse$Trees", "least", "[J", true)
  | 5 => ("GraphHouse$Trees", "before", "[I", true)
  | 6 => ("GraphHouse$Trees", "seenFrom", "[I", true)
  | 7 => ("GraphHouse$Trees", "ring", "[I", true)
  | 8 => ("GraphHouse$Trees", "hang", "[I", true)
  | 9 => ("GraphHouse$Trees", "countFor", "I", false)
  | 10 => ("GraphHouse$Trees", "count", "I", false)
  | _ => ("GraphHouse$Trees", "grid", "[J", true)
def tyX9 : Nat → FieldType := fun k => match k with
  | 0 => .int
  | 1 => .array .int
  | 2 => .array .int
  | 3 => .array .long
  | 4 => .array .long
  | 5 => .array .int
  | 6 => .array .int
  | 7 => .array .int
  | 8 => .array .int
  | 9 => .int
  | 10 => .int
  | _ => .array .long
theorem nmX9 : ∀ a, a < 12 → ∀ b, b < 12 → a ≠ b → (TX9 a).2.1 ≠ (TX9 b).2.1 := by decide +kernel
theorem tyX9_ok : ∀ k, k < 12 → parseFieldDescriptor (TX9 k).2.2.1 = some (tyX9 k) := by decide +kernel
abbrev cX9_init : ByteArray := prog_11_method_1_code
abbrev cX9_leastRooted : ByteArray := prog_11_method_2_code
abbrev cX9_copyArcs : ByteArray := prog_11_method_3_code
abbrev cX9_takeCheapest : ByteArray := prog_11_method_4_code
abbrev cX9_nameRings : ByteArray := prog_11_method_5_code
abbrev cX9_nameOthers : ByteArray := prog_11_method_6_code
abbrev cX9_shrinkRings : ByteArray := prog_11_method_7_code
abbrev cX9_isSpanning : ByteArray := prog_11_method_8_code
abbrev cX9_isBefore : ByteArray := prog_11_method_9_code
abbrev cX9_countSpanning : ByteArray := prog_11_method_10_code
abbrev cX9_countTrees : ByteArray := prog_11_method_11_code
abbrev cX9_pivot : ByteArray := prog_11_method_12_code
abbrev cX9_swapRows : ByteArray := prog_11_method_13_code
abbrev cX9_power : ByteArray := prog_11_method_14_code
def RX10 : String := "GraphHouse$Ways"
def TX10 : u_T := fun k => match k with
  | 0 => ("GraphHouse$Ways", "farFor", "I", false)
  | 1 => ("GraphHouse$Ways", "farTo", "I", false)
  | 2 => ("GraphHouse$Ways", "falling", "I", false)
  | 3 => ("GraphHouse$Ways", "far", "[J", true)
  | 4 => ("GraphHouse$Ways", "wide", "[I", true)
  | 5 => ("GraphHouse$Ways", "hops", "[I", true)
  | 6 => ("GraphHouse$Ways", "counts", "[J", true)
  | 7 => ("GraphHouse$Ways", "queue", "[I", true)
  | 8 => ("GraphHouse$Ways", "shortFor", "I", false)
  | 9 => ("GraphHouse$Ways", "shortFrom", "I", false)
  | 10 => ("GraphHouse$Ways", "shortTo", "I", false)
  | 11 => ("GraphHouse$Ways", "shortCount", "I", false)
  | _ => ("GraphHouse$Ways", "keys", "[J", true)
def tyX10 : Nat → FieldType := fun k => match k with
  | 0 => .int
  | 1 => .int
  | 2 => .int
  | 3 => .array .long
  | 4 => .array .int
  | 5 => .array .int
  | 6 => .array .long
  | 7 => .array .int
  | 8 => .int
  | 9 => .int
  | 10 => .int
  | 11 => .int
  | _ => .array .long
theorem nmX10 : ∀ a, a < 13 → ∀ b, b < 13 → a ≠ b → (TX10 a).2.1 ≠ (TX10 b).2.1 := by decide +kernel
theorem tyX10_ok : ∀ k, k < 13 → parseFieldDescriptor (TX10 k).2.2.1 = some (tyX10 k) := by decide +kernel
abbrev cX10_init : ByteArray := prog_12_method_1_code
abbrev cX10_leastWeight : ByteArray := prog_12_method_2_code
abbrev cX10_leastArc : ByteArray := prog_12_method_3_code
abbrev cX10_stepFrom : ByteArray := prog_12_method_4_code
abbrev cX10_costOf : ByteArray := prog_12_method_5_code
abbrev cX10_measure : ByteArray := prog_12_method_6_code
abbrev cX10_relax : ByteArray := prog_12_method_7_code
abbrev cX10_widest : ByteArray := prog_12_method_8_code
abbrev cX10_widestOf : ByteArray := prog_12_method_9_code
abbrev cX10_fewestArcs : ByteArray := prog_12_method_10_code
abbrev cX10_countBy : ByteArray := prog_12_method_11_code
abbrev cX10_spread : ByteArray := prog_12_method_12_code
abbrev cX10_countShort : ByteArray := prog_12_method_13_code
abbrev cX10_arcOfShort : ByteArray := prog_12_method_14_code
abbrev cX10_collect : ByteArray := prog_12_method_15_code
abbrev cX10_gather : ByteArray := prog_12_method_16_code
abbrev cX10_leads : ByteArray := prog_12_method_17_code
abbrev cX10_sortKeys : ByteArray := prog_12_method_18_code
def RX11 : String := "GraphHouse"
def TX11 : u_T := fun k => match k with
  | 0 => ("GraphHouse", "ledger", "LGraphHouse$Ledger;", true)
  | 1 => ("GraphHouse", "shown", "LGraphHouse$Graph;", true)
  | 2 => ("GraphHouse", "viewed", "I", false)
  | 3 => ("GraphHouse", "script", "LGraphHouse$Script;", true)
  | 4 => ("GraphHouse", "ways", "LGraphHouse$Ways;", true)
  | 5 => ("GraphHouse", "parts", "LGraphHouse$Parts;", true)
  | 6 => ("GraphHouse", "colours", "LGraphHouse$Colours;", true)
  | 7 => ("GraphHouse", "flows", "LGraphHouse$Flows;", true)
  | 8 => ("GraphHouse", "woods", "LGraphHouse$Trees;", true)
  | 9 => ("GraphHouse", "groups", "LGraphHouse$Groups;", true)
  | 10 => ("GraphHouse", "question", "LGraphHouse$Question;", true)
  | _ => ("GraphHouse", "engine", "LGraphHouse$Engine;", true)
def tyX11 : Nat → FieldType := fun k => match k with
  | 0 => .object "GraphHouse$Ledger"
  | 1 => .object "GraphHouse$Graph"
  | 2 => .int
  | 3 => .object "GraphHouse$Script"
  | 4 => .object "GraphHouse$Ways"
  | 5 => .object "GraphHouse$Parts"
  | 6 => .object "GraphHouse$Colours"
  | 7 => .object "GraphHouse$Flows"
  | 8 => .object "GraphHouse$Trees"
  | 9 => .object "GraphHouse$Groups"
  | 10 => .object "GraphHouse$Question"
  | _ => .object "GraphHouse$Engine"
theorem nmX11 : ∀ a, a < 12 → ∀ b, b < 12 → a ≠ b → (TX11 a).2.1 ≠ (TX11 b).2.1 := by decide +kernel
theorem tyX11_ok : ∀ k, k < 12 → parseFieldDescriptor (TX11 k).2.2.1 = some (tyX11 k) := by decide +kernel
abbrev cX11_init : ByteArray := prog_1_method_1_code
abbrev cX11_node : ByteArray := prog_1_method_2_code
abbrev cX11_arc : ByteArray := prog_1_method_3_code
abbrev cX11_take : ByteArray := prog_1_method_4_code
abbrev cX11_set : ByteArray := prog_1_method_5_code
abbrev cX11_label : ByteArray := prog_1_method_6_code
abbrev cX11_view : ByteArray := prog_1_method_7_code
abbrev cX11_version : ByteArray := prog_1_method_8_code
abbrev cX11_size : ByteArray := prog_1_method_9_code
abbrev cX11_told : ByteArray := prog_1_method_10_code
abbrev cX11_labelOf : ByteArray := prog_1_method_11_code
abbrev cX11_arcAt : ByteArray := prog_1_method_12_code
abbrev cX11_type : ByteArray := prog_1_method_13_code
abbrev cX11_wipe : ByteArray := prog_1_method_14_code
abbrev cX11_load : ByteArray := prog_1_method_15_code
abbrev cX11_fault : ByteArray := prog_1_method_16_code
abbrev cX11_print : ByteArray := prog_1_method_17_code
abbrev cX11_printed : ByteArray := prog_1_method_18_code
abbrev cX11_distance : ByteArray := prog_1_method_19_code
abbrev cX11_way : ByteArray := prog_1_method_20_code
abbrev cX11_width : ByteArray := prog_1_method_21_code
abbrev cX11_shorts : ByteArray := prog_1_method_22_code
abbrev cX11_shortArc : ByteArray := prog_1_method_23_code
abbrev cX11_part : ByteArray := prog_1_method_24_code
abbrev cX11_bridge : ByteArray := prog_1_method_25_code
abbrev cX11_cut : ByteArray := prog_1_method_26_code
abbrev cX11_order : ByteArray := prog_1_method_27_code
abbrev cX11_core : ByteArray := prog_1_method_28_code
abbrev cX11_clique : ByteArray := prog_1_method_29_code
abbrev cX11_colour : ByteArray := prog_1_method_30_code
abbrev cX11_flow : ByteArray := prog_1_method_31_code
abbrev cX11_side : ByteArray := prog_1_method_32_code
abbrev cX11_cost : ByteArray := prog_1_method_33_code
abbrev cX11_pairing : ByteArray := prog_1_method_34_code
abbrev cX11_tree : ByteArray := prog_1_method_35_code
abbrev cX11_span : ByteArray := prog_1_method_36_code
abbrev cX11_trees : ByteArray := prog_1_method_37_code
abbrev cX11_rank : ByteArray := prog_1_method_38_code
abbrev cX11_shortest : ByteArray := prog_1_method_39_code
abbrev cX11_group : ByteArray := prog_1_method_40_code
abbrev cX11_gain : ByteArray := prog_1_method_41_code
abbrev cX11_figures : ByteArray := prog_1_method_42_code
abbrev cX11_pattern : ByteArray := prog_1_method_43_code
abbrev cX11_fits : ByteArray := prog_1_method_44_code
abbrev cX11_program : ByteArray := prog_1_method_45_code
abbrev cX11_run : ByteArray := prog_1_method_46_code
abbrev cX11_state : ByteArray := prog_1_method_47_code
abbrev cX11_letters : ByteArray := prog_1_method_48_code
abbrev cX11_graph : ByteArray := prog_1_method_49_code
abbrev cX11_allow : ByteArray := prog_1_method_50_code
def yX11_allow : MethodName := ⟨RX11, "allow", "(Z)V"⟩
abbrev cX11_ready : ByteArray := prog_1_method_51_code
def yX11_ready : MethodName := ⟨RX11, "ready", "(Z)V"⟩
abbrev cX11_isLetter : ByteArray := prog_1_method_52_code
abbrev cX11_isWeight : ByteArray := prog_1_method_53_code
abbrev cX11_isRoom : ByteArray := prog_1_method_54_code
abbrev cX11_isGoodValue : ByteArray := prog_1_method_55_code
abbrev cX11_lowest : ByteArray := prog_1_method_56_code
abbrev cX11_lowestOfLong : ByteArray := prog_1_method_57_code
abbrev cX11_flood : ByteArray := prog_1_method_58_code
def RX12 : String := "GraphHouseModel"
def TX12 : u_T := fun k => match k with
  | 0 => ("GraphHouseModel", "code", "I", false)
  | 1 => ("GraphHouseModel", "nodes", "[I", true)
  | 2 => ("GraphHouseModel", "label", "[I", true)
  | 3 => ("GraphHouseModel", "there", "[Z", true)
  | 4 => ("GraphHouseModel", "from", "[I", true)
  | 5 => ("GraphHouseModel", "to", "[I", true)
  | 6 => ("GraphHouseModel", "weight", "[I", true)
  | 7 => ("GraphHouseModel", "room", "[I", true)
  | 8 => ("GraphHouseModel", "kind", "[I", true)
  | 9 => ("GraphHouseModel", "changes", "I", false)
  | 10 => ("GraphHouseModel", "cWhat", "[I", true)
  | 11 => ("GraphHouseModel", "cA", "[I", true)
  | 12 => ("GraphHouseModel", "cB", "[I", true)
  | 13 => ("GraphHouseModel", "cC", "[I", true)
  | 14 => ("GraphHouseModel", "cD", "[I", true)
  | 15 => ("GraphHouseModel", "cE", "[I", true)
  | 16 => ("GraphHouseModel", "cF", "[I", true)
  | 17 => ("GraphHouseModel", "seen", "I", false)
  | 18 => ("GraphHouseModel", "g", "I", false)
  | 19 => ("GraphHouseModel", "base", "I", false)
  | 20 => ("GraphHouseModel", "n", "I", false)
  | 21 => ("GraphHouseModel", "text", "[I", true)
  | 22 => ("GraphHouseModel", "textSize", "I", false)
  | 23 => ("GraphHouseModel", "faultKind", "I", false)
  | 24 => ("GraphHouseModel", "faultPlace", "I", false)
  | 25 => ("GraphHouseModel", "printed", "[I", true)
  | 26 => ("GraphHouseModel", "printedSize", "I", false)
  | 27 => ("GraphHouseModel", "at", "I", false)
  | 28 => ("GraphHouseModel", "token", "I", false)
  | 29 => ("GraphHouseModel", "tokenAt", "I", false)
  | 30 => ("GraphHouseModel", "tokenSign", "I", false)
  | 31 => ("GraphHouseModel", "tokenNumber", "J", false)
  | 32 => ("GraphHouseModel", "commands", "I", false)
  | 33 => ("GraphHouseModel", "mWhat", "[I", true)
  | 34 => ("GraphHouseModel", "mNumber", "[I", true)
  | 35 => ("GraphHouseModel", "reach", "[I", true)
  | 36 => ("GraphHouseModel", "far", "[J", true)
  | 37 => ("GraphHouseModel", "steps", "[I", true)
  | 38 => ("GraphHouseModel", "queue", "[I", true)
  | 39 => ("GraphHouseModel", "wide", "[I", true)
  | 40 => ("GraphHouseModel", "shortCount", "I", false)
  | 41 => ("GraphHouseModel", "shorts", "[I", true)
  | 42 => ("GraphHouseModel", "shortWeight", "[J", true)
  | 43 => ("GraphHouseModel", "shortOrder", "[I", true)
  | 44 => ("GraphHouseModel", "merged", "[I", true)
  | 45 => ("GraphHouseModel", "beside", "[I", true)
  | 46 => ("GraphHouseModel", "chosen", "[I", true)
  | 47 => ("GraphHouseModel", "open", "[I", true)
  | 48 => ("GraphHouseModel", "settled", "[I", true)
  | 49 => ("GraphHouseModel", "colour", "[I", true)
  | 50 => ("GraphHouseModel", "barred", "[I", true)
  | 51 => ("GraphHouseModel", "turn", "[I", true)
  | 52 => ("GraphHouseModel", "left", "[I", true)
  | 53 => ("GraphHouseModel", "part", "I", false)
  | 54 => ("GraphHouseModel", "why", "[I", true)
  | 55 => ("GraphHouseModel", "flow", "[J", true)
  | 56 => ("GraphHouseModel", "back", "[I", true)
  | 57 => ("GraphHouseModel", "price", "[J", true)
  | 58 => ("GraphHouseModel", "surplus", "[J", true)
  | 59 => ("GraphHouseModel", "mate", "[I", true)
  | 60 => ("GraphHouseModel", "pairWeight", "[J", true)
  | 61 => ("GraphHouseModel", "eFrom", "[I", true)
  | 62 => ("GraphHouseModel", "eTo", "[I", true)
  | 63 => ("GraphHouseModel", "eCost", "[J", true)
  | 64 => ("GraphHouseModel", "cheapIn", "[J", true)
  | 65 => ("GraphHouseModel", "bestIn", "[I", true)
  | 66 => ("GraphHouseModel", "ring", "[I", true)
  | 67 => ("GraphHouseModel", "visit", "[I", true)
  | 68 => ("GraphHouseModel", "weakOf", "[I", true)
  | 69 => ("GraphHouseModel", "table", "[J", true)
  | 70 => ("GraphHouseModel", "units", "[J", true)
  | 71 => ("GraphHouseModel", "then", "[J", true)
  | 72 => ("GraphHouseModel", "outs", "[I", true)
  | 73 => ("GraphHouseModel", "hops", "[I", true)
  | 74 => ("GraphHouseModel", "ways", "[J", true)
  | 75 => ("GraphHouseModel", "hopsTo", "[I", true)
  | 76 => ("GraphHouseModel", "waysTo", "[J", true)
  | 77 => ("GraphHouseModel", "group", "[I", true)
  | 78 => ("GraphHouseModel", "degree", "[I", true)
  | 79 => ("GraphHouseModel", "jointsOf", "[I", true)
  | 80 => ("GraphHouseModel", "joints", "I", false)
  | 81 => ("GraphHouseModel", "letters", "I", false)
  | 82 => ("GraphHouseModel", "letterKind", "[I", true)
  | 83 => ("GraphHouseModel", "behind", "[J", true)
  | 84 => ("GraphHouseModel", "patternEmpty", "Z", false)
  | 85 => ("GraphHouseModel", "patternFirst", "J", false)
  | 86 => ("GraphHouseModel", "patternLast", "J", false)
  | 87 => ("GraphHouseModel", "nowKind", "[I", true)
  | 88 => ("GraphHouseModel", "nowBehind", "[J", true)
  | 89 => ("GraphHouseModel", "altSome", "[Z", true)
  | 90 => ("GraphHouseModel", "altEmpty", "[Z", true)
  | 91 => ("GraphHouseModel", "altFirst", "[J", true)
  | 92 => ("GraphHouseModel", "altLast", "[J", true)
  | 93 => ("GraphHouseModel", "seqEmpty", "[Z", true)
  | 94 => ("GraphHouseModel", "seqFirst", "[J", true)
  | 95 => ("GraphHouseModel", "seqLast", "[J", true)
  | 96 => ("GraphHouseModel", "level", "I", false)
  | 97 => ("GraphHouseModel", "atom", "Z", false)
  | 98 => ("GraphHouseModel", "mayRepeat", "Z", false)
  | 99 => ("GraphHouseModel", "atomEmpty", "Z", false)
  | 100 => ("GraphHouseModel", "atomFirst", "J", false)
  | 101 => ("GraphHouseModel", "atomLast", "J", false)
  | 102 => ("GraphHouseModel", "came", "[I", true)
  | 103 => ("GraphHouseModel", "pWhat", "[I", true)
  | 104 => ("GraphHouseModel", "pValue", "[I", true)
  | 105 => ("GraphHouseModel", "pEnd", "[I", true)
  | 106 => ("GraphHouseModel", "qWhat", "[I", true)
  | 107 => ("GraphHouseModel", "qValue", "[I", true)
  | 108 => ("GraphHouseModel", "qEnd", "[I", true)
  | 109 => ("GraphHouseModel", "steps0", "I", false)
  | 110 => ("GraphHouseModel", "waits", "[I", true)
  | 111 => ("GraphHouseModel", "waiting", "I", false)
  | 112 => ("GraphHouseModel", "depth", "I", false)
  | 113 => ("GraphHouseModel", "stateNodes", "I", false)
  | 114 => ("GraphHouseModel", "state", "[J", true)
  | 115 => ("GraphHouseModel", "fresh", "[J", true)
  | 116 => ("GraphHouseModel", "sent", "I", false)
  | 117 => ("GraphHouseModel", "lost", "I", false)
  | 118 => ("GraphHouseModel", "turns", "I", false)
  | 119 => ("GraphHouseModel", "pile", "[J", true)
  | 120 => ("GraphHouseModel", "named", "[J", true)
  | _ => ("GraphHouseModel", "drawn", "J", false)
def tyX12 : Nat → FieldType := fun k => match k with
  | 0 => .int
  | 1 => .array .int
  | 2 => .array .int
  | 3 => .array .boolean
  | 4 => .array .int
  | 5 => .array .int
  | 6 => .array .int
  | 7 => .array .int
  | 8 => .array .int
  | 9 => .int
  | 10 => .array .int
  | 11 => .array .int
  | 12 => .array .int
  | 13 => .array .int
  | 14 => .array .int
  | 15 => .array .int
  | 16 => .array .int
  | 17 => .int
  | 18 => .int
  | 19 => .int
  | 20 => .int
  | 21 => .array .int
  | 22 => .int
  | 23 => .int
  | 24 => .int
  | 25 => .array .int
  | 26 => .int
  | 27 => .int
  | 28 => .int
  | 29 => .int
  | 30 => .int
  | 31 => .long
  | 32 => .int
  | 33 => .array .int
  | 34 => .array .int
  | 35 => .array .int
  | 36 => .array .long
  | 37 => .array .int
  | 38 => .array .int
  | 39 => .array .int
  | 40 => .int
  | 41 => .array .int
  | 42 => .array .long
  | 43 => .array .int
  | 44 => .array .int
  | 45 => .array .int
  | 46 => .array .int
  | 47 => .array .int
  | 48 => .array .int
  | 49 => .array .int
  | 50 => .array .int
  | 51 => .array .int
  | 52 => .array .int
  | 53 => .int
  | 54 => .array .int
  | 55 => .array .long
  | 56 => .array .int
  | 57 => .array .long
  | 58 => .array .long
  | 59 => .array .int
  | 60 => .array .long
  | 61 => .array .int
  | 62 => .array .int
  | 63 => .array .long
  | 64 => .array .long
  | 65 => .array .int
  | 66 => .array .int
  | 67 => .array .int
  | 68 => .array .int
  | 69 => .array .long
  | 70 => .array .long
  | 71 => .array .long
  | 72 => .array .int
  | 73 => .array .int
  | 74 => .array .long
  | 75 => .array .int
  | 76 => .array .long
  | 77 => .array .int
  | 78 => .array .int
  | 79 => .array .int
  | 80 => .int
  | 81 => .int
  | 82 => .array .int
  | 83 => .array .long
  | 84 => .boolean
  | 85 => .long
  | 86 => .long
  | 87 => .array .int
  | 88 => .array .long
  | 89 => .array .boolean
  | 90 => .array .boolean
  | 91 => .array .long
  | 92 => .array .long
  | 93 => .array .boolean
  | 94 => .array .long
  | 95 => .array .long
  | 96 => .int
  | 97 => .boolean
  | 98 => .boolean
  | 99 => .boolean
  | 100 => .long
  | 101 => .long
  | 102 => .array .int
  | 103 => .array .int
  | 104 => .array .int
  | 105 => .array .int
  | 106 => .array .int
  | 107 => .array .int
  | 108 => .array .int
  | 109 => .int
  | 110 => .array .int
  | 111 => .int
  | 112 => .int
  | 113 => .int
  | 114 => .array .long
  | 115 => .array .long
  | 116 => .int
  | 117 => .int
  | 118 => .int
  | 119 => .array .long
  | 120 => .array .long
  | _ => .long
theorem nmX12 : ∀ a, a < 122 → ∀ b, b < 122 → a ≠ b → (TX12 a).2.1 ≠ (TX12 b).2.1 := by decide +kernel
theorem tyX12_ok : ∀ k, k < 122 → parseFieldDescriptor (TX12 k).2.2.1 = some (tyX12 k) := by decide +kernel
abbrev cX12_init : ByteArray := prog_14_method_1_code
abbrev cX12_thrown : ByteArray := prog_14_method_2_code
abbrev cX12_in : ByteArray := prog_14_method_3_code
abbrev cX12_fails : ByteArray := prog_14_method_4_code
abbrev cX12_wrongArgument : ByteArray := prog_14_method_5_code
abbrev cX12_isNode : ByteArray := prog_14_method_6_code
abbrev cX12_isArc : ByteArray := prog_14_method_7_code
abbrev cX12_make : ByteArray := prog_14_method_8_code
abbrev cX12_apply : ByteArray := prog_14_method_9_code
abbrev cX12_look : ByteArray := prog_14_method_10_code
abbrev cX12_isNewNode : ByteArray := prog_14_method_11_code
abbrev cX12_isNewArc : ByteArray := prog_14_method_12_code
abbrev cX12_isWeight : ByteArray := prog_14_method_13_code
abbrev cX12_freePlace : ByteArray := prog_14_method_14_code
abbrev cX12_node : ByteArray := prog_14_method_15_code
abbrev cX12_arc : ByteArray := prog_14_method_16_code
abbrev cX12_take : ByteArray := prog_14_method_17_code
abbrev cX12_set : ByteArray := prog_14_method_18_code
abbrev cX12_label : ByteArray := prog_14_method_19_code
abbrev cX12_view : ByteArray := prog_14_method_20_code
abbrev cX12_version : ByteArray := prog_14_method_21_code
abbrev cX12_isJoint : ByteArray := prog_14_method_22_code
abbrev cX12_size : ByteArray := prog_14_method_23_code
abbrev cX12_told : ByteArray := prog_14_method_24_code
abbrev cX12_labelOf : ByteArray := prog_14_method_25_code
abbrev cX12_arcAt : ByteArray := prog_14_method_26_code
abbrev cX12_type : ByteArray := prog_14_method_27_code
abbrev cX12_wipe : ByteArray := prog_14_method_28_code
abbrev cX12_fault : ByteArray := prog_14_method_29_code
abbrev cX12_isLetter : ByteArray := prog_14_method_30_code
abbrev cX12_isDigit : ByteArray := prog_14_method_31_code
abbrev cX12_blame : ByteArray := prog_14_method_32_code
abbrev cX12_nextToken : ByteArray := prog_14_method_33_code
abbrev cX12_readNumber : ByteArray := prog_14_method_34_code
abbrev cX12_shape : ByteArray := prog_14_method_35_code
abbrev cX12_load : ByteArray := prog_14_method_36_code
abbrev cX12_copyGraph : ByteArray := prog_14_method_37_code
abbrev cX12_command : ByteArray := prog_14_method_38_code
abbrev cX12_isDone : ByteArray := prog_14_method_39_code
abbrev cX12_put : ByteArray := prog_14_method_40_code
abbrev cX12_putNumber : ByteArray := prog_14_method_41_code
abbrev cX12_print : ByteArray := prog_14_method_42_code
abbrev cX12_printed : ByteArray := prog_14_method_43_code
abbrev cX12_close : ByteArray := prog_14_method_44_code
abbrev cX12_has : ByteArray := prog_14_method_45_code
abbrev cX12_toGoal : ByteArray := prog_14_method_46_code
abbrev cX12_fewest : ByteArray := prog_14_method_47_code
abbrev cX12_between : ByteArray := prog_14_method_48_code
abbrev cX12_distance : ByteArray := prog_14_method_49_code
abbrev cX12_way : ByteArray := prog_14_method_50_code
abbrev cX12_width : ByteArray := prog_14_method_51_code
abbrev cX12_addShort : ByteArray := prog_14_method_52_code
abbrev cX12_goesOn : ByteArray := prog_14_method_53_code
abbrev cX12_findShorts : ByteArray := prog_14_method_54_code
abbrev cX12_second : ByteArray := prog_14_method_55_code
abbrev cX12_third : ByteArray := prog_14_method_56_code
abbrev cX12_isBefore : ByteArray := prog_14_method_57_code
abbrev cX12_sortShorts : ByteArray := prog_14_method_58_code
abbrev cX12_shorts : ByteArray := prog_14_method_59_code
abbrev cX12_shortArc : ByteArray := prog_14_method_60_code
abbrev cX12_least : ByteArray := prog_14_method_61_code
abbrev cX12_part : ByteArray := prog_14_method_62_code
abbrev cX12_weakParts : ByteArray := prog_14_method_63_code
abbrev cX12_bridge : ByteArray := prog_14_method_64_code
abbrev cX12_cut : ByteArray := prog_14_method_65_code
abbrev cX12_order : ByteArray := prog_14_method_66_code
abbrev cX12_jointsWith : ByteArray := prog_14_method_67_code
abbrev cX12_core : ByteArray := prog_14_method_68_code
abbrev cX12_findBeside : ByteArray := prog_14_method_69_code
abbrev cX12_count : ByteArray := prog_14_method_70_code
abbrev cX12_findClique : ByteArray := prog_14_method_71_code
abbrev cX12_clique : ByteArray := prog_14_method_72_code
abbrev cX12_barsOf : ByteArray := prog_14_method_73_code
abbrev cX12_tightest : ByteArray := prog_14_method_74_code
abbrev cX12_tough : ByteArray := prog_14_method_75_code
abbrev cX12_hanging : ByteArray := prog_14_method_76_code
abbrev cX12_isColourable : ByteArray := prog_14_method_77_code
abbrev cX12_begin : ByteArray := prog_14_method_78_code
abbrev cX12_isPartColourable : ByteArray := prog_14_method_79_code
abbrev cX12_capped : ByteArray := prog_14_method_80_code
abbrev cX12_colour : ByteArray := prog_14_method_81_code
abbrev cX12_search : ByteArray := prog_14_method_82_code
abbrev cX12_before : ByteArray := prog_14_method_83_code
abbrev cX12_roomOn : ByteArray := prog_14_method_84_code
abbrev cX12_push : ByteArray := prog_14_method_85_code
abbrev cX12_most : ByteArray := prog_14_method_86_code
abbrev cX12_twoNodes : ByteArray := prog_14_method_87_code
abbrev cX12_flow : ByteArray := prog_14_method_88_code
abbrev cX12_side : ByteArray := prog_14_method_89_code
abbrev cX12_cheapest : ByteArray := prog_14_method_90_code
abbrev cX12_cost : ByteArray := prog_14_method_91_code
abbrev cX12_sends : ByteArray := prog_14_method_92_code
abbrev cX12_isFirstSort : ByteArray := prog_14_method_93_code
abbrev cX12_pairUp : ByteArray := prog_14_method_94_code
abbrev cX12_cheapestPair : ByteArray := prog_14_method_95_code
abbrev cX12_pairing : ByteArray := prog_14_method_96_code
abbrev cX12_tree : ByteArray := prog_14_method_97_code
abbrev cX12_rings : ByteArray := prog_14_method_98_code
abbrev cX12_span : ByteArray := prog_14_method_99_code
abbrev cX12_orderOf : ByteArray := prog_14_method_100_code
abbrev cX12_power : ByteArray := prog_14_method_101_code
abbrev cX12_trees : ByteArray := prog_14_method_102_code
abbrev cX12_rank : ByteArray := prog_14_method_103_code
abbrev cX12_hop : ByteArray := prog_14_method_104_code
abbrev cX12_shortest : ByteArray := prog_14_method_105_code
abbrev cX12_gainOf : ByteArray := prog_14_method_106_code
abbrev cX12_gainIn : ByteArray := prog_14_method_107_code
abbrev cX12_findGroups : ByteArray := prog_14_method_108_code
abbrev cX12_leastOf : ByteArray := prog_14_method_109_code
abbrev cX12_bestGroup : ByteArray := prog_14_method_110_code
abbrev cX12_freeGroup : ByteArray := prog_14_method_111_code
abbrev cX12_group : ByteArray := prog_14_method_112_code
abbrev cX12_gain : ByteArray := prog_14_method_113_code
abbrev cX12_figures : ByteArray := prog_14_method_114_code
abbrev cX12_beginAlternative : ByteArray := prog_14_method_115_code
abbrev cX12_beginSequence : ByteArray := prog_14_method_116_code
abbrev cX12_follow : ByteArray := prog_14_method_117_code
abbrev cX12_flush : ByteArray := prog_14_method_118_code
abbrev cX12_endSequence : ByteArray := prog_14_method_119_code
abbrev cX12_pattern : ByteArray := prog_14_method_120_code
abbrev cX12_setAtom : ByteArray := prog_14_method_121_code
abbrev cX12_sign : ByteArray := prog_14_method_122_code
abbrev cX12_fits : ByteArray := prog_14_method_123_code
abbrev cX12_goOn : ByteArray := prog_14_method_124_code
abbrev cX12_program0 : ByteArray := prog_14_method_125_code
abbrev cX12_nextOfProgram : ByteArray := prog_14_method_126_code
abbrev cX12_add : ByteArray := prog_14_method_127_code
abbrev cX12_nameOf : ByteArray := prog_14_method_128_code
abbrev cX12_top : ByteArray := prog_14_method_129_code
abbrev cX12_hold : ByteArray := prog_14_method_130_code
abbrev cX12_drop : ByteArray := prog_14_method_131_code
abbrev cX12_strength : ByteArray := prog_14_method_132_code
abbrev cX12_settle : ByteArray := prog_14_method_133_code
abbrev cX12_turn : ByteArray := prog_14_method_134_code
abbrev cX12_factor : ByteArray := prog_14_method_135_code
abbrev cX12_behindFactor : ByteArray := prog_14_method_136_code
abbrev cX12_expression : ByteArray := prog_14_method_137_code
abbrev cX12_program : ByteArray := prog_14_method_138_code
abbrev cX12_fit : ByteArray := prog_14_method_139_code
abbrev cX12_product : ByteArray := prog_14_method_140_code
abbrev cX12_nameAll : ByteArray := prog_14_method_141_code
abbrev cX12_workOut : ByteArray := prog_14_method_142_code
abbrev cX12_run : ByteArray := prog_14_method_143_code
abbrev cX12_goesTo : ByteArray := prog_14_method_144_code
abbrev cX12_send : ByteArray := prog_14_method_145_code
abbrev cX12_state : ByteArray := prog_14_method_146_code
abbrev cX12_letters : ByteArray := prog_14_method_147_code
abbrev cJ6_bitCount_0f7a4 : ByteArray := prog_20_method_49_code
abbrev cJ13_bitCount_95d88 : ByteArray := prog_21_method_50_code
abbrev cJ9_floorDiv_f86c9 : ByteArray := prog_22_method_49_code
abbrev cJ9_floorMod_f86c9 : ByteArray := prog_22_method_52_code
abbrev cJ9_abs_0f7a4 : ByteArray := prog_22_method_59_code
abbrev cJ9_abs_067f4 : ByteArray := prog_22_method_61_code
abbrev cJ9_max_7cf53 : ByteArray := prog_22_method_65_code
abbrev cJ9_max_f86c9 : ByteArray := prog_22_method_66_code
abbrev cJ9_min_7cf53 : ByteArray := prog_22_method_69_code
abbrev cJ9_min_f86c9 : ByteArray := prog_22_method_70_code
abbrev cJ0_length_8abf5 : ByteArray := prog_24_method_54_code
abbrev cJ0_isEmpty_aae02 : ByteArray := prog_24_method_55_code
abbrev cJ0_charAt_5068e : ByteArray := prog_24_method_56_code
abbrev cJ0_indexOf_0f7a4 : ByteArray := prog_24_method_79_code
abbrev cJ0_indexOf_7cf53 : ByteArray := prog_24_method_80_code
abbrev cJ0_coder_7d493 : ByteArray := prog_24_method_152_code
abbrev cJ0_isLatin1_aae02 : ByteArray := prog_24_method_154_code
abbrev cJ0_checkIndex_df160 : ByteArray := prog_24_method_155_code
abbrev cJ1_charAt_3b067 : ByteArray := prog_25_method_2_code
abbrev cJ1_canEncode_9a6ad : ByteArray := prog_25_method_4_code
abbrev cJ1_indexOf_4cfef : ByteArray := prog_25_method_22_code
abbrev cJ1_indexOfChar_4cfef : ByteArray := prog_25_method_23_code
abbrev cJ7_fill_d0a16 : ByteArray := prog_29_method_101_code
abbrev cJ7_fill_53178 : ByteArray := prog_29_method_103_code
abbrev cJ7_copyOf_59c91 : ByteArray := prog_29_method_123_code
abbrev cJ3_checkIndex_8e157 : ByteArray := prog_30_method_11_code
def RL : String := "GraphHouseLaw"
abbrev cL_node : ByteArray := method_3_code
abbrev cL_arc : ByteArray := method_4_code
abbrev cL_take : ByteArray := method_5_code
abbrev cL_set : ByteArray := method_6_code
abbrev cL_label : ByteArray := method_7_code
abbrev cL_view : ByteArray := method_8_code
abbrev cL_size : ByteArray := method_9_code
abbrev cL_told : ByteArray := method_10_code
abbrev cL_labelOf : ByteArray := method_11_code
abbrev cL_arcAt : ByteArray := method_12_code
abbrev cL_type : ByteArray := method_13_code
abbrev cL_fault : ByteArray := method_14_code
abbrev cL_printed : ByteArray := method_15_code
abbrev cL_distance : ByteArray := method_16_code
abbrev cL_way : ByteArray := method_17_code
abbrev cL_width : ByteArray := method_18_code
abbrev cL_shorts : ByteArray := method_19_code
abbrev cL_shortArc : ByteArray := method_20_code
abbrev cL_part : ByteArray := method_21_code
abbrev cL_bridge : ByteArray := method_22_code
abbrev cL_cut : ByteArray := method_23_code
abbrev cL_order : ByteArray := method_24_code
abbrev cL_core : ByteArray := method_25_code
abbrev cL_clique : ByteArray := method_26_code
abbrev cL_colour : ByteArray := method_27_code
abbrev cL_flow : ByteArray := method_28_code
abbrev cL_side : ByteArray := method_29_code
abbrev cL_cost : ByteArray := method_30_code
abbrev cL_pairing : ByteArray := method_31_code
abbrev cL_tree : ByteArray := method_32_code
abbrev cL_span : ByteArray := method_33_code
abbrev cL_rank : ByteArray := method_34_code
abbrev cL_shortest : ByteArray := method_35_code
abbrev cL_group : ByteArray := method_36_code
abbrev cL_figures : ByteArray := method_37_code
abbrev cL_fits : ByteArray := method_38_code
abbrev cL_run : ByteArray := method_39_code
abbrev cL_state : ByteArray := method_40_code
abbrev cL_letters : ByteArray := method_41_code
abbrev vwCl : List vw_C := [(RX0, TX0, 9), (RX1, TX1, 13), (RX2, TX2, 19), (RX3, TX3, 18), (RX4, TX4, 11), (RX5, TX5, 4), (RX6, TX6, 6), (RX7, TX7, 9), (RX8, TX8, 10), (RX9, TX9, 12), (RX10, TX10, 13), (RX11, TX11, 12), (RX12, TX12, 122)]
end
section
/-! THE LAYER. A method's body as a predicate over pure worlds (lists of cells): no heap, no frames, no tables in it; 05.layerok says that the machine does what it says. -/
def am_T : List Cond := lw_tbl.filter goodWord
/-- the array classes int, long, char, boolean; where the String constants lie, and their bytes -/
abbrev AmZ : Type := ClassId × ClassId × ClassId × ClassId × (Nat → Nat) × (Nat → Nat)
/-- the String constants: class, entry, text -/
def am_lit : List (String × Nat × String) := [("GraphHouse$Script", 56, "<=+-*()"), ("GraphHouse$Ledger", 171, "l"), ("GraphHouse$Ledger", 173, "ddddl"), ("GraphHouse$Ledger", 175, "d"), ("GraphHouse$Ledger", 177, "dd"), ("GraphHouse$Ledger", 179, ""), ("GraphHouse$Engine", 102, "xnldirsmg")]
def am_len : List Nat := [7, 1, 5, 1, 2, 0, 9]
def am_byt : List (List Int32) := [[60, 61, 43, 45, 42, 40, 41], [108], [100, 100, 100, 100, 108], [100], [100, 100], [], [120, 110, 108, 100, 105, 114, 115, 109, 103]]
abbrev zs (Z : AmZ) (k : Nat) : Nat := Z.2.2.2.2.1 k
abbrev zb (Z : AmZ) (k : Nat) : Nat := Z.2.2.2.2.2 k
abbrev am_js : String := "java/lang/String"
/-- the array classes: int, long, char, boolean -/
def am_tys (Z : AmZ) : List (ClassId × FieldType) := [(Z.1, .int), (Z.2.1, .long), (Z.2.2.1, .char), (Z.2.2.2.1, .boolean)]
/-- pc, locals, operand stack, world, cells and slots that may still be made -/
abbrev AmK : Type := Nat → List (Nat × Value) → List Value → va_W → Nat → Nat → Prop
abbrev AmR : Type := Option Value → va_W → Prop
abbrev AmX : Type := String → va_W → Prop
abbrev AmC : Type := MethodName → List Value → va_W → Nat → Nat → AmR → AmX → Prop
/-- the law's script: its cell, its length, its ints -/
abbrev AmS : Type := Option (Nat × Nat × (Nat → Int32))
/-- where a throw that reaches this frame goes: K, pc, locals, what may still be made -/
abbrev AmH : Type := AmK → Nat → List (Nat × Value) → Nat → Nat → AmX
def am_t (T : u_T) (k : Nat) : FieldType := (parseFieldDescriptor (T k).2.2.1).getD .int
def am_new (T : u_T) (N : Nat) : List Value := (List.range N).map (fun k => defaultValue (am_t T k))
def am_s1 (i : Nat) (v : Value) (lv : List (Nat × Value)) : List (Nat × Value) := (i, v) :: lv.filter (fun q => !(q.1 == i) && !(q.1 + 1 == i && q.2.category == 2))
def am_s2 (i : Nat) (v : Value) (lv : List (Nat × Value)) : List (Nat × Value) := (i, v) :: lv.filter (fun q => !(q.1 == i) && (!(q.1 == i + 1) && !(q.1 + 1 == i && q.2.category == 2)))
def am_fresh (q : Nat) (ws : va_W) : Prop := ∀ (k : Nat) (e : va_E), ws[k]? ≠ some (q, e)
def am_plain (y : MethodName) (n : Nat) : Prop := y.cls ≠ "java/lang/invoke/MethodHandle" ∧ y.cls ≠ "java/lang/invoke/VarHandle" ∧ (parseMethodDescriptor y.desc).map (fun d => d.parameters.length) = some n
/-- System.arraycopy between two int or two long arrays of the world -/
def am_arraycopy (Z : AmZ) (own : String) (i : Nat) (k : List Value → va_W → Prop) (st : List Value) (ws : va_W) : Prop :=
  ∃ (n dp : Int32) (a : Nat) (sp : Int32) (a0 : Nat) (r : List Value) (q0 q1 n0 n1 : Nat), st = Value.int n :: Value.int dp :: Value.ref a :: Value.int sp :: Value.ref a0 :: r ∧ Cond.methodLink own i arraycopyName ∈ am_T ∧ (r.map fun v => v.category).sum ≤ 8 ∧ ¬ sp < 0 ∧ ¬ dp < 0 ∧ ¬ n < 0 ∧ sp.toNatClampNeg + n.toNatClampNeg ≤ n0 ∧ dp.toNatClampNeg + n.toNatClampNeg ≤ n1 ∧
    ((∃ (f g : Nat → Int32), ws[q0]? = some (a0, .inl (Z.1, n0, .inl f)) ∧ ws[q1]? = some (a, .inl (Z.1, n1, .inl g)) ∧ k r (ws.set q1 (a, .inl (Z.1, n1, .inl (va_cpy f g sp.toNatClampNeg dp.toNatClampNeg n.toNatClampNeg))))) ∨
     (∃ (f g : Nat → Int64), ws[q0]? = some (a0, .inl (Z.2.1, n0, .inr (.inl f))) ∧ ws[q1]? = some (a, .inl (Z.2.1, n1, .inr (.inl g))) ∧ k r (ws.set q1 (a, .inl (Z.2.1, n1, .inr (.inl (va_cpy f g sp.toNatClampNeg dp.toNatClampNeg n.toNatClampNeg)))))))
/-- one instruction, as a predicate: K what must hold where it goes on, ret where it returns, xp where it throws, call the calls -/
def am_stp (Z : AmZ) (scr : AmS) (own : String) (cc : ByteArray) (nL : Nat) (rt : Option FieldType) (ini : Bool) (call callW : AmC) (xh : AmH) (ret : AmR) (K : AmK) (pc : Nat) (lv : List (Nat × Value)) (st : List Value) (ws : va_W) (C S : Nat) : Prop :=
  match decode cc pc with
  | .ok (.iconst n, 1) => K (pc + 1) lv (.int (Int32.ofInt n) :: st) ws C S
  | .ok (.bipush n, 2) => K (pc + 2) lv (.int (Int8.ofInt n).toInt32 :: st) ws C S
  | .ok (.sipush n, 3) => K (pc + 3) lv (.int (Int16.ofInt n).toInt32 :: st) ws C S
  | .ok (.lconst n, 1) => K (pc + 1) lv (.long (Int64.ofNat (n : Nat)) :: st) ws C S
  | .ok (.ldc i, 2) => (∃ v, Cond.constant own i v ∈ am_T ∧ K (pc + 2) lv (.int v :: st) ws C S) ∨ ∃ (k : Nat) (tx : String), am_lit[k]? = some (own, i, tx) ∧ K (pc + 2) lv (.ref (zs Z k) :: st) ws C S
  | .ok (.i2b, 1) => ∃ x r, st = Value.int x :: r ∧ K (pc + 1) lv (.int x.toInt8.toInt32 :: r) ws C S
  | .ok (.getstatic i, 3) => (Cond.fieldLink own i am_js "COMPACT_STRINGS" "Z" ∈ am_T ∧ K (pc + 3) lv (.int 1 :: st) ws C S) ∨ (Cond.fieldLink own i "jdk/internal/util/Preconditions" "SIOOBE_FORMATTER" "Ljava/util/function/BiFunction;" ∈ am_T ∧ ∀ v : Value, v.category = 1 → K (pc + 3) lv (v :: st) ws C S)
  | .ok (.ldc_w i, 3) => ∃ v, Cond.constant own i v ∈ am_T ∧ K (pc + 3) lv (.int v :: st) ws C S
  | .ok (.ldc2_w i, 3) => ∃ v, Cond.constantLong own i v ∈ am_T ∧ K (pc + 3) lv (.long v :: st) ws C S
  | .ok (.iload i, 2) => ∃ x, (i, Value.int x) ∈ lv ∧ K (pc + 2) lv (.int x :: st) ws C S
  | .ok (.iload_n i, 1) => ∃ x, ((i : Nat), Value.int x) ∈ lv ∧ K (pc + 1) lv (.int x :: st) ws C S
  | .ok (.istore i, 2) => ∃ x r, st = Value.int x :: r ∧ i < nL ∧ K (pc + 2) (am_s1 i (.int x) lv) (r) ws C S
  | .ok (.istore_n i, 1) => ∃ x r, st = Value.int x :: r ∧ (i : Nat) < nL ∧ K (pc + 1) (am_s1 (i : Nat) (.int x) lv) (r) ws C S
  | .ok (.lload i, 2) => ∃ x, (i, Value.long x) ∈ lv ∧ K (pc + 2) lv (.long x :: st) ws C S
  | .ok (.lload_n i, 1) => ∃ x, ((i : Nat), Value.long x) ∈ lv ∧ K (pc + 1) lv (.long x :: st) ws C S
  | .ok (.lstore i, 2) => ∃ x r, st = Value.long x :: r ∧ i + 1 < nL ∧ K (pc + 2) (am_s2 i (.long x) lv) (r) ws C S
  | .ok (.lstore_n i, 1) => ∃ x r, st = Value.long x :: r ∧ (i : Nat) + 1 < nL ∧ K (pc + 1) (am_s2 (i : Nat) (.long x) lv) (r) ws C S
  | .ok (.aload i, 2) => ∃ x, (i, Value.ref x) ∈ lv ∧ K (pc + 2) lv (.ref x :: st) ws C S
  | .ok (.aload_n i, 1) => ∃ x, ((i : Nat), Value.ref x) ∈ lv ∧ K (pc + 1) lv (.ref x :: st) ws C S
  | .ok (.astore i, 2) => ∃ x r, st = Value.ref x :: r ∧ i < nL ∧ K (pc + 2) (am_s1 i (.ref x) lv) (r) ws C S
  | .ok (.astore_n i, 1) => ∃ x r, st = Value.ref x :: r ∧ (i : Nat) < nL ∧ K (pc + 1) (am_s1 (i : Nat) (.ref x) lv) (r) ws C S
  | .ok (.iinc i n, 3) => ∃ x, (i, Value.int x) ∈ lv ∧ i < nL ∧ K (pc + 3) (am_s1 i (.int (x + Int32.ofInt n)) lv) (st) ws C S
  | .ok (.iadd, 1) => ∃ x y r, st = Value.int y :: Value.int x :: r ∧ K (pc + 1) lv (.int (x + y) :: r) ws C S
  | .ok (.isub, 1) => ∃ x y r, st = Value.int y :: Value.int x :: r ∧ K (pc + 1) lv (.int (x - y) :: r) ws C S
  | .ok (.imul, 1) => ∃ x y r, st = Value.int y :: Value.int x :: r ∧ K (pc + 1) lv (.int (x * y) :: r) ws C S
  | .ok (.iand, 1) => ∃ x y r, st = Value.int y :: Value.int x :: r ∧ K (pc + 1) lv (.int (x &&& y) :: r) ws C S
  | .ok (.ior, 1) => ∃ x y r, st = Value.int y :: Value.int x :: r ∧ K (pc + 1) lv (.int (x ||| y) :: r) ws C S
  | .ok (.ixor, 1) => ∃ x y r, st = Value.int y :: Value.int x :: r ∧ K (pc + 1) lv (.int (x ^^^ y) :: r) ws C S
  | .ok (.ishl, 1) => ∃ x y r, st = Value.int y :: Value.int x :: r ∧ K (pc + 1) lv (.int (x <<< (y &&& 31)) :: r) ws C S
  | .ok (.ishr, 1) => ∃ x y r, st = Value.int y :: Value.int x :: r ∧ K (pc + 1) lv (.int (x >>> (y &&& 31)) :: r) ws C S
  | .ok (.iushr, 1) => ∃ x y r, st = Value.int y :: Value.int x :: r ∧ K (pc + 1) lv (.int ((x.toUInt32 >>> (y.toUInt32 &&& Int32.toUInt32 31)).toInt32) :: r) ws C S
  | .ok (.idiv, 1) => ∃ x y r, st = Value.int y :: Value.int x :: r ∧ ¬ y = 0 ∧ K (pc + 1) lv (.int (x / y) :: r) ws C S
  | .ok (.irem, 1) => ∃ x y r, st = Value.int y :: Value.int x :: r ∧ ¬ y = 0 ∧ K (pc + 1) lv (.int (x - x / y * y) :: r) ws C S
  | .ok (.ladd, 1) => ∃ x y r, st = Value.long y :: Value.long x :: r ∧ K (pc + 1) lv (.long (x + y) :: r) ws C S
  | .ok (.lsub, 1) => ∃ x y r, st = Value.long y :: Value.long x :: r ∧ K (pc + 1) lv (.long (x - y) :: r) ws C S
  | .ok (.lmul, 1) => ∃ x y r, st = Value.long y :: Value.long x :: r ∧ K (pc + 1) lv (.long (x * y) :: r) ws C S
  | .ok (.land, 1) => ∃ x y r, st = Value.long y :: Value.long x :: r ∧ K (pc + 1) lv (.long (x &&& y) :: r) ws C S
  | .ok (.lor, 1) => ∃ x y r, st = Value.long y :: Value.long x :: r ∧ K (pc + 1) lv (.long (x ||| y) :: r) ws C S
  | .ok (.lxor, 1) => ∃ x y r, st = Value.long y :: Value.long x :: r ∧ K (pc + 1) lv (.long (x ^^^ y) :: r) ws C S
  | .ok (.ldiv, 1) => ∃ x y r, st = Value.long y :: Value.long x :: r ∧ ¬ y = 0 ∧ K (pc + 1) lv (.long (x / y) :: r) ws C S
  | .ok (.lrem, 1) => ∃ x y r, st = Value.long y :: Value.long x :: r ∧ ¬ y = 0 ∧ K (pc + 1) lv (.long (x - x / y * y) :: r) ws C S
  | .ok (.lshl, 1) => ∃ x y r, st = Value.int y :: Value.long x :: r ∧ K (pc + 1) lv (.long (x <<< (y.toInt64 &&& 63)) :: r) ws C S
  | .ok (.lshr, 1) => ∃ x y r, st = Value.int y :: Value.long x :: r ∧ K (pc + 1) lv (.long (x >>> (y.toInt64 &&& 63)) :: r) ws C S
  | .ok (.lushr, 1) => ∃ x y r, st = Value.int y :: Value.long x :: r ∧ K (pc + 1) lv (.long ((x.toUInt64 >>> (y.toInt64.toUInt64 &&& Int64.toUInt64 63)).toInt64) :: r) ws C S
  | .ok (.lcmp, 1) => ∃ x y r, st = Value.long y :: Value.long x :: r ∧ K (pc + 1) lv (.int (lg_cmp x y) :: r) ws C S
  | .ok (.ineg, 1) => ∃ x r, st = Value.int x :: r ∧ K (pc + 1) lv (.int (-x) :: r) ws C S
  | .ok (.lneg, 1) => ∃ x r, st = Value.long x :: r ∧ K (pc + 1) lv (.long (-x) :: r) ws C S
  | .ok (.i2l, 1) => ∃ x r, st = Value.int x :: r ∧ K (pc + 1) lv (.long x.toInt64 :: r) ws C S
  | .ok (.l2i, 1) => ∃ x r, st = Value.long x :: r ∧ K (pc + 1) lv (.int x.toInt32 :: r) ws C S
  | .ok (.i2c, 1) => ∃ x r, st = Value.int x :: r ∧ K (pc + 1) lv (.int (x.toUInt32 % 65536).toInt32 :: r) ws C S
  | .ok (.dup, 1) => ∃ (v : Value) (r : List Value), st = v :: r ∧ v.category = 1 ∧ K (pc + 1) lv (v :: v :: r) ws C S
  | .ok (.pop, 1) => ∃ (v : Value) (r : List Value), st = v :: r ∧ v.category = 1 ∧ K (pc + 1) lv (r) ws C S
  | .ok (.pop2, 1) => ∃ (v : Value) (r : List Value), st = v :: r ∧ v.category = 2 ∧ K (pc + 1) lv (r) ws C S
  | .ok (.dup2, 1) => ∃ (v w : Value) (r : List Value), st = v :: w :: r ∧ v.category = 1 ∧ w.category = 1 ∧ K (pc + 1) lv (v :: w :: v :: w :: r) ws C S
  | .ok (.ifCond .eq o, 3) => ∃ x r, st = Value.int x :: r ∧ 0 ≤ (pc : Int) + o ∧ (x = 0 → K ((pc : Int) + o).toNat lv (r) ws C S) ∧ (¬ x = 0 → K (pc + 3) lv (r) ws C S)
  | .ok (.ifCond .ne o, 3) => ∃ x r, st = Value.int x :: r ∧ 0 ≤ (pc : Int) + o ∧ (¬ x = 0 → K ((pc : Int) + o).toNat lv (r) ws C S) ∧ (x = 0 → K (pc + 3) lv (r) ws C S)
  | .ok (.ifCond .lt o, 3) => ∃ x r, st = Value.int x :: r ∧ 0 ≤ (pc : Int) + o ∧ (x < 0 → K ((pc : Int) + o).toNat lv (r) ws C S) ∧ (¬ x < 0 → K (pc + 3) lv (r) ws C S)
  | .ok (.ifCond .ge o, 3) => ∃ x r, st = Value.int x :: r ∧ 0 ≤ (pc : Int) + o ∧ (0 ≤ x → K ((pc : Int) + o).toNat lv (r) ws C S) ∧ (¬ 0 ≤ x → K (pc + 3) lv (r) ws C S)
  | .ok (.ifCond .gt o, 3) => ∃ x r, st = Value.int x :: r ∧ 0 ≤ (pc : Int) + o ∧ (0 < x → K ((pc : Int) + o).toNat lv (r) ws C S) ∧ (¬ 0 < x → K (pc + 3) lv (r) ws C S)
  | .ok (.ifCond .le o, 3) => ∃ x r, st = Value.int x :: r ∧ 0 ≤ (pc : Int) + o ∧ (x ≤ 0 → K ((pc : Int) + o).toNat lv (r) ws C S) ∧ (¬ x ≤ 0 → K (pc + 3) lv (r) ws C S)
  | .ok (.if_icmp .eq o, 3) => ∃ x y r, st = Value.int y :: Value.int x :: r ∧ 0 ≤ (pc : Int) + o ∧ (x = y → K ((pc : Int) + o).toNat lv (r) ws C S) ∧ (¬ x = y → K (pc + 3) lv (r) ws C S)
  | .ok (.if_icmp .ne o, 3) => ∃ x y r, st = Value.int y :: Value.int x :: r ∧ 0 ≤ (pc : Int) + o ∧ (¬ x = y → K ((pc : Int) + o).toNat lv (r) ws C S) ∧ (x = y → K (pc + 3) lv (r) ws C S)
  | .ok (.if_icmp .lt o, 3) => ∃ x y r, st = Value.int y :: Value.int x :: r ∧ 0 ≤ (pc : Int) + o ∧ (x < y → K ((pc : Int) + o).toNat lv (r) ws C S) ∧ (¬ x < y → K (pc + 3) lv (r) ws C S)
  | .ok (.if_icmp .ge o, 3) => ∃ x y r, st = Value.int y :: Value.int x :: r ∧ 0 ≤ (pc : Int) + o ∧ (y ≤ x → K ((pc : Int) + o).toNat lv (r) ws C S) ∧ (¬ y ≤ x → K (pc + 3) lv (r) ws C S)
  | .ok (.if_icmp .gt o, 3) => ∃ x y r, st = Value.int y :: Value.int x :: r ∧ 0 ≤ (pc : Int) + o ∧ (y < x → K ((pc : Int) + o).toNat lv (r) ws C S) ∧ (¬ y < x → K (pc + 3) lv (r) ws C S)
  | .ok (.if_icmp .le o, 3) => ∃ x y r, st = Value.int y :: Value.int x :: r ∧ 0 ≤ (pc : Int) + o ∧ (x ≤ y → K ((pc : Int) + o).toNat lv (r) ws C S) ∧ (¬ x ≤ y → K (pc + 3) lv (r) ws C S)
  | .ok (.goto o, 3) => 0 ≤ (pc : Int) + o ∧ K ((pc : Int) + o).toNat lv (st) ws C S
  | .ok (.tableswitch df lo hi os, _) => ∃ x r, st = Value.int x :: r ∧ (∀ o, ¬ x.toInt < lo → ¬ hi < x.toInt → os[(x.toInt - lo).toNat]? = some o → 0 ≤ (pc : Int) + o ∧ K ((pc : Int) + o).toNat lv (r) ws C S) ∧ (¬ x.toInt < lo → ¬ hi < x.toInt → (os[(x.toInt - lo).toNat]?).isSome = true) ∧ ((x.toInt < lo ∨ hi < x.toInt) → 0 ≤ (pc : Int) + df ∧ K ((pc : Int) + df).toNat lv (r) ws C S)
  | .ok (.lookupswitch df ps, _) => ∃ x r, st = Value.int x :: r ∧ (ps.toList.zip (ps.toList.drop 1)).all (fun (a, next) => a.1 < next.1) = true ∧ 0 ≤ (pc : Int) + Op.lookupswitch.offset ps.toList df x.toInt ∧ K ((pc : Int) + Op.lookupswitch.offset ps.toList df x.toInt).toNat lv (r) ws C S
  | .ok (.getfield i, 3) => (∃ (a : Nat) (r : List Value) (q ci : Nat) (fs : List Value) (Cn : String) (T : u_T) (N k : Nat) (v : Value), st = Value.ref a :: r ∧ ws[q]? = some (a, .inr (ci, fs)) ∧ vwCl[ci]? = some (Cn, T, N) ∧ k < N ∧ Cond.fieldLink own i (T k).1 (T k).2.1 (T k).2.2.1 ∈ am_T ∧ fs[k]? = some v ∧ K (pc + 3) lv (v :: r) ws C S) ∨ ∃ (k : Nat) (r : List Value), k < 7 ∧ st = Value.ref (zs Z k) :: r ∧ ((Cond.fieldLink own i am_js "value" "[B" ∈ am_T ∧ K (pc + 3) lv (.ref (zb Z k) :: r) ws C S) ∨ (Cond.fieldLink own i am_js "coder" "B" ∈ am_T ∧ K (pc + 3) lv (.int 0 :: r) ws C S))
  | .ok (.putfield i, 3) => ∃ (a : Nat) (r : List Value) (q ci : Nat) (fs : List Value) (Cn : String) (T : u_T) (N k : Nat) (v : Value), st = v :: Value.ref a :: r ∧ ws[q]? = some (a, .inr (ci, fs)) ∧ vwCl[ci]? = some (Cn, T, N) ∧ k < N ∧ Cond.fieldLink own i (T k).1 (T k).2.1 (T k).2.2.1 ∈ am_T ∧ k < fs.length ∧ narrow (am_t T k) v = v ∧ fits (am_t T k) v = true ∧ ((T k).2.2.2 = true → ini = true ∧ (T k).1 = own) ∧ K (pc + 3) lv (r) (ws.set q (a, .inr (ci, fs.set k v))) C S
  | .ok (.iaload, 1) => (∃ (b L : Nat) (xs : Nat → Int32) (j : Int32) (r : List Value), scr = some (b, L, xs) ∧ st = Value.int j :: Value.ref b :: r ∧ vp_in j L ∧ K (pc + 1) lv (.int (xs j.toNatClampNeg) :: r) ws C S) ∨ ∃ (a : Nat) (j : Int32) (r : List Value) (q n : Nat) (f : Nat → Int32), st = Value.int j :: Value.ref a :: r ∧ ws[q]? = some (a, .inl (Z.1, n, .inl f)) ∧ vp_in j n ∧ K (pc + 1) lv (.int (f j.toNatClampNeg) :: r) ws C S
  | .ok (.laload, 1) => ∃ (a : Nat) (j : Int32) (r : List Value) (q n : Nat) (f : Nat → Int64), st = Value.int j :: Value.ref a :: r ∧ ws[q]? = some (a, .inl (Z.2.1, n, .inr (.inl f))) ∧ vp_in j n ∧ K (pc + 1) lv (.long (f j.toNatClampNeg) :: r) ws C S
  | .ok (.caload, 1) => ∃ (a : Nat) (j : Int32) (r : List Value) (q n : Nat) (f : Nat → Int32), st = Value.int j :: Value.ref a :: r ∧ ws[q]? = some (a, .inl (Z.2.2.1, n, .inl f)) ∧ vp_in j n ∧ K (pc + 1) lv (.int (f j.toNatClampNeg) :: r) ws C S
  | .ok (.baload, 1) => (∃ (a : Nat) (j : Int32) (r : List Value) (q n : Nat) (f : Nat → Int32), st = Value.int j :: Value.ref a :: r ∧ ws[q]? = some (a, .inl (Z.2.2.2.1, n, .inl f)) ∧ vp_in j n ∧ K (pc + 1) lv (.int (f j.toNatClampNeg) :: r) ws C S) ∨ ∃ (k : Nat) (j : Int32) (r : List Value), k < 7 ∧ st = Value.int j :: Value.ref (zb Z k) :: r ∧ vp_in j (am_len.getD k 0) ∧ K (pc + 1) lv (.int ((am_byt.getD k []).getD j.toNatClampNeg 0) :: r) ws C S
  | .ok (.iastore, 1) => ∃ (a : Nat) (j x : Int32) (r : List Value) (q n : Nat) (f : Nat → Int32), st = Value.int x :: Value.int j :: Value.ref a :: r ∧ ws[q]? = some (a, .inl (Z.1, n, .inl f)) ∧ vp_in j n ∧ K (pc + 1) lv (r) (ws.set q (a, .inl (Z.1, n, .inl (upd f j.toNatClampNeg x)))) C S
  | .ok (.lastore, 1) => ∃ (a : Nat) (j : Int32) (x : Int64) (r : List Value) (q n : Nat) (f : Nat → Int64), st = Value.long x :: Value.int j :: Value.ref a :: r ∧ ws[q]? = some (a, .inl (Z.2.1, n, .inr (.inl f))) ∧ vp_in j n ∧ K (pc + 1) lv (r) (ws.set q (a, .inl (Z.2.1, n, .inr (.inl (vp_updL f j.toNatClampNeg x))))) C S
  | .ok (.castore, 1) => ∃ (a : Nat) (j x : Int32) (r : List Value) (q n : Nat) (f : Nat → Int32), st = Value.int x :: Value.int j :: Value.ref a :: r ∧ ws[q]? = some (a, .inl (Z.2.2.1, n, .inl f)) ∧ vp_in j n ∧ K (pc + 1) lv (r) (ws.set q (a, .inl (Z.2.2.1, n, .inl (upd f j.toNatClampNeg (vp_nar .char x))))) C S
  | .ok (.bastore, 1) => ∃ (a : Nat) (j x : Int32) (r : List Value) (q n : Nat) (f : Nat → Int32), st = Value.int x :: Value.int j :: Value.ref a :: r ∧ ws[q]? = some (a, .inl (Z.2.2.2.1, n, .inl f)) ∧ vp_in j n ∧ K (pc + 1) lv (r) (ws.set q (a, .inl (Z.2.2.2.1, n, .inl (upd f j.toNatClampNeg (vp_nar .boolean x))))) C S
  | .ok (.arraylength, 1) => (∃ (b L : Nat) (xs : Nat → Int32) (r : List Value), scr = some (b, L, xs) ∧ st = Value.ref b :: r ∧ K (pc + 1) lv (.int (Int32.ofNat L) :: r) ws C S) ∨ (∃ (a : Nat) (r : List Value) (q : Nat) (cA : ClassId) (x : vp_A) (t : Nat) (ty : FieldType), st = Value.ref a :: r ∧ ws[q]? = some (a, .inl (cA, x)) ∧ (am_tys Z)[t]? = some (cA, ty) ∧ K (pc + 1) lv (.int (Int32.ofNat x.1) :: r) ws C S) ∨ ∃ (k : Nat) (r : List Value), k < 7 ∧ st = Value.ref (zb Z k) :: r ∧ K (pc + 1) lv (.int (Int32.ofNat (am_len.getD k 0)) :: r) ws C S
  | .ok (.new i, 3) => ∃ (ci : Nat) (Cn : String) (T : u_T) (N : Nat), vwCl[ci]? = some (Cn, T, N) ∧ Cond.classLink own i Cn ∈ am_T ∧ 1 ≤ C ∧ N ≤ S ∧ ∀ q, am_fresh q ws → K (pc + 3) lv (.ref q :: st) (ws ++ [(q, .inr (ci, am_new T N))]) (C - 1) (S - N)
  | .ok (.newarray .int, 2) => ∃ (n : Int32) (r : List Value), st = Value.int n :: r ∧ ¬ n < 0 ∧ n.toNatClampNeg ≤ 60000000 ∧ 1 ≤ C ∧ n.toNatClampNeg ≤ S ∧ ∀ q, am_fresh q ws → K (pc + 2) lv (.ref q :: r) (ws ++ [(q, .inl (Z.1, n.toNatClampNeg, .inl (fun _ => 0)))]) (C - 1) (S - n.toNatClampNeg)
  | .ok (.newarray .long, 2) => ∃ (n : Int32) (r : List Value), st = Value.int n :: r ∧ ¬ n < 0 ∧ n.toNatClampNeg ≤ 60000000 ∧ 1 ≤ C ∧ n.toNatClampNeg ≤ S ∧ ∀ q, am_fresh q ws → K (pc + 2) lv (.ref q :: r) (ws ++ [(q, .inl (Z.2.1, n.toNatClampNeg, .inr (.inl (fun _ => 0))))]) (C - 1) (S - n.toNatClampNeg)
  | .ok (.newarray .char, 2) => ∃ (n : Int32) (r : List Value), st = Value.int n :: r ∧ ¬ n < 0 ∧ n.toNatClampNeg ≤ 60000000 ∧ 1 ≤ C ∧ n.toNatClampNeg ≤ S ∧ ∀ q, am_fresh q ws → K (pc + 2) lv (.ref q :: r) (ws ++ [(q, .inl (Z.2.2.1, n.toNatClampNeg, .inl (fun _ => 0)))]) (C - 1) (S - n.toNatClampNeg)
  | .ok (.newarray .boolean, 2) => ∃ (n : Int32) (r : List Value), st = Value.int n :: r ∧ ¬ n < 0 ∧ n.toNatClampNeg ≤ 60000000 ∧ 1 ≤ C ∧ n.toNatClampNeg ≤ S ∧ ∀ q, am_fresh q ws → K (pc + 2) lv (.ref q :: r) (ws ++ [(q, .inl (Z.2.2.2.1, n.toNatClampNeg, .inl (fun _ => 0)))]) (C - 1) (S - n.toNatClampNeg)
  | .ok (.invokevirtual i, 3) => (∃ (y : MethodName) (b : Nat) (As r : List Value) (mc1 ms1 q ci : Nat) (fs : List Value) (T : u_T) (N : Nat), st = As.reverse ++ Value.ref b :: r ∧ am_plain y As.length ∧ Cond.methodLink own i y ∈ am_T ∧ Cond.instanceMethod y ∈ am_T ∧ Cond.selects y.cls y y ∈ am_T ∧ Cond.initialized y.cls ∈ am_T ∧ ws[q]? = some (b, .inr (ci, fs)) ∧ vwCl[ci]? = some (y.cls, T, N) ∧ (r.map fun v => v.category).sum ≤ 8 ∧ mc1 ≤ C ∧ ms1 ≤ S ∧ call y (.ref b :: As) ws mc1 ms1 (fun v u => K (pc + 3) lv (v.toList ++ r) u (C - mc1) (S - ms1)) (xh K pc lv (C - mc1) (S - ms1))) ∨ (∃ (y : MethodName) (b : Nat) (As r : List Value) (mc1 ms1 k : Nat), st = As.reverse ++ Value.ref b :: r ∧ am_plain y As.length ∧ Cond.methodLink own i y ∈ am_T ∧ Cond.instanceMethod y ∈ am_T ∧ Cond.selects y.cls y y ∈ am_T ∧ Cond.initialized y.cls ∈ am_T ∧ k < 7 ∧ b = zs Z k ∧ y.cls = am_js ∧ (r.map fun v => v.category).sum ≤ 8 ∧ mc1 ≤ C ∧ ms1 ≤ S ∧ call y (.ref b :: As) ws mc1 ms1 (fun v u => K (pc + 3) lv (v.toList ++ r) u (C - mc1) (S - ms1)) (xh K pc lv (C - mc1) (S - ms1)))
  | .ok (.invokestatic i, 3) => am_arraycopy Z own i (fun r u => K (pc + 3) lv (r) u C S) st ws ∨ ∃ (y : MethodName) (As r : List Value) (mc1 ms1 : Nat), st = As.reverse ++ r ∧ am_plain y As.length ∧ Cond.static y ∈ am_T ∧ Cond.initialized y.cls ∈ am_T ∧ (r.map fun v => v.category).sum ≤ 8 ∧ mc1 ≤ C ∧ ms1 ≤ S ∧ ((Cond.methodLink own i y ∈ am_T ∧ call y As ws mc1 ms1 (fun v u => K (pc + 3) lv (v.toList ++ r) u (C - mc1) (S - ms1)) (xh K pc lv (C - mc1) (S - ms1))) ∨ (Cond.methodLink own i y ∈ am_T ∧ callW y As ws mc1 ms1 (fun v u => K (pc + 3) lv (v.toList ++ r) u (C - mc1) (S - ms1)) (fun _ _ => False)) ∨ ∃ host, Cond.methodLinkNest own i y host ∈ lw_tbl ∧ call y As ws mc1 ms1 (fun v u => K (pc + 3) lv (v.toList ++ r) u (C - mc1) (S - ms1)) (fun _ _ => False))
  | .ok (.invokespecial i, 3) => (∃ a r, st = Value.ref a :: r ∧ (r.map fun v => v.category).sum ≤ 8 ∧ Cond.methodLink own i objectInit ∈ am_T ∧ K (pc + 3) lv (r) ws C S) ∨ ∃ (y : MethodName) (b : Nat) (As r : List Value) (mc1 ms1 : Nat), st = As.reverse ++ Value.ref b :: r ∧ am_plain y As.length ∧ y.name = "<init>" ∧ Cond.instanceMethod y ∈ am_T ∧ Cond.initialized y.cls ∈ am_T ∧ (r.map fun v => v.category).sum ≤ 8 ∧ mc1 ≤ C ∧ ms1 ≤ S ∧ (∃ bytes maxL, Cond.code y bytes maxL none ∈ am_T) ∧ (Cond.methodLink own i y ∈ am_T ∨ ∃ host, Cond.methodLinkNest own i y host ∈ lw_tbl) ∧ call y (.ref b :: As) ws mc1 ms1 (fun v u => K (pc + 3) lv (v.toList ++ r) u (C - mc1) (S - ms1)) (fun _ _ => False)
  | .ok (.ireturn, 1) => ∃ (v : Int32) (ty : FieldType), st = [Value.int v] ∧ rt = some ty ∧ narrow ty (.int v) = .int v ∧ ret (some (.int v)) ws
  | .ok (.lreturn, 1) => ∃ (v : Int64), st = [Value.long v] ∧ rt = some .long ∧ ret (some (.long v)) ws
  | .ok (.areturn, 1) => ∃ (a : Nat) (ty : FieldType), st = [Value.ref a] ∧ rt = some ty ∧ ((∃ n, ty = .object n) ∨ ∃ t, ty = .array t) ∧ ret (some (.ref a)) ws
  | .ok (.return_, 1) => st = [] ∧ rt = none ∧ ret none ws
  | _ => False
/-- an instruction that returns -/
def am_end (cc : ByteArray) (rt : Option FieldType) (ret : AmR) (pc : Nat) (st : List Value) (ws : va_W) : Prop :=
  match decode cc pc with
  | .ok (.ireturn, 1) => ∃ (v : Int32) (ty : FieldType), st = [Value.int v] ∧ rt = some ty ∧ narrow ty (.int v) = .int v ∧ ret (some (.int v)) ws
  | .ok (.lreturn, 1) => ∃ (v : Int64), st = [Value.long v] ∧ rt = some .long ∧ ret (some (.long v)) ws
  | .ok (.areturn, 1) => ∃ (a : Nat) (ty : FieldType), st = [Value.ref a] ∧ rt = some ty ∧ ((∃ n, ty = .object n) ∨ ∃ t, ty = .array t) ∧ ret (some (.ref a)) ws
  | .ok (.return_, 1) => st = [] ∧ rt = none ∧ ret none ws
  | _ => False
/-- cells forgotten, or put in another order -/
def am_less (ws' ws : va_W) : Prop := ∃ g : Nat → Nat, (∀ (k : Nat) (q : Nat × va_E), ws'[k]? = some q → ws[g k]? = some q) ∧ ∀ i j : Nat, i < ws'.length → j < ws'.length → g i = g j → i = j
/-- a body, by fuel -/
def am_run (Z : AmZ) (scr : AmS) (own : String) (cc : ByteArray) (nL : Nat) (rt : Option FieldType) (ini : Bool) (call callW : AmC) (xh : AmH) (ret : AmR) : Nat → AmK
  | 0 => fun _ _ _ _ _ _ => False
  | n + 1 => fun pc lv st ws C S => am_stp Z scr own cc nL rt ini call callW xh ret (am_run Z scr own cc nL rt ini call callW xh ret n) pc lv st ws C S ∨ ∃ ws' : va_W, am_less ws' ws ∧ am_run Z scr own cc nL rt ini call callW xh ret n pc lv st ws' C S
def am_no : AmC := fun _ _ _ _ _ _ _ => False
/-- a method's call, by the depth of calls; leaf: contracts that are proved by hand -/
def am_wp (Z : AmZ) (leaf : AmC) : Nat → AmC
  | 0 => am_no
  | d + 1 => fun y as ws mc ms post xp => (5 ≤ d ∧ leaf y as ws mc ms post xp) ∨ ∃ cc nL rt n, Cond.code y cc nL rt ∈ am_T ∧ nL ≤ 45 ∧ (lg_sl as).length ≤ nL ∧ plainFor y = true ∧ am_run Z none y.cls cc nL rt (decide (y.name = "<init>")) (am_wp Z leaf d) am_no (fun _ _ _ _ _ => xp) post n 0 (lv_args 0 as) [] ws mc ms
end
section
/-! THE LAYER IS SOUND. First the tables' words. -/
theorem am_good {w : Cond} (h : w ∈ am_T) : goodWord w = true := (List.mem_filter.mp h).2
theorem am_tbl {w : Cond} (h : w ∈ am_T) : w ∈ lw_tbl := (List.mem_filter.mp h).1
theorem am_at (i : Nat) {w : Cond} (h : lw_tbl[i]? = some w) (g : goodWord w = true) : w ∈ am_T := List.mem_filter.mpr ⟨List.mem_of_getElem? h, g⟩
def evo : List Cond → List Cond → Bool
  | _, [] => true
  | [], _ :: _ => false
  | [t], w :: ws => decide (t = w) && ws.isEmpty
  | t :: _ :: T, w :: ws => decide (t = w) && evo T ws
theorem evo_m : ∀ (T ws : List Cond), evo T ws = true → ∀ w ∈ ws, w ∈ T
  | _, [], _ => fun w hw => absurd hw (List.not_mem_nil)
  | [], _ :: _, h => by cases h
  | [t], x :: ws, h => by
    intro w hw
    have h2 : (decide (t = x) && ws.isEmpty) = true := h
    rw [Bool.and_eq_true, decide_eq_true_iff, List.isEmpty_iff] at h2
    rw [h2.2, List.mem_singleton] at hw
    rw [hw, h2.1]
    exact List.mem_singleton.mpr rfl
  | t :: u :: T, x :: ws, h => by
    intro w hw
    have h2 : (decide (t = x) && evo T ws) = true := h
    rw [Bool.and_eq_true, decide_eq_true_iff] at h2
    rcases List.mem_cons.mp hw with e | e
    · rw [e, ← h2.1]
      exact List.mem_cons_self
    · exact List.mem_cons_of_mem _ (List.mem_cons_of_mem _ (evo_m T ws h2.2 w e))
theorem am_evo {ws : List Cond} (k : Nat) (h1 : evo (lw_tbl.drop k) ws = true) (h2 : ws.all goodWord = true) : ∀ w ∈ ws, w ∈ am_T := by
  intro w hw
  exact List.mem_filter.mpr ⟨List.mem_of_mem_drop (evo_m _ _ h1 w hw), List.all_eq_true.mp h2 w hw⟩
set_option maxRecDepth 100000 in
theorem am_in0 : ∀ w ∈ u_ws RX0 TX0 9, w ∈ am_T := am_evo 526 (by decide +kernel) (by decide +kernel)
theorem am_inst0 : Cond.instantiable RX0 9 ∈ am_T := am_at 512 (by decide +kernel) (by decide +kernel)
theorem am_ini0 : Cond.initialized RX0 ∈ am_T := am_at 178 (by decide +kernel) (by decide +kernel)
set_option maxRecDepth 100000 in
theorem am_in1 : ∀ w ∈ u_ws RX1 TX1 13, w ∈ am_T := am_evo 753 (by decide +kernel) (by decide +kernel)
theorem am_inst1 : Cond.instantiable RX1 13 ∈ am_T := am_at 730 (by decide +kernel) (by decide +kernel)
theorem am_ini1 : Cond.initialized RX1 ∈ am_T := am_at 183 (by decide +kernel) (by decide +kernel)
set_option maxRecDepth 100000 in
theorem am_in2 : ∀ w ∈ u_ws RX2 TX2 19, w ∈ am_T := am_evo 573 (by decide +kernel) (by decide +kernel)
theorem am_inst2 : Cond.instantiable RX2 19 ∈ am_T := am_at 546 (by decide +kernel) (by decide +kernel)
theorem am_ini2 : Cond.initialized RX2 ∈ am_T := am_at 179 (by decide +kernel) (by decide +kernel)
set_option maxRecDepth 100000 in
theorem am_in3 : ∀ w ∈ u_ws RX3 TX3 18, w ∈ am_T := am_evo 332 (by decide +kernel) (by decide +kernel)
theorem am_inst3 : Cond.instantiable RX3 18 ∈ am_T := am_at 214 (by decide +kernel) (by decide +kernel)
theorem am_ini3 : Cond.initialized RX3 ∈ am_T := am_at 173 (by decide +kernel) (by decide +kernel)
set_option maxRecDepth 100000 in
theorem am_in4 : ∀ w ∈ u_ws RX4 TX4 11, w ∈ am_T := am_evo 672 (by decide +kernel) (by decide +kernel)
theorem am_inst4 : Cond.instantiable RX4 11 ∈ am_T := am_at 656 (by decide +kernel) (by decide +kernel)
theorem am_ini4 : Cond.initialized RX4 ∈ am_T := am_at 181 (by decide +kernel) (by decide +kernel)
set_option maxRecDepth 100000 in
theorem am_in5 : ∀ w ∈ u_ws RX5 TX5 4, w ∈ am_T := am_evo 375 (by decide +kernel) (by decide +kernel)
theorem am_inst5 : Cond.instantiable RX5 4 ∈ am_T := am_at 208 (by decide +kernel) (by decide +kernel)
theorem am_ini5 : Cond.initialized RX5 ∈ am_T := am_at 172 (by decide +kernel) (by decide +kernel)
set_option maxRecDepth 100000 in
theorem am_in6 : ∀ w ∈ u_ws RX6 TX6 6, w ∈ am_T := am_evo 498 (by decide +kernel) (by decide +kernel)
theorem am_inst6 : Cond.instantiable RX6 6 ∈ am_T := am_at 487 (by decide +kernel) (by decide +kernel)
theorem am_ini6 : Cond.initialized RX6 ∈ am_T := am_at 177 (by decide +kernel) (by decide +kernel)
set_option maxRecDepth 100000 in
theorem am_in7 : ∀ w ∈ u_ws RX7 TX7 9, w ∈ am_T := am_evo 710 (by decide +kernel) (by decide +kernel)
theorem am_inst7 : Cond.instantiable RX7 9 ∈ am_T := am_at 696 (by decide +kernel) (by decide +kernel)
theorem am_ini7 : Cond.initialized RX7 ∈ am_T := am_at 182 (by decide +kernel) (by decide +kernel)
set_option maxRecDepth 100000 in
theorem am_in8 : ∀ w ∈ u_ws RX8 TX8 10, w ∈ am_T := am_evo 417 (by decide +kernel) (by decide +kernel)
theorem am_inst8 : Cond.instantiable RX8 10 ∈ am_T := am_at 387 (by decide +kernel) (by decide +kernel)
theorem am_ini8 : Cond.initialized RX8 ∈ am_T := am_at 175 (by decide +kernel) (by decide +kernel)
set_option maxRecDepth 100000 in
theorem am_in9 : ∀ w ∈ u_ws RX9 TX9 12, w ∈ am_T := am_evo 630 (by decide +kernel) (by decide +kernel)
theorem am_inst9 : Cond.instantiable RX9 12 ∈ am_T := am_at 613 (by decide +kernel) (by decide +kernel)
theorem am_ini9 : Cond.initialized RX9 ∈ am_T := am_at 180 (by decide +kernel) (by decide +kernel)
set_option maxRecDepth 100000 in
theorem am_in10 : ∀ w ∈ u_ws RX10 TX10 13, w ∈ am_T := am_evo 458 (by decide +kernel) (by decide +kernel)
theorem am_inst10 : Cond.instantiable RX10 13 ∈ am_T := am_at 440 (by decide +kernel) (by decide +kernel)
theorem am_ini10 : Cond.initialized RX10 ∈ am_T := am_at 176 (by decide +kernel) (by decide +kernel)
set_option maxRecDepth 100000 in
theorem am_in11 : ∀ w ∈ u_ws RX11 TX11 12, w ∈ am_T := am_evo 792 (by decide +kernel) (by decide +kernel)
theorem am_inst11 : Cond.instantiable RX11 12 ∈ am_T := am_at 200 (by decide +kernel) (by decide +kernel)
theorem am_ini11 : Cond.initialized RX11 ∈ am_T := am_at 171 (by decide +kernel) (by decide +kernel)
set_option maxRecDepth 100000 in
theorem am_in12 : ∀ w ∈ u_ws RX12 TX12 122, w ∈ am_T := am_evo 2270 (by decide +kernel) (by decide +kernel)
theorem am_inst12 : Cond.instantiable RX12 122 ∈ am_T := am_at 2139 (by decide +kernel) (by decide +kernel)
theorem am_ini12 : Cond.initialized RX12 ∈ am_T := am_at 184 (by decide +kernel) (by decide +kernel)
theorem am_cls {P : String → u_T → Nat → Prop} (h0 : P RX0 TX0 9) (h1 : P RX1 TX1 13) (h2 : P RX2 TX2 19) (h3 : P RX3 TX3 18) (h4 : P RX4 TX4 11) (h5 : P RX5 TX5 4) (h6 : P RX6 TX6 6) (h7 : P RX7 TX7 9) (h8 : P RX8 TX8 10) (h9 : P RX9 TX9 12) (h10 : P RX10 TX10 13) (h11 : P RX11 TX11 12) (h12 : P RX12 TX12 122) : ∀ {ci : Nat} {Cn : String} {T : u_T} {N : Nat}, vwCl[ci]? = some (Cn, T, N) → P Cn T N := by
  intro ci Cn T N h
  match ci, h with
  | 0, h => cases h; exact h0
  | 1, h => cases h; exact h1
  | 2, h => cases h; exact h2
  | 3, h => cases h; exact h3
  | 4, h => cases h; exact h4
  | 5, h => cases h; exact h5
  | 6, h => cases h; exact h6
  | 7, h => cases h; exact h7
  | 8, h => cases h; exact h8
  | 9, h => cases h; exact h9
  | 10, h => cases h; exact h10
  | 11, h => cases h; exact h11
  | 12, h => cases h; exact h12
  | k + 13, h => simp [vwCl] at h
theorem am_in {ci : Nat} {Cn : String} {T : u_T} {N : Nat} (h : vwCl[ci]? = some (Cn, T, N)) : ∀ w ∈ u_ws Cn T N, w ∈ am_T := am_cls (P := fun Cn T N => ∀ w ∈ u_ws Cn T N, w ∈ am_T) am_in0 am_in1 am_in2 am_in3 am_in4 am_in5 am_in6 am_in7 am_in8 am_in9 am_in10 am_in11 am_in12 h
theorem am_inst {ci : Nat} {Cn : String} {T : u_T} {N : Nat} (h : vwCl[ci]? = some (Cn, T, N)) : Cond.instantiable Cn N ∈ am_T := am_cls (P := fun Cn T N => Cond.instantiable Cn N ∈ am_T) am_inst0 am_inst1 am_inst2 am_inst3 am_inst4 am_inst5 am_inst6 am_inst7 am_inst8 am_inst9 am_inst10 am_inst11 am_inst12 h
theorem am_ini {ci : Nat} {Cn : String} {T : u_T} {N : Nat} (h : vwCl[ci]? = some (Cn, T, N)) : Cond.initialized Cn ∈ am_T := am_cls (P := fun Cn T N => Cond.initialized Cn ∈ am_T) am_ini0 am_ini1 am_ini2 am_ini3 am_ini4 am_ini5 am_ini6 am_ini7 am_ini8 am_ini9 am_ini10 am_ini11 am_ini12 h
theorem am_nm {ci : Nat} {Cn : String} {T : u_T} {N : Nat} (h : vwCl[ci]? = some (Cn, T, N)) : ∀ a, a < N → ∀ b, b < N → a ≠ b → (T a).2.1 ≠ (T b).2.1 := am_cls (P := fun Cn T N => ∀ a, a < N → ∀ b, b < N → a ≠ b → (T a).2.1 ≠ (T b).2.1) nmX0 nmX1 nmX2 nmX3 nmX4 nmX5 nmX6 nmX7 nmX8 nmX9 nmX10 nmX11 nmX12 h
theorem am_tyq {T : u_T} {N : Nat} {ty : Nat → FieldType} (h : ∀ k, k < N → parseFieldDescriptor (T k).2.2.1 = some (ty k)) : ∀ k, k < N → parseFieldDescriptor (T k).2.2.1 = some (am_t T k) := fun k hk => by rw [h k hk, am_t, h k hk]; rfl
theorem am_ty {ci : Nat} {Cn : String} {T : u_T} {N : Nat} (h : vwCl[ci]? = some (Cn, T, N)) : ∀ k, k < N → parseFieldDescriptor (T k).2.2.1 = some (am_t T k) := am_cls (P := fun Cn T N => ∀ k, k < N → parseFieldDescriptor (T k).2.2.1 = some (am_t T k)) (am_tyq tyX0_ok) (am_tyq tyX1_ok) (am_tyq tyX2_ok) (am_tyq tyX3_ok) (am_tyq tyX4_ok) (am_tyq tyX5_ok) (am_tyq tyX6_ok) (am_tyq tyX7_ok) (am_tyq tyX8_ok) (am_tyq tyX9_ok) (am_tyq tyX10_ok) (am_tyq tyX11_ok) (am_tyq tyX12_ok) h
theorem am_arr_int : Cond.arrayClass (newarray.typeOf .int) ∈ am_T := am_at 369 (by decide +kernel) (by decide +kernel)
theorem am_arr_long : Cond.arrayClass (newarray.typeOf .long) ∈ am_T := am_at 485 (by decide +kernel) (by decide +kernel)
theorem am_arr_char : Cond.arrayClass (newarray.typeOf .char) ∈ am_T := am_at 438 (by decide +kernel) (by decide +kernel)
theorem am_arr_boolean : Cond.arrayClass (newarray.typeOf .boolean) ∈ am_T := am_at 2515 (by decide +kernel) (by decide +kernel)
theorem am_obj1 : Cond.instanceMethod objectInit ∈ am_T := am_at 205 (by decide +kernel) (by decide +kernel)
theorem am_obj2 : Cond.code objectInit ⟨#[0xb1]⟩ 1 none ∈ am_T := am_at 206 (by decide +kernel) (by decide +kernel)
theorem am_cp1 : Cond.native arraycopyName ∈ am_T := am_at 839 (by decide +kernel) (by decide +kernel)
theorem am_cp2 : Cond.static arraycopyName ∈ am_T := am_at 838 (by decide +kernel) (by decide +kernel)
theorem am_cp3 : Cond.initialized "java/lang/System" ∈ am_T := am_at 191 (by decide +kernel) (by decide +kernel)
set_option maxRecDepth 100000 in
theorem am_ir : lw_tbl.all (fun w => match w with | .code y _ _ r => !(y.name == "<init>") || r.isNone | _ => true) = true := by decide +kernel
theorem am_initret {y : MethodName} {bytes : ByteArray} {maxL : Nat} {ret : Option FieldType} (hy : y.name = "<init>") (w : Cond.code y bytes maxL ret ∈ am_T) : ret = none := by
  have h := List.all_eq_true.mp am_ir _ (am_tbl w)
  simpa [hy] using h
theorem am_newV (T : u_T) (N : Nat) : ∀ j, j < N → defaultValue (am_t T j) = vp_V (am_new T N) j := by
  intro j hj
  simp [am_new, vp_V, List.getD, hj]
theorem am_freshD {A : Nat → Prop} {ws : va_W} {q : Nat} {e : va_E} (hD : va_D A (ws ++ [(q, e)])) : am_fresh q ws := by
  intro k e2 hk
  have hlt : k < ws.length := (List.getElem?_eq_some_iff.mp hk).1
  have h := hD.1 k ws.length (q, e2) (q, e) (by rw [List.getElem?_append_left hlt]; exact hk) (by simp) rfl
  omega
def am_rm (d mc ms : Nat) : Room := { frames := d, cells := mc, slots := ms, locals := 64 * d }
abbrev am_IA : String := "java/lang/IllegalArgumentException"
abbrev am_IS : String := "java/lang/IllegalStateException"
/-- what the tables say that isn't kept by every word's own law: nest mates' links, castable classes, the two exceptions apart -/
def am_nest (U : State) : Prop := (∀ own i y host, Cond.methodLinkNest own i y host ∈ lw_tbl → va_Nw (.methodLinkNest own i y host) U) ∧ (∀ C T, Cond.castable C T ∈ lw_tbl → va_Nw (.castable C T) U) ∧ va_Nc am_IS am_IA U ∧ (∀ x, Cond.declares x ∈ lw_tbl → va_Nw (.declares x) U)
theorem am_nest.same {u U : State} (h : u.vm = U.vm) (q : am_nest u) : am_nest U := ⟨fun own i y host hw => va_Nw.same rfl h (q.1 own i y host hw), fun C T hw => va_Nw.same rfl h (q.2.1 C T hw), va_Nc.moved (by rw [h]; exact Vm.Alike.refl _) q.2.2.1, fun x hw => va_Nw.same rfl h (q.2.2.2 x hw)⟩
theorem am_nest.warm {s U : State} (hW : s.WarmedH U.vm) (q : am_nest s) : am_nest U := ⟨fun own i y host hw => va_Nw.warmM hW (q.1 own i y host hw), fun C T hw => va_Nw.warmC hW (q.2.1 C T hw), va_Nc.moved hW.alike q.2.2.1, fun x hw => va_Nw.warmD hW (q.2.2.2 x hw)⟩
/-- words that aren't good, but of the three sorts that am_nest keeps -/
def am_nn : Cond → Bool
  | .castable _ _ => true
  | .declares _ => true
  | _ => false
theorem am_nest.word {U : State} (q : am_nest U) {w : Cond} (hn : am_nn w = true) (hw : w ∈ lw_tbl) (a : Array Value) : w.before a U = true := by
  cases w with
  | castable C T => exact va_Nw.use rfl (q.2.1 C T hw)
  | declares x => exact va_Nw.use rfl (q.2.2.2 x hw)
  | _ => simp [am_nn] at hn
def am_Q (D : va_G) (Z : AmZ) (A : Nat → Prop) (post : AmR) : Array Value → State → Outcome → State → Prop := fun _ st oc t => (∃ v u, oc = .returned v ∧ post v u ∧ va_P D vwCl u t.heap ∧ va_K D vwCl (am_tys Z) t ∧ va_D A u) ∧ va_F A st t
def am_X (D : va_G) (Z : AmZ) (A : Nat → Prop) (xp : AmX) : String → State → State → Prop := fun E st t => ∃ u, xp E u ∧ va_P D vwCl u t.heap ∧ va_K D vwCl (am_tys Z) t ∧ va_D A u ∧ va_F A st t
/-- what lies there from the beginning: a static of Throwable, the String constants, two statics of the JDK -/
def am_N (Z : AmZ) (A : Nat → Prop) (U : State) (H : Heap) : Prop := vx_Zq Bundle.tN "SUPPRESSED_SENTINEL" Bundle.listD A U H ∧ vk_S 7 am_len am_byt Z.2.2.2.2.1 Z.2.2.2.2.2 A U H ∧ (∀ (k : Nat) (own : String) (i : Nat) (tx : String), am_lit[k]? = some (own, i, tx) → vk_R own i tx (zs Z k) U) ∧ va_Z am_js "COMPACT_STRINGS" "Z" (.int 1) A U H ∧ va_Zq "jdk/internal/util/Preconditions" "SIOOBE_FORMATTER" "Ljava/util/function/BiFunction;" A U H
theorem am_N.same {Z : AmZ} {A : Nat → Prop} {u U : State} {H : Heap} (h : u.vm = U.vm) (q : am_N Z A u H) : am_N Z A U H :=
  have ha : u.vm.Alike U.vm := by rw [h]; exact Vm.Alike.refl _
  ⟨vx_Zq.moved ha q.1, vk_S.moved ha q.2.1, fun k own i tx e => vk_R.same h.symm (q.2.2.1 k own i tx e), va_Z.moved ha q.2.2.2.1, va_Zq.moved ha q.2.2.2.2⟩
theorem am_N.warm {Z : AmZ} {A : Nat → Prop} {s U : State} {H : Heap} (hW : s.WarmedH U.vm) (q : am_N Z A s H) : am_N Z A U H :=
  ⟨vx_Zq.moved hW.alike q.1, vk_S.moved hW.alike q.2.1, fun k own i tx e => vk_R.warm hW (q.2.2.1 k own i tx e), va_Z.moved hW.alike q.2.2.2.1, va_Zq.moved hW.alike q.2.2.2.2⟩
theorem am_N.kept {Z : AmZ} {A : Nat → Prop} {U : State} {H H1 : Heap} (q : am_N Z A U H) (hq : ∀ a : Nat, a < H.size → ¬ A a → H1[a]? = H[a]?) : am_N Z A U H1 := ⟨q.1.kept hq, q.2.1.kept hq, q.2.2.1, q.2.2.2.1.kept hq, q.2.2.2.2.kept hq⟩
theorem am_N.narrow {Z : AmZ} {A B : Nat → Prop} {U : State} {H : Heap} (q : am_N Z A U H) (hAB : ∀ q, B q → A q) : am_N Z B U H := ⟨q.1.narrow hAB, q.2.1.narrow hAB, q.2.2.1, q.2.2.2.1.narrow hAB, q.2.2.2.2.narrow hAB⟩
def am_Pre (D : va_G) (Z : AmZ) (as : List Value) (ws : va_W) (sz : Nat) : Array Value → State → Prop := va_Pc as (fun U => U.heap.size = sz ∧ va_P D vwCl ws U.heap ∧ va_K D vwCl (am_tys Z) U ∧ va_D (fun _ => True) ws ∧ am_nest U ∧ vx_Zq Bundle.tN "UNASSIGNED_STACK" Bundle.steD (va_A ws sz) U U.heap ∧ am_N Z (va_A ws sz) U U.heap)
/-- a method's contract, of a world ws and arguments as: it returns with post, or throws with xp -/
def am_Met (l : Launch) (D : va_G) (Z : AmZ) (d : Nat) (y : MethodName) (as : List Value) (ws : va_W) (mc ms : Nat) (post : AmR) (xp : AmX) : Prop :=
  ∃ bytes maxL ret, Cond.code y bytes maxL ret ∈ am_T ∧ maxL ≤ 45 ∧ ∀ sz, vx_Met l y (Cond.code y bytes maxL ret :: am_T) (am_rm d mc ms) (am_Pre D Z as ws sz) (am_Q D Z (va_A ws sz) post) (am_X D Z (va_A ws sz) xp) mc ms (va_A ws sz)
/-- the same of a method with a table of handlers, which lets nothing out -/
def am_MetW (l : Launch) (D : va_G) (Z : AmZ) (d : Nat) (y : MethodName) (as : List Value) (ws : va_W) (mc ms : Nat) (post : AmR) (_ : AmX) : Prop :=
  ∃ bytes maxL ret hh, Cond.codeWith y bytes maxL ret hh ∈ am_T ∧ maxL ≤ 45 ∧ ∀ sz, vx_Met l y (Cond.codeWith y bytes maxL ret hh :: am_T) (am_rm d mc ms) (am_Pre D Z as ws sz) (am_Q D Z (va_A ws sz) post) (am_X D Z (va_A ws sz) (fun _ _ => False)) mc ms (va_A ws sz)
theorem am_goodIn {w0 : Cond} (h0 : w0 ∈ am_T) : GoodIn am_T (w0 :: am_T) := fun w hw => by
  have hm : w ∈ am_T := by
    rcases List.mem_cons.mp hw with h | h
    · rw [h]; exact h0
    · exact h
  exact ⟨hm, good_of_word (am_good hm)⟩
theorem am_blind {D : va_G} {Z : AmZ} {as : List Value} {ws : va_W} {sz : Nat} : FrameBlind (am_Pre D Z as ws sz) := by
  intro a U g mk q
  obtain ⟨q0, q1, qP, qK, qD, qN, q2, q3⟩ := q
  exact ⟨q0, q1, qP, va_K.moved (u := U) (U := U.calling g mk a) (Vm.Alike.refl U.vm) qK, qD, am_nest.same (rfl : U.vm = (U.calling g mk a).vm) qN, vx_Zq.moved (u := U) (U := U.calling g mk a) (Vm.Alike.refl U.vm) q2, am_N.same (rfl : U.vm = (U.calling g mk a).vm) q3⟩
theorem am_noX {l : Launch} {D : va_G} {Z : AmZ} {A : Nat → Prop} {y : MethodName} {ws : List Cond} {rm : Room} {Pc : Array Value → State → Prop} {Qc : Array Value → State → Outcome → State → Prop} {mc ms : Nat} {free : Addr → Prop} (h : vx_Met l y ws rm Pc Qc (am_X D Z A (fun _ _ => False)) mc ms free) : Met l y ws rm Pc Qc mc ms free := by
  intro p e h1 h2 h3 s m args below h4 h5 h6 h7
  obtain ⟨n, o, a1, a2, a3, a4⟩ := h p e h1 h2 h3 s m args below h4 h5 h6 h7
  refine ⟨n, o, a1, a2, a3, ?_⟩
  rcases a4 with a4 | ⟨q, -, E, ce, L, ⟨u, hf, -⟩, -⟩
  · exact a4
  · exact hf.elim
section AM
variable {p : Program} {l : Launch} {e : Env} {R : Room} {s : State} {m : MethodId} {args : Array Value} {below : List Frame} {meth : Method} {c : Code} {D : va_G} {Z : AmZ} {own : String} {cc : ByteArray} {nL d mc ms : Nat} {rt : Option FieldType} {ini : Bool} {call : AmC} {callW : AmC} {xh : AmH} {scr : AmS} {K : AmK} {ret : AmR} {xp : AmX} {A : Nat → Prop} {Q : State → Prop}
theorem am_sameA_int {cA : ClassId} (hK1 : va_K D vwCl (am_tys Z ++ [(cA, .int)]) s) : cA = Z.1 := by
  have h1 : s.vm.findClass ("[" ++ FieldType.int.toString) = some Z.1 := (hK1.2 0 _ rfl).2
  have h2 : s.vm.findClass ("[" ++ FieldType.int.toString) = some cA := (hK1.2 4 _ rfl).2
  exact Option.some.inj (h2.symm.trans h1)
theorem am_sameA_long {cA : ClassId} (hK1 : va_K D vwCl (am_tys Z ++ [(cA, .long)]) s) : cA = Z.2.1 := by
  have h1 : s.vm.findClass ("[" ++ FieldType.long.toString) = some Z.2.1 := (hK1.2 1 _ rfl).2
  have h2 : s.vm.findClass ("[" ++ FieldType.long.toString) = some cA := (hK1.2 4 _ rfl).2
  exact Option.some.inj (h2.symm.trans h1)
theorem am_sameA_char {cA : ClassId} (hK1 : va_K D vwCl (am_tys Z ++ [(cA, .char)]) s) : cA = Z.2.2.1 := by
  have h1 : s.vm.findClass ("[" ++ FieldType.char.toString) = some Z.2.2.1 := (hK1.2 2 _ rfl).2
  have h2 : s.vm.findClass ("[" ++ FieldType.char.toString) = some cA := (hK1.2 4 _ rfl).2
  exact Option.some.inj (h2.symm.trans h1)
theorem am_sameA_boolean {cA : ClassId} (hK1 : va_K D vwCl (am_tys Z ++ [(cA, .boolean)]) s) : cA = Z.2.2.2.1 := by
  have h1 : s.vm.findClass ("[" ++ FieldType.boolean.toString) = some Z.2.2.2.1 := (hK1.2 3 _ rfl).2
  have h2 : s.vm.findClass ("[" ++ FieldType.boolean.toString) = some cA := (hK1.2 4 _ rfl).2
  exact Option.some.inj (h2.symm.trans h1)
theorem am_free {H0 H : Heap} {locs : List Loc} {ws : va_W} (hD : va_D A ws) (hS : va_S A H0 H locs) (hA : ∀ q, H0.size ≤ q → A q) : ∀ q, va_A ws H.size q → A q := by
  intro q h
  rcases h with ⟨k, e, h⟩ | h
  · exact hD.2 k (q, e) h
  · exact hA q (Nat.le_trans hS.1 h)
theorem am_cb {y : MethodName} {bytes : ByteArray} {maxL i kc ks n : Nat} {ret1 : Option FieldType} (hts : ∀ w ∈ am_T, w.before args s = true) (w5 : Cond.code y bytes maxL ret1 ∈ am_T) (w4 : Cond.initialized y.cls ∈ am_T) (w1 : Cond.methodLink own i y ∈ am_T) (hpl : am_plain y n) (hmL : maxL ≤ 45) (hRf : d + 1 ≤ R.frames) (hRl : 64 * (d + 1) ≤ R.locals) : CallB R s args own i y bytes maxL ret1 (Cond.code y bytes maxL ret1 :: am_T) (am_rm d kc ks) kc ks n := by
  exact callB_of n hts (am_goodIn w5) rfl rfl rfl (hts _ w4) (hts _ w1) hpl ⟨hRf, by simp only [am_rm]; omega⟩
theorem am_cn {y : MethodName} {bytes : ByteArray} {maxL i kc ks n : Nat} {host : String} {ret1 : Option FieldType} (hts : ∀ w ∈ am_T, w.before args s = true) (w5 : Cond.code y bytes maxL ret1 ∈ am_T) (w4 : Cond.initialized y.cls ∈ am_T) (w1 : va_Nw (.methodLinkNest own i y host) s) (hpl : am_plain y n) (hmL : maxL ≤ 45) (hRf : d + 1 ≤ R.frames) (hRl : 64 * (d + 1) ≤ R.locals) : va_CN R s args own i y host bytes maxL ret1 (Cond.code y bytes maxL ret1 :: am_T) (am_rm d kc ks) kc ks n := by
  exact va_cnB n hts (am_goodIn w5) rfl rfl rfl w1 (hts _ w4) hpl ⟨hRf, by simp only [am_rm]; omega⟩
theorem am_csw {y : MethodName} {bytes : ByteArray} {maxL i kc ks n : Nat} {ret1 : Option FieldType} {hh : List (Nat × Nat × Nat × Nat)} (hts : ∀ w ∈ am_T, w.before args s = true) (w5 : Cond.codeWith y bytes maxL ret1 hh ∈ am_T) (w4 : Cond.initialized y.cls ∈ am_T) (w1 : Cond.methodLink own i y ∈ am_T) (w2 : Cond.static y ∈ am_T) (hpl : am_plain y n) (hmL : maxL ≤ 45) (hRf : d + 1 ≤ R.frames) (hRl : 64 * (d + 1) ≤ R.locals) : vx_CSW R s args own i y bytes maxL ret1 hh (Cond.codeWith y bytes maxL ret1 hh :: am_T) (am_rm d kc ks) kc ks n := by
  refine vx_cwSW n hts (fun w hw => ?_) rfl rfl rfl hpl ⟨hRf, by simp only [am_rm]; omega⟩
  have hm : w ∈ am_T := by
    simp only [va_wsS, List.cons_append, List.nil_append, List.mem_cons] at hw
    rcases hw with rfl | rfl | rfl | rfl | hw
    · exact w1
    · exact w2
    · exact w4
    · exact w5
    · exact hw
  exact ⟨hm, good_of_word (am_good hm)⟩
theorem am_pre {H : Heap} {locs : List Loc} {ws : va_W} {as : List Value} (hKn : va_K D vwCl (am_tys Z) s) (hP : va_P D vwCl ws H) (hD : va_D A ws) (hS : va_S A s.heap H locs) (hA : ∀ q, s.heap.size ≤ q → A q) (hnest : am_nest s) (hU : vx_Zq Bundle.tN "UNASSIGNED_STACK" Bundle.steD A s s.heap) (hN : am_N Z A s s.heap) : ∀ U : State, U.heap = H → s.WarmedH U.vm → am_Pre D Z as ws H.size as.toArray U := by
  intro U hH hW
  have hF := am_free hD hS hA
  refine ⟨rfl, by rw [hH], by rw [hH]; exact hP, va_K.moved hW.alike hKn, hD.weaken (fun _ _ _ _ => trivial), hnest.warm hW, ?_, ?_⟩
  · rw [hH]
    exact ((vx_Zq.moved hW.alike hU).kept (fun a h1 h2 => hS.2.1 a h1 h2)).narrow hF
  · rw [hH]
    exact ((am_N.warm hW hN).kept (fun a h1 h2 => hS.2.1 a h1 h2)).narrow hF
theorem am_back {H : Heap} {locs : List Loc} {cells slots kc ks pc : Nat} {ls : Array Slot} {st0 rest : List Value} {ws : va_W} {post1 : AmR} {a : Array Value} (hA : ∀ q, s.heap.size ≤ q → A q) (hD : va_D A ws) (hS : va_S A s.heap H locs)
    (hr : vx_Run p l e R s m args below meth c H locs cells slots kc ks (F0 m pc ls st0) rest (am_Q D Z (va_A ws H.size) post1 a) (am_X D Z (va_A ws H.size) xp) (va_A ws H.size))
    (kx : ∀ q E ce u H1 locs1, xp E u → va_P D vwCl u H1 → va_D A u → va_S A s.heap H1 locs1 → H1[q]? = some ce → ce.vm = .none → s.vm.findClass E = some ce.cls → vx_W p l e R s m args below meth c H1 locs1 (cells + kc) (slots + ks) Q (F0 m pc ls rest) q)
    (kk : ∀ v u H1 locs1, post1 v u → va_P D vwCl u H1 → va_D A u → va_S A s.heap H1 locs1 → W p l e R s m args below meth c H1 locs1 (cells + kc) (slots + ks) Q (F0 m (pc + 3) ls (v.toList ++ rest))) :
    W p l e R s m args below meth c H locs cells slots Q (F0 m pc ls st0) := by
  have hF := am_free hD hS hA
  intro T hT X
  rcases hr T hT X with ⟨v, st₀, t, T', L, h0, X', hL, e1, e2, ⟨⟨v2, u, hv, hp, hP1, hK1, hD1⟩, hFr⟩, st⟩ | ⟨q, st₀, t, T', L, E, ce, h0, X', hL, e1, e2, ⟨u, hp, hP1, hK1, hD1, hFr⟩, hce, hcv, hcl, st⟩
  · cases hv
    obtain ⟨k1, k2, k3⟩ := vx_keep h0 e1 hS (fun q _ h => hF q h) hF hL hFr
    obtain ⟨t2, a1, b1⟩ := kk v u T'.heap (locs ++ L) hp (by rw [e1]; exact hP1) (hD1.weaken (fun _ q _ h => hF q.1 h)) k3 T' rfl X'
    exact ⟨t2, st t2 a1, b1⟩
  · obtain ⟨k1, k2, k3⟩ := vx_keep h0 e1 hS (fun q _ h => hF q h) hF hL hFr
    obtain ⟨t2, a1, b1⟩ := kx q E ce u T'.heap (locs ++ L) hp (by rw [e1]; exact hP1) (hD1.weaken (fun _ q _ h => hF q.1 h)) k3 (by rw [e1]; exact hce) hcv hcl T' rfl X'
    exact ⟨t2, st.trans a1, b1⟩
theorem am_backN {H : Heap} {locs : List Loc} {cells slots kc ks pc : Nat} {ls : Array Slot} {st0 rest : List Value} {ws : va_W} {post1 : AmR} {a : Array Value} (hA : ∀ q, s.heap.size ≤ q → A q) (hD : va_D A ws) (hS : va_S A s.heap H locs)
    (hr : va_Run p l e R s m args below meth c H locs cells slots kc ks (F0 m pc ls st0) rest (am_Q D Z (va_A ws H.size) post1 a) (va_A ws H.size))
    (kk : ∀ v u H1 locs1, post1 v u → va_P D vwCl u H1 → va_D A u → va_S A s.heap H1 locs1 → W p l e R s m args below meth c H1 locs1 (cells + kc) (slots + ks) Q (F0 m (pc + 3) ls (v.toList ++ rest))) :
    W p l e R s m args below meth c H locs cells slots Q (F0 m pc ls st0) := by
  have hF := am_free hD hS hA
  intro T hT X
  obtain ⟨v, st₀, t, T', L, h0, X', hL, e1, e2, ⟨⟨v2, u, hv, hp, hP1, hK1, hD1⟩, hFr⟩, st⟩ := hr T hT X
  cases hv
  obtain ⟨k1, k2, k3⟩ := vx_keep h0 e1 hS (fun q _ h => hF q h) hF hL hFr
  obtain ⟨t2, a1, b1⟩ := kk v u T'.heap (locs ++ L) hp (by rw [e1]; exact hP1) (hD1.weaken (fun _ q _ h => hF q.1 h)) k3 T' rfl X'
  exact ⟨t2, st t2 a1, b1⟩
theorem am_copy {H : Heap} {locs : List Loc} {cells slots pc i : Nat} {ls : Array Slot} {st : List Value} {ws : va_W} {k : List Value → va_W → Prop} (hx : p.tables.exec = Jvm.exec) (hb : c.code = cc) (hml : c.maxLocals = ls.size) (hown : s.vm.findClass own = some m.cls) (hts : ∀ w ∈ am_T, w.before args s = true) (hKn : va_K D vwCl (am_tys Z) s) (hP : va_P D vwCl ws H) (hD : va_D A ws) (hS : va_S A s.heap H locs) (hRf : d + 1 ≤ R.frames) (hRl : 64 * (d + 1) ≤ R.locals)
    (kk : ∀ r u H1 locs1, k r u → va_P D vwCl u H1 → va_D A u → va_S A s.heap H1 locs1 → W p l e R s m args below meth c H1 locs1 cells slots Q (F0 m (pc + 3) ls r)) (hd : decode cc pc = .ok (.invokestatic i, 3)) (h : am_arraycopy Z own i k st ws) : W p l e R s m args below meth c H locs cells slots Q (F0 m pc ls st) := by
  obtain ⟨n, dp, a, sp, a0, r, q0, q1, n0, n1, rfl, w1, hcat, h1, h2, h3, h4, h5, h⟩ := h
  have hf : 1 ≤ R.frames := by omega
  have hlo : (r.map fun v => v.category).sum + (nativeFrameWords "java/lang/System" "arraycopy" 5 + 11) ≤ R.locals := by
    rw [show nativeFrameWords "java/lang/System" "arraycopy" 5 = 7 by decide +kernel]
    omega
  rcases h with ⟨f, g, ha0, ha1, h⟩ | ⟨f, g, ha0, ha1, h⟩
  · exact va_copyi hx hb hml hown (hts _ w1) (hts _ am_cp1) (hts _ am_cp2) (hts _ am_cp3) hKn hP hD hS q0 q1 0 0 ha0 ha1 rfl rfl rfl h1 h2 h3 h4 h5 (fun _ _ => rfl) hf hlo hd (fun H1 locs1 hP1 hD1 hS1 => kk r _ H1 locs1 h hP1 hD1 hS1)
  · exact va_copyl hx hb hml hown (hts _ w1) (hts _ am_cp1) (hts _ am_cp2) (hts _ am_cp3) hKn hP hD hS q0 q1 1 1 ha0 ha1 rfl rfl rfl h1 h2 h3 h4 h5 (fun _ _ => rfl) hf hlo hd (fun H1 locs1 hP1 hD1 hS1 => kk r _ H1 locs1 h hP1 hD1 hS1)

theorem am_one (hKn : va_K D vwCl (am_tys Z) s) (hx : p.tables.exec = Jvm.exec) (hb : c.code = cc) (hml : c.maxLocals = nL) (hown : s.vm.findClass own = some m.cls) (hts : ∀ w ∈ am_T, w.before args s = true) (hnest : am_nest s) (hini : ini = true → meth.name = "<init>") (hA : ∀ q, s.heap.size ≤ q → A q) (hscr : ∀ b L xs, scr = some (b, L, xs) → va_X b L xs s s.heap ∧ b < s.heap.size ∧ ¬ A b)
    (hU : vx_Zq Bundle.tN "UNASSIGNED_STACK" Bundle.steD A s s.heap) (hN : am_N Z A s s.heap) (hRc : R.cells = mc) (hRs : R.slots = ms) (hRf : d + 1 ≤ R.frames) (hRl : 64 * (d + 1) ≤ R.locals) (hcall : ∀ y as ws kc ks post xp, call y as ws kc ks post xp → am_Met l D Z d y as ws kc ks post xp) (hcallW : ∀ y as ws kc ks post xp, callW y as ws kc ks post xp → am_MetW l D Z d y as ws kc ks post xp)
    (hend : ∀ pc ls st ws H locs cells slots, am_end cc rt ret pc st ws → va_P D vwCl ws H → va_D A ws → va_S A s.heap H locs → cells ≤ mc → slots ≤ ms → W p l e R s m args below meth c H locs cells slots Q (F0 m pc ls st))
    (hthr : ∀ pc lv ls rest q E ce u H1 locs1 cells slots C S, xh K pc lv C S E u → lv_has ls nL lv → va_P D vwCl u H1 → va_D A u → va_S A s.heap H1 locs1 → H1[q]? = some ce → ce.vm = .none → s.vm.findClass E = some ce.cls → cells + C ≤ mc → slots + S ≤ ms → vx_W p l e R s m args below meth c H1 locs1 cells slots Q (F0 m pc ls rest) q)
    (KK : ∀ pc lv st ws C S, K pc lv st ws C S → ∀ H locs cells slots ls, lv_has ls nL lv → va_P D vwCl ws H → va_D A ws → va_S A s.heap H locs → cells + C ≤ mc → slots + S ≤ ms → W p l e R s m args below meth c H locs cells slots Q (F0 m pc ls st))
    {pc : Nat} {lv : List (Nat × Value)} {st : List Value} {ws : va_W} {C S : Nat} (h : am_stp Z scr own cc nL rt ini call callW xh ret K pc lv st ws C S) {H : Heap} {locs : List Loc} {cells slots : Nat} {ls : Array Slot} (hl : lv_has ls nL lv) (hP : va_P D vwCl ws H) (hD : va_D A ws) (hS : va_S A s.heap H locs) (hc : cells + C ≤ mc) (hs : slots + S ≤ ms) :
    W p l e R s m args below meth c H locs cells slots Q (F0 m pc ls st) := by
  unfold am_stp at h
  split at h
  · rename_i hd
    exact lv_iconst hx hb hd rfl (KK _ _ _ _ _ _ h _ _ _ _ _ hl hP hD hS hc hs)
  · rename_i hd
    exact lv_bipush hx hb hd rfl (KK _ _ _ _ _ _ h _ _ _ _ _ hl hP hD hS hc hs)
  · rename_i hd
    exact lv_sipush hx hb hd rfl (KK _ _ _ _ _ _ h _ _ _ _ _ hl hP hD hS hc hs)
  · rename_i hd
    exact lv_lconst hx hb hd rfl (KK _ _ _ _ _ _ h _ _ _ _ _ hl hP hD hS hc hs)
  · rename_i hd
    rcases h with ⟨v, hw, h⟩ | ⟨k, tx, e1, h⟩
    · exact lv_ldc hx hb hown (hts _ hw) hd (KK _ _ _ _ _ _ h _ _ _ _ _ hl hP hD hS hc hs)
    · exact va_ldcS hx hb hown (hN.2.2.1 _ _ _ _ e1) hd (KK _ _ _ _ _ _ h _ _ _ _ _ hl hP hD hS hc hs)
  · rename_i hd
    obtain ⟨x, r, rfl, h⟩ := h; exact lv_i2b hx hb hd rfl (KK _ _ _ _ _ _ h _ _ _ _ _ hl hP hD hS hc hs)
  · rename_i hd
    rcases h with ⟨hw, h⟩ | ⟨hw, h⟩
    · exact va_gets hx hb hN.2.2.2.1 hS hown (hts _ hw) (fun _ z => z) hd (KK _ _ _ _ _ _ h _ _ _ _ _ hl hP hD hS hc hs)
    · rcases hN.2.2.2.2 with hZ | ⟨t9, hZ⟩
      · exact va_gets hx hb hZ hS hown (hts _ hw) (fun _ z => z) hd (KK _ _ _ _ _ _ (h _ rfl) _ _ _ _ _ hl hP hD hS hc hs)
      · exact va_gets hx hb hZ hS hown (hts _ hw) (fun _ z => z) hd (KK _ _ _ _ _ _ (h _ rfl) _ _ _ _ _ hl hP hD hS hc hs)
  · rename_i hd
    obtain ⟨v, hw, h⟩ := h; exact lv_ldcw hx hb hown (hts _ hw) hd (KK _ _ _ _ _ _ h _ _ _ _ _ hl hP hD hS hc hs)
  · rename_i hd
    obtain ⟨v, hw, h⟩ := h; exact lv_ldc2 hx hb hown (hts _ hw) hd (KK _ _ _ _ _ _ h _ _ _ _ _ hl hP hD hS hc hs)
  · rename_i hd
    obtain ⟨x, hm, h⟩ := h; exact lv_iload hx hb hd (hl.2.2 _ hm) (KK _ _ _ _ _ _ h _ _ _ _ _ hl hP hD hS hc hs)
  · rename_i hd
    obtain ⟨x, hm, h⟩ := h; exact lv_iload_n hx hb hd rfl (hl.2.2 _ hm) (KK _ _ _ _ _ _ h _ _ _ _ _ hl hP hD hS hc hs)
  · rename_i hd
    obtain ⟨x, r, rfl, hn, h⟩ := h; exact lv_istore hx hb hd hl hn rfl (fun ls' hl' => KK _ _ _ _ _ _ h _ _ _ _ _ hl' hP hD hS hc hs)
  · rename_i hd
    obtain ⟨x, r, rfl, hn, h⟩ := h; exact lv_istore_n hx hb hd rfl hl hn rfl (fun ls' hl' => KK _ _ _ _ _ _ h _ _ _ _ _ hl' hP hD hS hc hs)
  · rename_i hd
    obtain ⟨x, hm, h⟩ := h; exact lv_lload hx hb hd (hl.2.2 _ hm) (KK _ _ _ _ _ _ h _ _ _ _ _ hl hP hD hS hc hs)
  · rename_i hd
    obtain ⟨x, hm, h⟩ := h; exact lv_lload_n hx hb hd rfl (hl.2.2 _ hm) (KK _ _ _ _ _ _ h _ _ _ _ _ hl hP hD hS hc hs)
  · rename_i hd
    obtain ⟨x, r, rfl, hn, h⟩ := h; exact lv_lstore hx hb hd hl hn rfl (fun ls' hl' => KK _ _ _ _ _ _ h _ _ _ _ _ hl' hP hD hS hc hs)
  · rename_i hd
    obtain ⟨x, r, rfl, hn, h⟩ := h; exact lv_lstore_n hx hb hd rfl hl hn rfl (fun ls' hl' => KK _ _ _ _ _ _ h _ _ _ _ _ hl' hP hD hS hc hs)
  · rename_i hd
    obtain ⟨x, hm, h⟩ := h; exact lv_aload hx hb hd (hl.2.2 _ hm) (KK _ _ _ _ _ _ h _ _ _ _ _ hl hP hD hS hc hs)
  · rename_i hd
    obtain ⟨x, hm, h⟩ := h; exact lv_aload_n hx hb hd rfl (hl.2.2 _ hm) (KK _ _ _ _ _ _ h _ _ _ _ _ hl hP hD hS hc hs)
  · rename_i hd
    obtain ⟨x, r, rfl, hn, h⟩ := h; exact lv_astore hx hb hd hl hn rfl (fun ls' hl' => KK _ _ _ _ _ _ h _ _ _ _ _ hl' hP hD hS hc hs)
  · rename_i hd
    obtain ⟨x, r, rfl, hn, h⟩ := h; exact lv_astore_n hx hb hd rfl hl hn rfl (fun ls' hl' => KK _ _ _ _ _ _ h _ _ _ _ _ hl' hP hD hS hc hs)
  · rename_i hd
    obtain ⟨x, hm, hn, h⟩ := h; obtain ⟨k, hk⟩ := List.getElem?_of_mem hm; exact lv_iinc hx hb hd hl hk rfl hn rfl (fun ls' hl' => KK _ _ _ _ _ _ h _ _ _ _ _ hl' hP hD hS hc hs)
  · rename_i hd
    obtain ⟨x, y, r, rfl, h⟩ := h; exact lv_iadd hx hb hd (KK _ _ _ _ _ _ h _ _ _ _ _ hl hP hD hS hc hs)
  · rename_i hd
    obtain ⟨x, y, r, rfl, h⟩ := h; exact lv_isub hx hb hd (KK _ _ _ _ _ _ h _ _ _ _ _ hl hP hD hS hc hs)
  · rename_i hd
    obtain ⟨x, y, r, rfl, h⟩ := h; exact lv_imul hx hb hd (KK _ _ _ _ _ _ h _ _ _ _ _ hl hP hD hS hc hs)
  · rename_i hd
    obtain ⟨x, y, r, rfl, h⟩ := h; exact lv_iand hx hb hd (KK _ _ _ _ _ _ h _ _ _ _ _ hl hP hD hS hc hs)
  · rename_i hd
    obtain ⟨x, y, r, rfl, h⟩ := h; exact lv_ior hx hb hd (KK _ _ _ _ _ _ h _ _ _ _ _ hl hP hD hS hc hs)
  · rename_i hd
    obtain ⟨x, y, r, rfl, h⟩ := h; exact lv_ixor hx hb hd (KK _ _ _ _ _ _ h _ _ _ _ _ hl hP hD hS hc hs)
  · rename_i hd
    obtain ⟨x, y, r, rfl, h⟩ := h; exact lv_ishl hx hb hd (KK _ _ _ _ _ _ h _ _ _ _ _ hl hP hD hS hc hs)
  · rename_i hd
    obtain ⟨x, y, r, rfl, h⟩ := h; exact lv_ishr hx hb hd (KK _ _ _ _ _ _ h _ _ _ _ _ hl hP hD hS hc hs)
  · rename_i hd
    obtain ⟨x, y, r, rfl, h⟩ := h; exact lv_iushr hx hb hd rfl (KK _ _ _ _ _ _ h _ _ _ _ _ hl hP hD hS hc hs)
  · rename_i hd
    obtain ⟨x, y, r, rfl, hz, h⟩ := h; exact lv_idiv hx hb hd hz (KK _ _ _ _ _ _ h _ _ _ _ _ hl hP hD hS hc hs)
  · rename_i hd
    obtain ⟨x, y, r, rfl, hz, h⟩ := h; exact lv_irem hx hb hd hz (KK _ _ _ _ _ _ h _ _ _ _ _ hl hP hD hS hc hs)
  · rename_i hd
    obtain ⟨x, y, r, rfl, h⟩ := h; exact lv_ladd hx hb hd (KK _ _ _ _ _ _ h _ _ _ _ _ hl hP hD hS hc hs)
  · rename_i hd
    obtain ⟨x, y, r, rfl, h⟩ := h; exact lv_lsub hx hb hd (KK _ _ _ _ _ _ h _ _ _ _ _ hl hP hD hS hc hs)
  · rename_i hd
    obtain ⟨x, y, r, rfl, h⟩ := h; exact lv_lmul hx hb hd (KK _ _ _ _ _ _ h _ _ _ _ _ hl hP hD hS hc hs)
  · rename_i hd
    obtain ⟨x, y, r, rfl, h⟩ := h; exact lv_land hx hb hd (KK _ _ _ _ _ _ h _ _ _ _ _ hl hP hD hS hc hs)
  · rename_i hd
    obtain ⟨x, y, r, rfl, h⟩ := h; exact lv_lor hx hb hd (KK _ _ _ _ _ _ h _ _ _ _ _ hl hP hD hS hc hs)
  · rename_i hd
    obtain ⟨x, y, r, rfl, h⟩ := h; exact lv_lxor hx hb hd (KK _ _ _ _ _ _ h _ _ _ _ _ hl hP hD hS hc hs)
  · rename_i hd
    obtain ⟨x, y, r, rfl, hz, h⟩ := h; exact lv_ldiv hx hb hd hz (KK _ _ _ _ _ _ h _ _ _ _ _ hl hP hD hS hc hs)
  · rename_i hd
    obtain ⟨x, y, r, rfl, hz, h⟩ := h; exact lv_lrem hx hb hd hz (KK _ _ _ _ _ _ h _ _ _ _ _ hl hP hD hS hc hs)
  · rename_i hd
    obtain ⟨x, y, r, rfl, h⟩ := h; exact lv_lshl hx hb hd rfl (KK _ _ _ _ _ _ h _ _ _ _ _ hl hP hD hS hc hs)
  · rename_i hd
    obtain ⟨x, y, r, rfl, h⟩ := h; exact lv_lshr hx hb hd rfl (KK _ _ _ _ _ _ h _ _ _ _ _ hl hP hD hS hc hs)
  · rename_i hd
    obtain ⟨x, y, r, rfl, h⟩ := h; exact lv_lushr hx hb hd rfl (KK _ _ _ _ _ _ h _ _ _ _ _ hl hP hD hS hc hs)
  · rename_i hd
    obtain ⟨x, y, r, rfl, h⟩ := h; exact W.lcmp hx hb hd (KK _ _ _ _ _ _ h _ _ _ _ _ hl hP hD hS hc hs)
  · rename_i hd
    obtain ⟨x, r, rfl, h⟩ := h; exact lv_ineg hx hb hd (KK _ _ _ _ _ _ h _ _ _ _ _ hl hP hD hS hc hs)
  · rename_i hd
    obtain ⟨x, r, rfl, h⟩ := h; exact lv_lneg hx hb hd (KK _ _ _ _ _ _ h _ _ _ _ _ hl hP hD hS hc hs)
  · rename_i hd
    obtain ⟨x, r, rfl, h⟩ := h; exact lv_i2l hx hb hd rfl (KK _ _ _ _ _ _ h _ _ _ _ _ hl hP hD hS hc hs)
  · rename_i hd
    obtain ⟨x, r, rfl, h⟩ := h; exact lv_l2i hx hb hd rfl (KK _ _ _ _ _ _ h _ _ _ _ _ hl hP hD hS hc hs)
  · rename_i hd
    obtain ⟨x, r, rfl, h⟩ := h; exact lv_i2c hx hb hd rfl (KK _ _ _ _ _ _ h _ _ _ _ _ hl hP hD hS hc hs)
  · rename_i hd
    obtain ⟨v, r, rfl, hv, h⟩ := h; exact lv_dup hx hb hd hv (KK _ _ _ _ _ _ h _ _ _ _ _ hl hP hD hS hc hs)
  · rename_i hd
    obtain ⟨v, r, rfl, hv, h⟩ := h; exact lv_pop hx hb hd hv (KK _ _ _ _ _ _ h _ _ _ _ _ hl hP hD hS hc hs)
  · rename_i hd
    obtain ⟨v, r, rfl, hv, h⟩ := h; exact lv_pop2_2 hx hb hd hv (KK _ _ _ _ _ _ h _ _ _ _ _ hl hP hD hS hc hs)
  · rename_i hd
    obtain ⟨v, w, r, rfl, hv, hw, h⟩ := h; exact lv_dup2_11 hx hb hd hv hw (KK _ _ _ _ _ _ h _ _ _ _ _ hl hP hD hS hc hs)
  · rename_i hd
    obtain ⟨x, r, rfl, ho, h1, h2⟩ := h; exact lv_if_eq hx hb hd (Int.toNat_of_nonneg ho).symm (fun z => KK _ _ _ _ _ _ (h1 z) _ _ _ _ _ hl hP hD hS hc hs) (fun z => KK _ _ _ _ _ _ (h2 z) _ _ _ _ _ hl hP hD hS hc hs)
  · rename_i hd
    obtain ⟨x, r, rfl, ho, h1, h2⟩ := h; exact lv_if_ne hx hb hd (Int.toNat_of_nonneg ho).symm (fun z => KK _ _ _ _ _ _ (h1 z) _ _ _ _ _ hl hP hD hS hc hs) (fun z => KK _ _ _ _ _ _ (h2 z) _ _ _ _ _ hl hP hD hS hc hs)
  · rename_i hd
    obtain ⟨x, r, rfl, ho, h1, h2⟩ := h; exact lv_if_lt hx hb hd (Int.toNat_of_nonneg ho).symm (fun z => KK _ _ _ _ _ _ (h1 z) _ _ _ _ _ hl hP hD hS hc hs) (fun z => KK _ _ _ _ _ _ (h2 z) _ _ _ _ _ hl hP hD hS hc hs)
  · rename_i hd
    obtain ⟨x, r, rfl, ho, h1, h2⟩ := h; exact lv_if_ge hx hb hd (Int.toNat_of_nonneg ho).symm (fun z => KK _ _ _ _ _ _ (h1 z) _ _ _ _ _ hl hP hD hS hc hs) (fun z => KK _ _ _ _ _ _ (h2 z) _ _ _ _ _ hl hP hD hS hc hs)
  · rename_i hd
    obtain ⟨x, r, rfl, ho, h1, h2⟩ := h; exact lv_if_gt hx hb hd (Int.toNat_of_nonneg ho).symm (fun z => KK _ _ _ _ _ _ (h1 z) _ _ _ _ _ hl hP hD hS hc hs) (fun z => KK _ _ _ _ _ _ (h2 z) _ _ _ _ _ hl hP hD hS hc hs)
  · rename_i hd
    obtain ⟨x, r, rfl, ho, h1, h2⟩ := h; exact lv_if_le hx hb hd (Int.toNat_of_nonneg ho).symm (fun z => KK _ _ _ _ _ _ (h1 z) _ _ _ _ _ hl hP hD hS hc hs) (fun z => KK _ _ _ _ _ _ (h2 z) _ _ _ _ _ hl hP hD hS hc hs)
  · rename_i hd
    obtain ⟨x, y, r, rfl, ho, h1, h2⟩ := h; exact lv_icmp_eq hx hb hd (Int.toNat_of_nonneg ho).symm (fun z => KK _ _ _ _ _ _ (h1 z) _ _ _ _ _ hl hP hD hS hc hs) (fun z => KK _ _ _ _ _ _ (h2 z) _ _ _ _ _ hl hP hD hS hc hs)
  · rename_i hd
    obtain ⟨x, y, r, rfl, ho, h1, h2⟩ := h; exact lv_icmp_ne hx hb hd (Int.toNat_of_nonneg ho).symm (fun z => KK _ _ _ _ _ _ (h1 z) _ _ _ _ _ hl hP hD hS hc hs) (fun z => KK _ _ _ _ _ _ (h2 z) _ _ _ _ _ hl hP hD hS hc hs)
  · rename_i hd
    obtain ⟨x, y, r, rfl, ho, h1, h2⟩ := h; exact lv_icmp_lt hx hb hd (Int.toNat_of_nonneg ho).symm (fun z => KK _ _ _ _ _ _ (h1 z) _ _ _ _ _ hl hP hD hS hc hs) (fun z => KK _ _ _ _ _ _ (h2 z) _ _ _ _ _ hl hP hD hS hc hs)
  · rename_i hd
    obtain ⟨x, y, r, rfl, ho, h1, h2⟩ := h; exact lv_icmp_ge hx hb hd (Int.toNat_of_nonneg ho).symm (fun z => KK _ _ _ _ _ _ (h1 z) _ _ _ _ _ hl hP hD hS hc hs) (fun z => KK _ _ _ _ _ _ (h2 z) _ _ _ _ _ hl hP hD hS hc hs)
  · rename_i hd
    obtain ⟨x, y, r, rfl, ho, h1, h2⟩ := h; exact lv_icmp_gt hx hb hd (Int.toNat_of_nonneg ho).symm (fun z => KK _ _ _ _ _ _ (h1 z) _ _ _ _ _ hl hP hD hS hc hs) (fun z => KK _ _ _ _ _ _ (h2 z) _ _ _ _ _ hl hP hD hS hc hs)
  · rename_i hd
    obtain ⟨x, y, r, rfl, ho, h1, h2⟩ := h; exact lv_icmp_le hx hb hd (Int.toNat_of_nonneg ho).symm (fun z => KK _ _ _ _ _ _ (h1 z) _ _ _ _ _ hl hP hD hS hc hs) (fun z => KK _ _ _ _ _ _ (h2 z) _ _ _ _ _ hl hP hD hS hc hs)
  · rename_i hd
    exact lv_goto hx hb hd (Int.toNat_of_nonneg h.1).symm (KK _ _ _ _ _ _ h.2 _ _ _ _ _ hl hP hD hS hc hs)
  · rename_i df lo hi os ln hd
    obtain ⟨x, r, rfl, h1, h2, h3⟩ := h; by_cases z1 : x.toInt < lo
    · exact lv_tableOut hx hb hd (Or.inl z1) (Int.toNat_of_nonneg (h3 (Or.inl z1)).1).symm (KK _ _ _ _ _ _ (h3 (Or.inl z1)).2 _ _ _ _ _ hl hP hD hS hc hs)
    · by_cases z2 : hi < x.toInt
      · exact lv_tableOut hx hb hd (Or.inr z2) (Int.toNat_of_nonneg (h3 (Or.inr z2)).1).symm (KK _ _ _ _ _ _ (h3 (Or.inr z2)).2 _ _ _ _ _ hl hP hD hS hc hs)
      · obtain ⟨o, ho⟩ := Option.isSome_iff_exists.mp (h2 z1 z2)
        exact lv_tableIn hx hb hd z1 z2 ho (Int.toNat_of_nonneg (h1 o z1 z2 ho).1).symm (KK _ _ _ _ _ _ (h1 o z1 z2 ho).2 _ _ _ _ _ hl hP hD hS hc hs)
  · rename_i hd
    obtain ⟨x, r, rfl, hp, ho, h⟩ := h; exact lv_lookup hx hb hd hp rfl (Int.toNat_of_nonneg ho).symm (KK _ _ _ _ _ _ h _ _ _ _ _ hl hP hD hS hc hs)
  · rename_i hd
    rcases h with ⟨a, r, q, ci, fs, Cn, T, N, k, v, rfl, he, hcl, hk, hw, hv, h⟩ | ⟨k, r, hk, rfl, ⟨hw, h⟩ | ⟨hw, h⟩⟩
    · exact va_get hx hb hts (am_in hcl) hown hKn hP q he hcl k hk (hts _ hw) (fun _ z => z) hv hd (KK _ _ _ _ _ _ h _ _ _ _ _ hl hP hD hS hc hs)
    · exact vk_getf hx hb (hN.2.1.1 k hk).2.2.1 hS hown (hts _ hw) (fun _ z => z) hd (KK _ _ _ _ _ _ h _ _ _ _ _ hl hP hD hS hc hs)
    · exact vk_getf hx hb (hN.2.1.1 k hk).2.1 hS hown (hts _ hw) (fun _ z => z) hd (KK _ _ _ _ _ _ h _ _ _ _ _ hl hP hD hS hc hs)
  · rename_i hd
    obtain ⟨a, r, q, ci, fs, Cn, T, N, k, v, rfl, he, hcl, hk, hw, hkl, hnar, hfit, hfin, h⟩ := h
    by_cases z : (T k).2.2.2 = true
    · exact va_putF hx hb hts (am_in hcl) (am_t T) (am_ty hcl) (am_nm hcl) hown hKn hP hD hS q he hcl k hk (hts _ hw) (fun _ z => z) z (hini (hfin z).1) (hfin z).2 (am_ty hcl k hk) hnar hfit hkl hd (fun H1 locs1 hP1 hD1 hS1 => KK _ _ _ _ _ _ h _ _ _ _ _ hl hP1 hD1 hS1 hc hs)
    · exact va_put hx hb hts (am_in hcl) (am_t T) (am_ty hcl) (am_nm hcl) hown hKn hP hD hS q he hcl k hk (hts _ hw) (fun _ z => z) (by simpa using z) (am_ty hcl k hk) hnar hfit hkl hd (fun H1 locs1 hP1 hD1 hS1 => KK _ _ _ _ _ _ h _ _ _ _ _ hl hP1 hD1 hS1 hc hs)
  · rename_i hd
    rcases h with ⟨b, L, xs, j, r, e9, rfl, hin, h⟩ | ⟨a, j, r, q, n, f, rfl, he, hin, h⟩
    · exact va_sld hx hb (hscr _ _ _ e9).1 (hscr _ _ _ e9).2.1 (hscr _ _ _ e9).2.2 hS hin hd (KK _ _ _ _ _ _ h _ _ _ _ _ hl hP hD hS hc hs)
    · exact va_iald hx hb hKn hP q 0 he rfl hin hd (KK _ _ _ _ _ _ h _ _ _ _ _ hl hP hD hS hc hs)
  · rename_i hd
    obtain ⟨a, j, r, q, n, f, rfl, he, hin, h⟩ := h; exact va_lald hx hb hKn hP q 1 he rfl hin hd (KK _ _ _ _ _ _ h _ _ _ _ _ hl hP hD hS hc hs)
  · rename_i hd
    obtain ⟨a, j, r, q, n, f, rfl, he, hin, h⟩ := h; exact va_cald hx hb hKn hP q 2 he rfl hin hd (KK _ _ _ _ _ _ h _ _ _ _ _ hl hP hD hS hc hs)
  · rename_i hd
    rcases h with ⟨a, j, r, q, n, f, rfl, he, hin, h⟩ | ⟨k, j, r, hk, rfl, hin, h⟩
    · exact va_zald hx hb hKn hP q 3 he rfl hin hd (KK _ _ _ _ _ _ h _ _ _ _ _ hl hP hD hS hc hs)
    · exact va_tb hx hb (hN.2.1.1 k hk).2.2.2 hS hin rfl hd (KK _ _ _ _ _ _ h _ _ _ _ _ hl hP hD hS hc hs)
  · rename_i hd
    obtain ⟨a, j, x, r, q, n, f, rfl, he, hin, h⟩ := h; exact va_iast hx hb hKn hP hD hS q 0 he rfl hin hd (fun H1 locs1 hP1 hD1 hS1 => KK _ _ _ _ _ _ h _ _ _ _ _ hl hP1 hD1 hS1 hc hs)
  · rename_i hd
    obtain ⟨a, j, x, r, q, n, f, rfl, he, hin, h⟩ := h; exact va_last hx hb hKn hP hD hS q 1 he rfl hin hd (fun H1 locs1 hP1 hD1 hS1 => KK _ _ _ _ _ _ h _ _ _ _ _ hl hP1 hD1 hS1 hc hs)
  · rename_i hd
    obtain ⟨a, j, x, r, q, n, f, rfl, he, hin, h⟩ := h; exact va_cast hx hb hKn hP hD hS q 2 he rfl hin hd (fun H1 locs1 hP1 hD1 hS1 => KK _ _ _ _ _ _ h _ _ _ _ _ hl hP1 hD1 hS1 hc hs)
  · rename_i hd
    obtain ⟨a, j, x, r, q, n, f, rfl, he, hin, h⟩ := h; exact va_zast hx hb hKn hP hD hS q 3 he rfl hin hd (fun H1 locs1 hP1 hD1 hS1 => KK _ _ _ _ _ _ h _ _ _ _ _ hl hP1 hD1 hS1 hc hs)
  · rename_i hd
    rcases h with ⟨b, L, xs, r, e9, rfl, h⟩ | ⟨a, r, q, cA, x, t, ty, rfl, he, ht, h⟩ | ⟨k, r, hk, rfl, h⟩
    · exact va_slen hx hb (hscr _ _ _ e9).1 (hscr _ _ _ e9).2.1 (hscr _ _ _ e9).2.2 hS hd (KK _ _ _ _ _ _ h _ _ _ _ _ hl hP hD hS hc hs)
    · exact va_alen hx hb hKn hP q t he ht rfl hd (KK _ _ _ _ _ _ h _ _ _ _ _ hl hP hD hS hc hs)
    · exact va_tlen hx hb (hN.2.1.1 k hk).2.2.2 hS rfl hd (KK _ _ _ _ _ _ h _ _ _ _ _ hl hP hD hS hc hs)
  · rename_i hd
    obtain ⟨ci, Cn, T, N, hcl, hw, h1, h2, h⟩ := h
    exact va_new hx hb hts (am_in hcl) (am_t T) (am_ty hcl) hown (hts _ hw) (hts _ (am_inst hcl)) (hts _ (am_ini hcl)) hKn hP hD hS hA hcl (am_newV T N) (by rw [hRc]; omega) (by rw [hRs]; omega) hd (fun q H1 hP1 hD1 hS1 => KK _ _ _ _ _ _ (h q (am_freshD hD1)) _ _ _ _ _ hl hP1 hD1 hS1 (by omega) (by omega))
  · rename_i hd
    obtain ⟨n, r, rfl, hn, hbig, h1, h2, h⟩ := h
    refine va_newa hx hb (hts _ am_arr_int) (ty := .int) rfl hKn hP hD hS hA (N' := n.toNatClampNeg) (a0 := (n.toNatClampNeg, .inl (fun _ => 0))) (fun _ => rfl) hn rfl (by simp only [componentBytes]; omega) (by rw [hRc]; omega) (by rw [hRs]; omega) hd (fun q cA H1 hK1 hP1 hD1 hS1 => ?_)
    have hcA : cA = Z.1 := am_sameA_int hK1
    subst hcA
    exact KK _ _ _ _ _ _ (h q (am_freshD hD1)) _ _ _ _ _ hl hP1 hD1 hS1 (by omega) (by omega)
  · rename_i hd
    obtain ⟨n, r, rfl, hn, hbig, h1, h2, h⟩ := h
    refine va_newa hx hb (hts _ am_arr_long) (ty := .long) rfl hKn hP hD hS hA (N' := n.toNatClampNeg) (a0 := (n.toNatClampNeg, .inr (.inl (fun _ => 0)))) (fun _ => rfl) hn rfl (by simp only [componentBytes]; omega) (by rw [hRc]; omega) (by rw [hRs]; omega) hd (fun q cA H1 hK1 hP1 hD1 hS1 => ?_)
    have hcA : cA = Z.2.1 := am_sameA_long hK1
    subst hcA
    exact KK _ _ _ _ _ _ (h q (am_freshD hD1)) _ _ _ _ _ hl hP1 hD1 hS1 (by omega) (by omega)
  · rename_i hd
    obtain ⟨n, r, rfl, hn, hbig, h1, h2, h⟩ := h
    refine va_newa hx hb (hts _ am_arr_char) (ty := .char) rfl hKn hP hD hS hA (N' := n.toNatClampNeg) (a0 := (n.toNatClampNeg, .inl (fun _ => 0))) (fun _ => rfl) hn rfl (by simp only [componentBytes]; omega) (by rw [hRc]; omega) (by rw [hRs]; omega) hd (fun q cA H1 hK1 hP1 hD1 hS1 => ?_)
    have hcA : cA = Z.2.2.1 := am_sameA_char hK1
    subst hcA
    exact KK _ _ _ _ _ _ (h q (am_freshD hD1)) _ _ _ _ _ hl hP1 hD1 hS1 (by omega) (by omega)
  · rename_i hd
    obtain ⟨n, r, rfl, hn, hbig, h1, h2, h⟩ := h
    refine va_newa hx hb (hts _ am_arr_boolean) (ty := .boolean) rfl hKn hP hD hS hA (N' := n.toNatClampNeg) (a0 := (n.toNatClampNeg, .inl (fun _ => 0))) (fun _ => rfl) hn rfl (by simp only [componentBytes]; omega) (by rw [hRc]; omega) (by rw [hRs]; omega) hd (fun q cA H1 hK1 hP1 hD1 hS1 => ?_)
    have hcA : cA = Z.2.2.2.1 := am_sameA_boolean hK1
    subst hcA
    exact KK _ _ _ _ _ _ (h q (am_freshD hD1)) _ _ _ _ _ hl hP1 hD1 hS1 (by omega) (by omega)
  · rename_i hd
    rcases h with ⟨y, b, As, r, mc1, ms1, q, ci, fs, T, N, rfl, hpl, w1, w2, w3, w4, he, hcl, hcat, h1, h2, h⟩ | ⟨y, b, As, r, mc1, ms1, k, rfl, hpl, w1, w2, w3, w4, hk, rfl, hcs, hcat, h1, h2, h⟩
    · obtain ⟨bytes, maxL, ret1, w5, hmL, hM⟩ := hcall _ _ _ _ _ _ _ h
      have hFr := am_free (A := A) hD hS hA
      refine am_back hA hD hS (vx_runV (As := As) (rest := r) (n := As.length) ⟨hx, hb, hml, hown, hts⟩ (hM H.size) ⟨am_cb hts w5 w4 w1 hpl hmL hRf hRl, hts _ w2, hts _ w3⟩ ⟨am_blind, va_recv hKn hP hcl he, am_pre hKn hP hD hS hA hnest hU hN⟩ rfl rfl hl.1 rfl (lv_room hcat) hd (by rw [hRc, hRs]; omega)) (fun q9 E ce u H1 locs1 hp hP1 hD1 hS1 g1 g2 g3 => hthr _ _ _ _ _ _ _ _ _ _ _ _ _ _ hp hl hP1 hD1 hS1 g1 g2 g3 (by omega) (by omega)) (fun v u H1 locs1 hp hP1 hD1 hS1 => KK _ _ _ _ _ _ hp _ _ _ _ _ hl hP1 hD1 hS1 (by omega) (by omega))
    · obtain ⟨bytes, maxL, ret1, w5, hmL, hM⟩ := hcall _ _ _ _ _ _ _ h
      have hFr := am_free (A := A) hD hS hA
      refine am_back hA hD hS (vx_runV (As := As) (rest := r) (n := As.length) ⟨hx, hb, hml, hown, hts⟩ (hM H.size) ⟨am_cb hts w5 w4 w1 hpl hmL hRf hRl, hts _ w2, hts _ w3⟩ ⟨am_blind, (by rw [hcs]; exact vk_recv hN.2.1 hk hS), am_pre hKn hP hD hS hA hnest hU hN⟩ rfl rfl hl.1 rfl (lv_room hcat) hd (by rw [hRc, hRs]; omega)) (fun q9 E ce u H1 locs1 hp hP1 hD1 hS1 g1 g2 g3 => hthr _ _ _ _ _ _ _ _ _ _ _ _ _ _ hp hl hP1 hD1 hS1 g1 g2 g3 (by omega) (by omega)) (fun v u H1 locs1 hp hP1 hD1 hS1 => KK _ _ _ _ _ _ hp _ _ _ _ _ hl hP1 hD1 hS1 (by omega) (by omega))
  · rename_i hd
    rcases h with h | h
    · exact am_copy hx hb (hl.1.trans hml.symm).symm hown hts hKn hP hD hS hRf hRl (fun r u H1 locs1 h1 hP1 hD1 hS1 => KK _ _ _ _ _ _ h1 _ _ _ _ _ hl hP1 hD1 hS1 hc hs) hd h
    · obtain ⟨y, As, r, mc1, ms1, rfl, hpl, w2, w4, hcat, h1, h2, h | h | ⟨host, w1, h⟩⟩ := h
      · obtain ⟨bytes, maxL, ret1, w5, hmL, hM⟩ := hcall _ _ _ _ _ _ _ h.2
        exact am_back hA hD hS (vx_runS (As := As) (rest := r) (n := As.length) ⟨hx, hb, hml, hown, hts⟩ (hM H.size) ⟨am_cb hts w5 w4 h.1 hpl hmL hRf hRl, hts _ w2⟩ ⟨am_blind, am_pre hKn hP hD hS hA hnest hU hN⟩ rfl rfl hl.1 rfl (lv_room hcat) hd (by rw [hRc, hRs]; omega)) (fun q9 E ce u H1 locs1 hp hP1 hD1 hS1 g1 g2 g3 => hthr _ _ _ _ _ _ _ _ _ _ _ _ _ _ hp hl hP1 hD1 hS1 g1 g2 g3 (by omega) (by omega)) (fun v u H1 locs1 hp hP1 hD1 hS1 => KK _ _ _ _ _ _ hp _ _ _ _ _ hl hP1 hD1 hS1 (by omega) (by omega))
      · obtain ⟨bytes, maxL, ret1, hh, w5, hmL, hM⟩ := hcallW _ _ _ _ _ _ _ h.2
        exact am_backN hA hD hS (vx_runSW (As := As) (rest := r) (n := As.length) ⟨hx, hb, hml, hown, hts⟩ (am_noX (hM H.size)) (am_csw hts w5 w4 h.1 w2 hpl hmL hRf hRl) ⟨am_blind, am_pre hKn hP hD hS hA hnest hU hN⟩ rfl rfl hl.1 rfl (lv_room hcat) hd (by rw [hRc, hRs]; omega)) (fun v u H1 locs1 hp hP1 hD1 hS1 => KK _ _ _ _ _ _ hp _ _ _ _ _ hl hP1 hD1 hS1 (by omega) (by omega))
      · obtain ⟨bytes, maxL, ret1, w5, hmL, hM⟩ := hcall _ _ _ _ _ _ _ h
        exact am_backN hA hD hS (va_runSN (As := As) (rest := r) (n := As.length) ⟨hx, hb, hml, hown, hts⟩ (am_noX (hM H.size)) ⟨am_cn hts w5 w4 (hnest.1 _ _ _ _ w1) hpl hmL hRf hRl, hts _ w2, trivial⟩ ⟨am_blind, am_pre hKn hP hD hS hA hnest hU hN⟩ rfl rfl hl.1 rfl (lv_room hcat) hd (by rw [hRc, hRs]; omega)) (fun v u H1 locs1 hp hP1 hD1 hS1 => KK _ _ _ _ _ _ hp _ _ _ _ _ hl hP1 hD1 hS1 (by omega) (by omega))
  · rename_i hd
    rcases h with ⟨a, r, rfl, hcat, w1, h⟩ | ⟨y, b, As, r, mc1, ms1, rfl, hpl, hyn, w2, w4, hcat, h1, h2, -, hlk, h⟩
    · exact W.objInit hx hb hown (hts _ w1) (hts _ am_obj1) (hts _ am_obj2) rfl (by rw [hml]; exact hl.1) rfl hd (by omega) (by have := lv_room (m := m) (pc := pc) (ls := ls) (rest := r) hcat; simp only [JFrame.monitorRoom] at *; omega) (KK _ _ _ _ _ _ h _ _ _ _ _ hl hP hD hS hc hs)
    · obtain ⟨bytes, maxL, ret1, w5, hmL, hM⟩ := hcall _ _ _ _ _ _ _ h
      obtain rfl : ret1 = none := am_initret hyn w5
      rcases hlk with w1 | ⟨host, w1⟩
      · exact am_backN hA hD hS (va_runI (As := As) (rest := r) (n := As.length) ⟨hx, hb, hml, hown, hts⟩ (am_noX (hM H.size)) ⟨am_cb hts w5 w4 w1 hpl hmL hRf hRl, hyn, hts _ w2⟩ ⟨am_blind, am_pre hKn hP hD hS hA hnest hU hN⟩ rfl rfl hl.1 rfl (lv_room hcat) hd (by rw [hRc, hRs]; omega)) (fun v u H1 locs1 hp hP1 hD1 hS1 => KK _ _ _ _ _ _ hp _ _ _ _ _ hl hP1 hD1 hS1 (by omega) (by omega))
      · exact am_backN hA hD hS (va_runIN (As := As) (rest := r) (n := As.length) ⟨hx, hb, hml, hown, hts⟩ (am_noX (hM H.size)) ⟨am_cn hts w5 w4 (hnest.1 _ _ _ _ w1) hpl hmL hRf hRl, hyn, hts _ w2⟩ ⟨am_blind, am_pre hKn hP hD hS hA hnest hU hN⟩ rfl rfl hl.1 rfl (lv_room hcat) hd (by rw [hRc, hRs]; omega)) (fun v u H1 locs1 hp hP1 hD1 hS1 => KK _ _ _ _ _ _ hp _ _ _ _ _ hl hP1 hD1 hS1 (by omega) (by omega))
  · rename_i hd
    exact hend _ _ _ _ _ _ _ _ (by unfold am_end; rw [hd]; exact h) hP hD hS (by omega) (by omega)
  · rename_i hd
    exact hend _ _ _ _ _ _ _ _ (by unfold am_end; rw [hd]; exact h) hP hD hS (by omega) (by omega)
  · rename_i hd
    exact hend _ _ _ _ _ _ _ _ (by unfold am_end; rw [hd]; exact h) hP hD hS (by omega) (by omega)
  · rename_i hd
    exact hend _ _ _ _ _ _ _ _ (by unfold am_end; rw [hd]; exact h) hP hD hS (by omega) (by omega)
  · exact h.elim
theorem am_runok (hKn : va_K D vwCl (am_tys Z) s) (hx : p.tables.exec = Jvm.exec) (hb : c.code = cc) (hml : c.maxLocals = nL) (hown : s.vm.findClass own = some m.cls) (hts : ∀ w ∈ am_T, w.before args s = true) (hnest : am_nest s) (hini : ini = true → meth.name = "<init>") (hA : ∀ q, s.heap.size ≤ q → A q) (hscr : ∀ b L xs, scr = some (b, L, xs) → va_X b L xs s s.heap ∧ b < s.heap.size ∧ ¬ A b)
    (hU : vx_Zq Bundle.tN "UNASSIGNED_STACK" Bundle.steD A s s.heap) (hN : am_N Z A s s.heap) (hRc : R.cells = mc) (hRs : R.slots = ms) (hRf : d + 1 ≤ R.frames) (hRl : 64 * (d + 1) ≤ R.locals) (hcall : ∀ y as ws kc ks post xp, call y as ws kc ks post xp → am_Met l D Z d y as ws kc ks post xp) (hcallW : ∀ y as ws kc ks post xp, callW y as ws kc ks post xp → am_MetW l D Z d y as ws kc ks post xp)
    (hend : ∀ pc ls st ws H locs cells slots, am_end cc rt ret pc st ws → va_P D vwCl ws H → va_D A ws → va_S A s.heap H locs → cells ≤ mc → slots ≤ ms → W p l e R s m args below meth c H locs cells slots Q (F0 m pc ls st))
    (hthr : ∀ (K : AmK), (∀ pc lv st ws C S, K pc lv st ws C S → ∀ H locs cells slots ls, lv_has ls nL lv → va_P D vwCl ws H → va_D A ws → va_S A s.heap H locs → cells + C ≤ mc → slots + S ≤ ms → W p l e R s m args below meth c H locs cells slots Q (F0 m pc ls st)) → ∀ pc lv ls rest q E ce u H1 locs1 cells slots C S, xh K pc lv C S E u → lv_has ls nL lv → va_P D vwCl u H1 → va_D A u → va_S A s.heap H1 locs1 → H1[q]? = some ce → ce.vm = .none → s.vm.findClass E = some ce.cls → cells + C ≤ mc → slots + S ≤ ms → vx_W p l e R s m args below meth c H1 locs1 cells slots Q (F0 m pc ls rest) q) :
    ∀ n pc lv st ws C S, am_run Z scr own cc nL rt ini call callW xh ret n pc lv st ws C S → ∀ H locs cells slots ls, lv_has ls nL lv → va_P D vwCl ws H → va_D A ws → va_S A s.heap H locs → cells + C ≤ mc → slots + S ≤ ms → W p l e R s m args below meth c H locs cells slots Q (F0 m pc ls st) := by
  intro n
  induction n with
  | zero => intro pc lv st ws C S h; exact h.elim
  | succ n ih =>
    intro pc lv st ws C S h H locs cells slots ls hl hP hD hS hc hs
    rcases h with h | ⟨ws', ⟨g, hg, hi⟩, h⟩
    · exact am_one (K := am_run Z scr own cc nL rt ini call callW xh ret n) hKn hx hb hml hown hts hnest hini hA hscr hU hN hRc hRs hRf hRl hcall hcallW hend (hthr _ ih) ih h hl hP hD hS hc hs
    · exact ih pc lv st ws' C S h H locs cells slots ls hl (fun k q hk => hP (g k) q (hg k q hk)) (va_D.by hD g hg hi) hS hc hs
/-- the ends of an ordinary method -/
theorem am_ends (hKn : va_K D vwCl (am_tys Z) s) (hx : p.tables.exec = Jvm.exec) (hb : c.code = cc) (hr : meth.sig.returnType = rt) (hlocks : meth.locks = false) : ∀ pc ls st ws H locs cells slots, am_end cc rt ret pc st ws → va_P D vwCl ws H → va_D A ws → va_S A s.heap H locs → cells ≤ mc → slots ≤ ms → W p l e R s m args below meth c H locs cells slots (vx_MQ below (am_Q D Z A ret) (am_X D Z A xp) args s mc ms A) (F0 m pc ls st) := by
  intro pc ls st ws H locs cells slots h hP hD hS hc hs
  unfold am_end at h
  split at h
  · rename_i hd
    obtain ⟨v, ty, rfl, rfl, hn, h⟩ := h
    exact W.widen hc hs (vx_ret (W.zret hx hb hr hn (fun t ht hW => ⟨⟨_, ws, rfl, h, by rw [ht]; exact hP, va_K.moved hW.alike hKn, hD⟩, hS.F ht⟩) hS.2.2 hd hlocks))
  · rename_i hd
    obtain ⟨v, rfl, rfl, h⟩ := h
    exact W.widen hc hs (vx_ret (W.lret hx hb hr (fun t ht hW => ⟨⟨_, ws, rfl, h, by rw [ht]; exact hP, va_K.moved hW.alike hKn, hD⟩, hS.F ht⟩) hS.2.2 hd hlocks))
  · rename_i hd
    obtain ⟨a, ty, rfl, rfl, hty, h⟩ := h
    exact W.widen hc hs (vx_ret (W.aret hx hb hr hty (Or.inr ⟨a, rfl⟩) (fun t ht hW => ⟨⟨_, ws, rfl, h, by rw [ht]; exact hP, va_K.moved hW.alike hKn, hD⟩, hS.F ht⟩) hS.2.2 hd hlocks))
  · rename_i hd
    obtain ⟨rfl, rfl, h⟩ := h
    exact W.widen hc hs (vx_ret (W.vret hx hb hr (fun t ht hW => ⟨⟨_, ws, rfl, h, by rw [ht]; exact hP, va_K.moved hW.alike hKn, hD⟩, hS.F ht⟩) hS.2.2 hd hlocks))
  · exact h.elim
end AM
/-- a body, of a member that the machine itself has no entry for (its class may have others) -/
theorem am_ofW {l : Launch} {y : MethodName} {ws ws' : List Cond} {rm : Room} {Pc : Array Value → State → Prop} {Qc : Array Value → State → Outcome → State → Prop} {XC : String → State → State → Prop} {mc ms : Nat} {free : Addr → Prop} {cc : ByteArray} {maxL : Nat} {ret : Option FieldType}
    (hy : plainFor y = true) (hw : ws = Cond.code y cc maxL ret :: ws')
    (body : ∀ p e s m args below meth c s₁, BodyLoose p l y (headSpec ws rm) cc maxL ret e s m args below meth c s₁ → c.maxLocals = maxL → (∀ x ∈ c.exceptionTable.toList, False) → Pc args s →
      W p l e (headSpec ws rm).room s m args below meth c s.heap [] 0 0 (vx_MQ below Qc XC args s mc ms free) (entryFrame m args maxL)) : vx_Met l y ws rm Pc Qc XC mc ms free := by
  have hm : Cond.code y cc maxL ret ∈ ws := by rw [hw]; exact List.mem_cons_self
  refine MetFree.of_bodySF (code := cc) (maxLocals := maxL) (ret := ret) hy (fun args s m h hn => ?_) (fun p e s m args below meth c s₁ B hml hP _ => ?_)
  · obtain ⟨meth, c, h1, h2, h3, h4, h5, h6, -, -⟩ := Cond.code_spec hn (atoms_spec (ws := ws) h _ hm)
    exact ⟨meth, c, h1, h2, h3, h4, h5, h6⟩
  · have ht : ∀ x ∈ c.exceptionTable.toList, False := by
      obtain ⟨meth9, c9, h1, h2, -, -, -, -, h7, -⟩ := Cond.code_spec B.named (atoms_spec (ws := ws) B.pre _ hm)
      cases Option.some.inj (h1.symm.trans B.method)
      cases Option.some.inj (h2.symm.trans (Stand.of_body B).code)
      intro x hx
      rw [Array.isEmpty_iff.mp h7] at hx
      cases hx
    obtain ⟨t, a1, o, b1, b2, b3⟩ := body p e s m args below meth c s₁ B hml ht hP s₁ (by rw [B.state]; rfl) (Stand.of_body B)
    exact ⟨t, o, a1, b1, b2, b3⟩
theorem am_ofWH {l : Launch} {y : MethodName} {ws ws' : List Cond} {rm : Room} {Pc : Array Value → State → Prop} {Qc : Array Value → State → Outcome → State → Prop} {XC : String → State → State → Prop} {mc ms : Nat} {free : Addr → Prop} {cc : ByteArray} {maxL : Nat} {ret : Option FieldType} {hh : List (Nat × Nat × Nat × Nat)}
    (hy : plainFor y = true) (hw : ws = Cond.codeWith y cc maxL ret hh :: ws')
    (body : ∀ p e s m args below meth c s₁, BodyLoose p l y (headSpec ws rm) cc maxL ret e s m args below meth c s₁ → c.maxLocals = maxL → Pc args s →
      W p l e (headSpec ws rm).room s m args below meth c s.heap [] 0 0 (vx_MQ below Qc XC args s mc ms free) (entryFrame m args maxL)) : vx_Met l y ws rm Pc Qc XC mc ms free := by
  have hm : Cond.codeWith y cc maxL ret hh ∈ ws := by rw [hw]; exact List.mem_cons_self
  refine MetFree.of_bodySF (code := cc) (maxLocals := maxL) (ret := ret) hy (fun args s m h hn => ?_) (fun p e s m args below meth c s₁ B hml hP _ => ?_)
  · obtain ⟨m9, meth, c, hn9, h1, h2, h3, h4, -, h5, h6, -⟩ := Cond.codeWith_spec (atoms_spec (ws := ws) h _ hm)
    cases hn.symm.trans hn9
    exact ⟨meth, c, h1, h2, h3, h4, h5, h6⟩
  · obtain ⟨t, a1, o, b1, b2, b3⟩ := body p e s m args below meth c s₁ B hml hP s₁ (by rw [B.state]; rfl) (Stand.of_body B)
    exact ⟨t, o, a1, b1, b2, b3⟩
/-- THE LAYER IS SOUND: what am_wp says of a call, the machine does -/
theorem am_wpok {l : Launch} {D : va_G} {Z : AmZ} {leaf : AmC} (hleaf : ∀ d y as ws mc ms post xp, leaf y as ws mc ms post xp → am_Met l D Z (d + 6) y as ws mc ms post xp) : ∀ d y as ws mc ms post xp, am_wp Z leaf d y as ws mc ms post xp → am_Met l D Z d y as ws mc ms post xp := by
  intro d
  induction d with
  | zero => intro y as ws mc ms post xp h; exact h.elim
  | succ d ih =>
    intro y as ws mc ms post xp h
    rcases h with ⟨h5, h⟩ | ⟨cc, nL, rt, n, w5, hnL, hlen, hpn, h⟩
    · obtain ⟨k, rfl⟩ : ∃ k, d = k + 5 := ⟨d - 5, by omega⟩
      exact hleaf k y as ws mc ms post xp h
    · refine ⟨cc, nL, rt, w5, hnL, fun sz => ?_⟩
      refine am_ofW (cc := cc) (maxL := nL) (ret := rt) hpn rfl ?_
      intro p e s m args below meth c s₁ B hml htab hv
      obtain ⟨rfl, hsz, hP, hK, hD0, hnest, hU, hN⟩ := hv
      have hts : ∀ w ∈ am_T, w.before as.toArray s = true := fun w hw => atoms_spec (ws := Cond.code y cc nL rt :: am_T) B.pre w (List.mem_cons_of_mem _ hw)
      have hown : s.vm.findClass y.cls = some m.cls := findClass_of_methodNamed B.named
      have hin : decide (y.name = "<init>") = true → meth.name = "<init>" := fun z => (name_of_methodNamed B.named B.method).1.trans (of_decide_eq_true z)
      subst hsz
      have hl := lv_entry as (n := nL) hlen
      rw [lg_entry_eq]
      generalize (lg_sl as ++ List.replicate (nL - (lg_sl as).length) Slot.unset).toArray = ls at hl ⊢
      refine am_runok (A := va_A ws s.heap.size) (mc := mc) (ms := ms) (d := d) hK B.exec B.bytes hml hown hts hnest hin (fun q hq => Or.inr hq) (fun _ _ _ z => by cases z) hU hN rfl rfl (Nat.le_refl _) (Nat.le_refl _) ih (fun _ _ _ _ _ _ _ z => z.elim) (am_ends hK B.exec B.bytes B.returns B.notSynchronized) ?_ n 0 (lv_args 0 as) [] ws mc ms h s.heap [] 0 0 ls hl hP hD0.self va_S.rf (by omega) (by omega)
      intro K _ pc lv ls rest q E ce u H1 locs1 cells slots C S hxp hl1 hP1 hD1 hS1 g1 g2 g3 hc hs
      exact vx_out (fun x hx => (htab x hx).elim) B.notSynchronized g1 g2 g3 (fun t9 ht9 hal9 => ⟨u, hxp, by rw [ht9]; exact hP1, va_K.moved hal9 hK, hD1, hS1.F ht9⟩) hS1.2.2 (by omega) (by omega)
end
section
/-! allow and ready: the two methods that throw -/
theorem am_dA0 : decode cX11_allow 0 = .ok (.iload_n 0, 1) := by decide +kernel
theorem am_dA1 : decode cX11_allow 1 = .ok (.ifCond .ne 11, 3) := by decide +kernel
theorem am_dA4 : decode cX11_allow 4 = .ok (.new 369, 3) := by decide +kernel
theorem am_dA7 : decode cX11_allow 7 = .ok (.dup, 1) := by decide +kernel
theorem am_dA8 : decode cX11_allow 8 = .ok (.invokespecial 371, 3) := by decide +kernel
theorem am_dA11 : decode cX11_allow 11 = .ok (.athrow, 1) := by decide +kernel
theorem am_dA12 : decode cX11_allow 12 = .ok (.return_, 1) := by decide +kernel
theorem am_dR0 : decode cX11_ready 0 = .ok (.iload_n 0, 1) := by decide +kernel
theorem am_dR1 : decode cX11_ready 1 = .ok (.ifCond .ne 11, 3) := by decide +kernel
theorem am_dR4 : decode cX11_ready 4 = .ok (.new 372, 3) := by decide +kernel
theorem am_dR7 : decode cX11_ready 7 = .ok (.dup, 1) := by decide +kernel
theorem am_dR8 : decode cX11_ready 8 = .ok (.invokespecial 374, 3) := by decide +kernel
theorem am_dR11 : decode cX11_ready 11 = .ok (.athrow, 1) := by decide +kernel
theorem am_dR12 : decode cX11_ready 12 = .ok (.return_, 1) := by decide +kernel
def am_up : List String := ["java/lang/RuntimeException", "java/lang/Exception"]
/-- a method 'static void f(boolean b) { if (!b) throw new E(); }' -/
def am_thr (E : String) (as : List Value) (ws : va_W) (mc ms : Nat) (post : AmR) (xp : AmX) : Prop := ∃ g : Int32, as = [.int g] ∧ (¬ g = 0 → post none ws) ∧ (g = 0 → 1 ≤ mc ∧ 6 ≤ ms ∧ xp E ws)
theorem am_throk {l : Launch} (hl0 : l.stackTraces = false) {D : va_G} {Z : AmZ} {d : Nat} {y : MethodName} {cc : ByteArray} {E : String} {ik ic : Nat} (w5 : Cond.code y cc 1 none ∈ am_T) (hyc : y.cls = RX11)
    (d0 : decode cc 0 = .ok (.iload_n 0, 1)) (d1 : decode cc 1 = .ok (.ifCond .ne 11, 3)) (d4 : decode cc 4 = .ok (.new ik, 3)) (d7 : decode cc 7 = .ok (.dup, 1)) (d8 : decode cc 8 = .ok (.invokespecial ic, 3)) (d11 : decode cc 11 = .ok (.athrow, 1)) (d12 : decode cc 12 = .ok (.return_, 1))
    (hfit : Bundle.fit E = true) (wk : Cond.classLink RX11 ik E ∈ am_T) (wi : Cond.initialized E ∈ am_T) (wat : ∀ w ∈ (vx_at0 RX11 ic E am_up).filter goodWord, w ∈ am_T) (wno : ∀ w ∈ (vx_at0 RX11 ic E am_up).filter (fun w => !goodWord w), am_nn w = true ∧ w ∈ lw_tbl) (wot : ∀ w ∈ vx_at0 RX11 ic E am_up, vx_ot w = true)
    {as : List Value} {ws : va_W} {mc ms : Nat} {post : AmR} {xp : AmX} (h : am_thr E as ws mc ms post xp) : am_Met l D Z (d + 6) y as ws mc ms post xp := by
  obtain ⟨g, rfl, h1, h2⟩ := h
  refine ⟨cc, 1, none, w5, by decide, fun sz => ?_⟩
  refine vx_ofW (cc := cc) (maxL := 1) (ret := none) (by rw [hyc]; decide +kernel) rfl ?_
  intro p e s m args below meth c s₁ B hml htab hv
  obtain ⟨rfl, hsz, hP, hK, hD0, hnest, hU, hN⟩ := hv
  have hts : ∀ w ∈ am_T, w.before ([Value.int g] : List Value).toArray s = true := fun w hw => atoms_spec (ws := Cond.code y cc 1 none :: am_T) B.pre w (List.mem_cons_of_mem _ hw)
  have hown : s.vm.findClass RX11 = some m.cls := hyc ▸ findClass_of_methodNamed B.named
  subst hsz
  have hD : va_D (va_A ws s.heap.size) ws := hD0.self
  have hl := lv_entry [Value.int g] (n := 1) (Nat.le_of_ble_eq_true rfl)
  rw [lg_entry_eq]
  generalize (lg_sl [Value.int g] ++ List.replicate (1 - (lg_sl [Value.int g]).length) Slot.unset).toArray = ls at hl ⊢
  refine lv_iload_n (x := g) B.exec B.bytes d0 rfl (hl.2.2 (0, .int g) List.mem_cons_self) ?_
  refine lv_if_ne (tgt := 12) B.exec B.bytes d1 (by decide) (fun z => ?_) (fun z => ?_)
  · exact W.widen (Nat.zero_le mc) (Nat.zero_le ms) (vx_ret (W.vret B.exec B.bytes B.returns (fun t ht hW => ⟨⟨_, ws, rfl, h1 z, by rw [ht]; exact hP, va_K.moved hW.alike hK, hD⟩, (va_S.rf (A := va_A ws s.heap.size)).F ht⟩) (fun _ hz => by cases hz) d12 B.notSynchronized))
  · obtain ⟨k1, k2, k3⟩ := h2 z
    refine vx_throw0 (A := va_A ws s.heap.size) (own := RX11) (cls := E) (names := am_up) (ik := ik) (ic := ic) B.exec B.bytes hl0 hown hfit (by decide +kernel) (hts _ wk) (hts _ wi) (vx_hat (B := (vx_at0 RX11 ic E am_up).filter (fun w => !goodWord w)) (fun w hw => hts w (wat w hw)) (fun w hw => hw) (fun w hw => hnest.word (wno w hw).1 (wno w hw).2 _)) (fun w hw => ?_) hU hN.1 va_S.rf (hl.1.trans hml.symm) d4 d7 d8 d11 (fun x hx => (htab x hx).elim) ?_ ?_ ?_ ?_ B.notSynchronized ?_ (fun _ hz => by cases hz) (by omega) (by omega)
    · rcases List.mem_cons.mp hw with rfl | hw
      · rfl
      · rcases List.mem_cons.mp hw with rfl | hw
        · rfl
        · exact wot w hw
    · show 2 + 3 < d + 6
      omega
    · show 0 + (13 * (2 + 1) + 42) ≤ 64 * (d + 6)
      omega
    · show 0 + 1 ≤ mc
      omega
    · show 0 + 6 ≤ ms
      omega
    · intro t hal hz hk
      have hPt : va_P D vwCl ws t.heap := hP.kept (fun k q hq => hk q.1 (hP k q hq).lt)
      exact ⟨ws, k3, hPt, va_K.moved hal hK, hD, hz, fun q h3 _ => hk q h3⟩
theorem am_near {L : List Cond} (k n : Nat) (h : ∀ w ∈ L.filter goodWord, w ∈ (lw_tbl.drop k).take n ++ lw_tbl) : ∀ w ∈ L.filter goodWord, w ∈ am_T := fun w hw => List.mem_filter.mpr ⟨(List.mem_append.mp (h w hw)).elim (fun q => List.mem_of_mem_drop (List.mem_of_mem_take q)) id, (List.mem_filter.mp hw).2⟩
theorem am_nearn {L : List Cond} (k n : Nat) (h : ∀ w ∈ L, am_nn w = true ∧ w ∈ (lw_tbl.drop k).take n ++ lw_tbl) : ∀ w ∈ L, am_nn w = true ∧ w ∈ lw_tbl := fun w hw => ⟨(h w hw).1, (List.mem_append.mp (h w hw).2).elim (fun q => List.mem_of_mem_drop (List.mem_of_mem_take q)) id⟩
set_option maxRecDepth 100000 in
theorem am_allowok {l : Launch} (hl0 : l.stackTraces = false) {D : va_G} {Z : AmZ} {d : Nat} {as : List Value} {ws : va_W} {mc ms : Nat} {post : AmR} {xp : AmX} (h : am_thr am_IA as ws mc ms post xp) : am_Met l D Z (d + 6) yX11_allow as ws mc ms post xp :=
  am_throk (ik := 369) (ic := 371) hl0 (am_at 1323 (by decide +kernel) (by decide +kernel)) rfl am_dA0 am_dA1 am_dA4 am_dA7 am_dA8 am_dA11 am_dA12 (by decide +kernel) (am_at 1324 (by decide +kernel) (by decide +kernel)) (am_at 188 (by decide +kernel) (by decide +kernel)) (am_near 1323 140 (by decide +kernel)) (am_nearn 1323 140 (by decide +kernel)) (by decide +kernel) h
set_option maxRecDepth 100000 in
theorem am_readyok {l : Launch} (hl0 : l.stackTraces = false) {D : va_G} {Z : AmZ} {d : Nat} {as : List Value} {ws : va_W} {mc ms : Nat} {post : AmR} {xp : AmX} (h : am_thr am_IS as ws mc ms post xp) : am_Met l D Z (d + 6) yX11_ready as ws mc ms post xp :=
  am_throk (ik := 372) (ic := 374) hl0 (am_at 1389 (by decide +kernel) (by decide +kernel)) rfl am_dR0 am_dR1 am_dR4 am_dR7 am_dR8 am_dR11 am_dR12 (by decide +kernel) (am_at 1390 (by decide +kernel) (by decide +kernel)) (am_at 189 (by decide +kernel) (by decide +kernel)) (am_near 1323 140 (by decide +kernel)) (am_nearn 1323 140 (by decide +kernel)) (by decide +kernel) h
end
section
/-! methods with a table of handlers (the law's own wrappers): a throw is caught, and the body goes on -/
def am_hx (own : String) (hh : List (Nat × Nat × Nat × Nat)) : AmH := fun K pc lv C S E u =>
  ∃ (pre : List ExceptionTableEntry) (x : ExceptionTableEntry) (suf : List ExceptionTableEntry), tableOf hh = pre ++ x :: suf ∧ covers x pc = true ∧ x.catchType ≠ 0 ∧ Cond.classLink own x.catchType E ∈ am_T ∧ Cond.castable E E ∈ lw_tbl ∧
    (∀ z ∈ pre, z.catchType ≠ 0 ∧ E = am_IS ∧ Cond.classLink own z.catchType am_IA ∈ am_T) ∧ ∀ q, K x.handlerPc lv [.ref q] u C S
def am_wpW (Z : AmZ) (leaf : AmC) : Nat → AmC
  | 0 => am_no
  | d + 1 => fun y as ws mc ms post _ => ∃ cc nL rt hh n, Cond.codeWith y cc nL rt hh ∈ am_T ∧ nL ≤ 45 ∧ (lg_sl as).length ≤ nL ∧ plainFor y = true ∧ am_run Z none y.cls cc nL rt false (am_wp Z leaf d) am_no (am_hx y.cls hh) post n 0 (lv_args 0 as) [] ws mc ms
theorem am_wpWok {l : Launch} {D : va_G} {Z : AmZ} {leaf : AmC} (hleaf : ∀ d y as ws mc ms post xp, leaf y as ws mc ms post xp → am_Met l D Z (d + 6) y as ws mc ms post xp) : ∀ d y as ws mc ms post xp, am_wpW Z leaf d y as ws mc ms post xp → am_MetW l D Z d y as ws mc ms post xp := by
  intro d y as ws mc ms post xp h
  cases d with
  | zero => exact h.elim
  | succ d =>
    obtain ⟨cc, nL, rt, hh, n, w5, hnL, hlen, hpn, h⟩ := h
    refine ⟨cc, nL, rt, hh, w5, hnL, fun sz => ?_⟩
    refine am_ofWH (cc := cc) (maxL := nL) (ret := rt) (hh := hh) hpn rfl ?_
    intro p e s m args below meth c s₁ B hml hv
    obtain ⟨rfl, hsz, hP, hK, hD0, hnest, hU, hN⟩ := hv
    have hts : ∀ w ∈ am_T, w.before as.toArray s = true := fun w hw => atoms_spec (ws := Cond.codeWith y cc nL rt hh :: am_T) B.pre w (List.mem_cons_of_mem _ hw)
    have htb : c.exceptionTable.toList = tableOf hh := vx_table (x := y) B (hts _ w5)
    have hown : s.vm.findClass y.cls = some m.cls := findClass_of_methodNamed B.named
    subst hsz
    have hl := lv_entry as (n := nL) hlen
    rw [lg_entry_eq]
    generalize (lg_sl as ++ List.replicate (nL - (lg_sl as).length) Slot.unset).toArray = ls at hl ⊢
    refine am_runok (A := va_A ws s.heap.size) (mc := mc) (ms := ms) (d := d) hK B.exec B.bytes hml hown hts hnest (fun z => by cases z) (fun q hq => Or.inr hq) (fun _ _ _ z => by cases z) hU hN rfl rfl (Nat.le_refl _) (Nat.le_refl _) (am_wpok hleaf d) (fun _ _ _ _ _ _ _ z => z.elim) (am_ends hK B.exec B.bytes B.returns B.notSynchronized) ?_ n 0 (lv_args 0 as) [] ws mc ms h s.heap [] 0 0 ls hl hP hD0.self va_S.rf (by omega) (by omega)
    intro K KK pc lv ls rest q E ce u H1 locs1 cells slots C S hxp hl1 hP1 hD1 hS1 g1 g2 g3 hc hs
    obtain ⟨pre, x, suf, e1, e2, e3, e4, e5, e6, e7⟩ := hxp
    exact vx_catch hown pre x suf (htb.trans e1) (fun z hz => Or.inr ⟨(e6 z hz).1, am_IA, hts _ (e6 z hz).2.2, by rw [(e6 z hz).2.1]; exact hnest.2.2.1⟩) e2 e3 (hts _ e4) (va_Nw.use rfl (hnest.2.1 E E e5)) g1 g2 g3 (KK _ _ _ _ _ _ (e7 q) _ _ _ _ _ hl1 hP1 hD1 hS1 hc hs)
end
section
/-! THE CLAIM OUT OF ONE WALK OF THE LAW'S BODY. Your part is whole_start (and what it stands on); all else here is the same for every law, but numbers. -/
def R_law : String := "GraphHouseLaw"
def lw_P (b : Addr) (xs : List Int32) (args : Array Value) (s : State) : Prop := args = #[.ref b] ∧ s.IntsAt b xs ∧ xs.length ≤ 384 ∧ (Jvm.Cond.and given_1 narrow_1).before args s = true
def lw_Q (_ : Array Value) (s : State) (o : Outcome) (t : State) : Prop := o = .returned (some (.int 1)) ∧ Framed s o t [] 600128 7301098
def lw_Z (below : List Frame) (a : Array Value) (s : State) : State → Prop := fun t => ∃ o, t.status = .running ∧ Ended t below o ∧ lw_Q a s o t
/-- the law's own end, with 1 on the stack, nothing written that was there before, its room as the claim has it -/
theorem lw_ret {p : Program} {l : Launch} {e : Env} {s : State} {m : MethodId} {below : List Frame} {meth : Method} {c : Code} {b : Nat} (hx : p.tables.exec = Jvm.exec) (hb : c.code = code) (hr : meth.sig.returnType = ret) (hlocks : meth.locks = false) {pc : Nat} {H : Heap} {ls : Array Slot} (hdg : decode code pc = .ok (.ireturn, 1)) : W p l e room_1 s m #[Value.ref b] below meth c H [] 600128 7301098 (lw_Z below #[Value.ref b] s) (F0 m pc ls [.int 1]) := by
  intro T hT X
  obtain ⟨fs, hret, hrun, hended, hW, hframe⟩ := X.leave (v := some (.int 1)) (hlocks := hlocks) (fun h => by rw [hr] at h; cases h)
  have hmeth' : T.vm.method? m = some meth := X.method'
  refine ⟨T.setFrames fs, ?_, .returned (some (.int 1)), hrun, hended, rfl, ⟨_, rfl⟩, hW, hframe⟩
  jvm_step X.here [X.here.top, hx, hb, hdg, hmeth', hr, ret, narrow_b1]
  (try refine ⟨rfl, ?_⟩); (try refine ⟨rfl, ?_⟩)
  first | (intro acts; rw [hret _ acts rfl rfl rfl]) | rw [hret _ _ rfl rfl rfl]
  exact Steps.refl _
/-- what holds at the law's entry: the machine, the code, the tables' words (any of lw_tbl by 'hts w (by decide +kernel)'), the script of L ints xs at the cell b, what the Statement gives of the start (any of its parts by flat_of_before) -/
def lw_At (p : Program) (s : State) (m : MethodId) (meth : Method) (c : Code) (b L : Nat) (xs : Nat → Int32) : Prop :=
  p.tables.exec = Jvm.exec ∧ c.code = code ∧ meth.sig.returnType = ret ∧ c.maxLocals = 8 ∧ s.vm.findClass R_law = some m.cls ∧ (∀ w ∈ lw_tbl, w.before #[Value.ref b] s = true) ∧ va_X b L xs s s.heap ∧ b < s.heap.size ∧ meth.locks = false ∧ (Jvm.Cond.and given_1 narrow_1).before #[Value.ref b] s = true
/-- the leaves: allow and ready -/
def am_leaf : AmC := fun y as ws mc ms post xp => (y = yX11_allow ∧ am_thr am_IA as ws mc ms post xp) ∨ (y = yX11_ready ∧ am_thr am_IS as ws mc ms post xp)
theorem am_leafok {l : Launch} (hl0 : l.stackTraces = false) {D : va_G} {Z : AmZ} : ∀ d y as ws mc ms post xp, am_leaf y as ws mc ms post xp → am_Met l D Z (d + 6) y as ws mc ms post xp := by
  intro d y as ws mc ms post xp h
  rcases h with ⟨rfl, h⟩ | ⟨rfl, h⟩
  · exact am_allowok hl0 h
  · exact am_readyok hl0 h
theorem am_K {b : Nat} {s : State} (adK adV : Nat → Nat) (hts : ∀ w ∈ lw_tbl, w.before #[Value.ref b] s = true) : ∃ (D : va_G) (Z : AmZ), va_K D vwCl (am_tys Z) s ∧ Z.2.2.2.2 = (adK, adV) := by
  have H : ∀ k : Nat, ∃ (cC : ClassId) (iS : Nat → Nat), ∀ q : vw_C, vwCl[k]? = some q → u_Kn s q.1 q.2.1 q.2.2 cC iS := by
    intro k
    cases hk : vwCl[k]? with
    | none => exact ⟨0, fun _ => 0, fun q h => by cases h⟩
    | some q =>
      obtain ⟨Cn, T, N⟩ := q
      obtain ⟨cC, iS, h⟩ := u_known (C := Cn) (T := T) (N := N) (n := N) (fun w hw => hts w (am_tbl hw)) (am_in hk) (hts _ (am_tbl (am_inst hk)))
      exact ⟨cC, iS, fun q hq => by cases hq; exact h⟩
  have G : ∀ ty : FieldType, Cond.arrayClass ty ∈ lw_tbl → ∃ cA : ClassId, ArrOfT s cA ty ∧ s.vm.findClass ("[" ++ ty.toString) = some cA := by
    intro ty hw
    obtain ⟨cA, kA, comp, h1, h2, h3⟩ := Cond.arrayClass_spec (hts _ hw)
    exact ⟨cA, fun n z => ⟨fun k h => (by cases h), kA, h2, comp, h3⟩, h1⟩
  obtain ⟨c1, a1, b1⟩ := G _ (am_tbl am_arr_int)
  obtain ⟨c2, a2, b2⟩ := G _ (am_tbl am_arr_long)
  obtain ⟨c3, a3, b3⟩ := G _ (am_tbl am_arr_char)
  obtain ⟨c4, a4, b4⟩ := G _ (am_tbl am_arr_boolean)
  refine ⟨(fun k => Classical.choose (H k), fun k => Classical.choose (Classical.choose_spec (H k))), (c1, c2, c3, c4, adK, adV), ⟨fun k q hq => Classical.choose_spec (Classical.choose_spec (H k)) q hq, fun k q hk => ?_⟩, rfl⟩
  match k, hk with
  | 0, hk => cases hk; exact ⟨a1, b1⟩
  | 1, hk => cases hk; exact ⟨a2, b2⟩
  | 2, hk => cases hk; exact ⟨a3, b3⟩
  | 3, hk => cases hk; exact ⟨a4, b4⟩
  | k + 4, hk => simp [am_tys] at hk
/-! the String constants as they lie at the start -/
def am_tm (i : Nat) : Term := match am_lit[i]? with
  | some (o, k, _) => .string o k
  | none => .arg 0
set_option maxRecDepth 100000 in
theorem am_s1x : ∀ i, i < 7 → Cond.exactly (am_tm i) am_js ∈ flatC narrow_1 := by decide +kernel
set_option maxRecDepth 100000 in
theorem am_s2x : ∀ i, i < 7 → Cond.eq (.field (am_tm i) am_js "coder" "B") (.int 0) ∈ flatC narrow_1 := by decide +kernel
set_option maxRecDepth 100000 in
theorem am_s3x : ∀ i, i < 7 → Cond.arrayOf (.field (am_tm i) am_js "value" "[B") .byte ∈ flatC narrow_1 := by decide +kernel
set_option maxRecDepth 100000 in
theorem am_s4x : ∀ i, i < 7 → Cond.eq (.length (.field (am_tm i) am_js "value" "[B")) (.int (Int32.ofNat (am_len.getD i 0))) ∈ flatC narrow_1 := by decide +kernel
set_option maxRecDepth 100000 in
theorem am_s5x : ∀ i, i < 7 → ∀ j, j < am_len.getD i 0 → Cond.eq (.elem (.field (am_tm i) am_js "value" "[B") (.int (Int32.ofNat j))) (.int ((am_byt.getD i []).getD j 0)) ∈ flatC narrow_1 := by decide +kernel
set_option maxRecDepth 100000 in
theorem am_s6x : ∀ i, i < 7 → ∀ j, j < 7 → i ≠ j → Cond.not (.eq (am_tm i) (am_tm j)) ∈ flatC narrow_1 ∨ Cond.not (.eq (am_tm j) (am_tm i)) ∈ flatC narrow_1 := by decide +kernel
set_option maxRecDepth 100000 in
theorem am_s7x : Cond.eq (.static am_js "COMPACT_STRINGS" "Z") (.int 1) ∈ flatC narrow_1 := by decide +kernel
set_option maxRecDepth 100000 in
theorem am_s8x : Cond.isRef (.static "jdk/internal/util/Preconditions" "SIOOBE_FORMATTER" "Ljava/util/function/BiFunction;") ∈ flatC narrow_1 := by decide +kernel
theorem am_s9x : ∀ i, i < 7 → am_len.getD i 0 < 2 ^ 31 := by decide
theorem am_s10x {k : Nat} {own : String} {i : Nat} {tx : String} (h : am_lit[k]? = some (own, i, tx)) : Cond.stringRef own i tx ∈ lw_tbl ∧ k < 7 ∧ am_tm k = .string own i := by
  match k, h with
  | 0, h => cases h; exact ⟨List.mem_of_getElem? (i := 859) (by decide +kernel), by decide, rfl⟩
  | 1, h => cases h; exact ⟨List.mem_of_getElem? (i := 953) (by decide +kernel), by decide, rfl⟩
  | 2, h => cases h; exact ⟨List.mem_of_getElem? (i := 954) (by decide +kernel), by decide, rfl⟩
  | 3, h => cases h; exact ⟨List.mem_of_getElem? (i := 955) (by decide +kernel), by decide, rfl⟩
  | 4, h => cases h; exact ⟨List.mem_of_getElem? (i := 956) (by decide +kernel), by decide, rfl⟩
  | 5, h => cases h; exact ⟨List.mem_of_getElem? (i := 957) (by decide +kernel), by decide, rfl⟩
  | 6, h => cases h; exact ⟨List.mem_of_getElem? (i := 1298) (by decide +kernel), by decide, rfl⟩
  | k + 7, h => simp [am_lit] at h
set_option maxRecDepth 100000 in
theorem am_notISIA : Cond.not (.castable am_IS am_IA) ∈ flatC (Jvm.Cond.and given_1 narrow_1) := by decide +kernel
set_option maxRecDepth 100000 in
theorem am_isU : Cond.isRef (.static Bundle.tN "UNASSIGNED_STACK" Bundle.steD) ∈ flatC (Jvm.Cond.and given_1 narrow_1) := by decide +kernel
set_option maxRecDepth 100000 in
theorem am_isN : Cond.isRef (.static Bundle.tN "SUPPRESSED_SENTINEL" Bundle.listD) ∈ flatC (Jvm.Cond.and given_1 narrow_1) := by decide +kernel
set_option maxRecDepth 100000 in
/-- THE LAW: what the layer says of its body, the machine does -/
theorem am_law {p : Program} {e : Env} {s : State} {m : MethodId} {below : List Frame} {meth : Method} {c : Code} {l : Launch} (hl0 : l.stackTraces = false) {b L : Nat} {xs : Nat → Int32} (C0 : lw_At p s m meth c b L xs)
    (hlaw : ∀ Z : AmZ, ∃ n, am_run Z (some (b, L, xs)) RL code 8 ret false (am_wp Z am_leaf 1300) (am_wpW Z am_leaf 1300) (fun _ _ _ _ _ _ _ => False) (fun v _ => v = some (.int 1)) n 0 [(0, .ref b)] [] [] 600128 7301098) :
    W p l e room_1 s m #[Value.ref b] below meth c s.heap [] 0 0 (lw_Z below #[Value.ref b] s) (entryFrame m ([Value.ref b] : List Value).toArray 8) := by
  obtain ⟨hx, hb, hr, hml, hown, hts, hX, hbl, hlocks, hgv⟩ := id C0
  have hfl := flat_of_before _ hgv
  have hnw : narrow_1.before #[Value.ref b] s = true := by
    have h9 := hgv
    simp only [Cond.before_and, Bool.and_eq_true] at h9
    exact h9.2
  have hfn := flat_of_before _ hnw
  have hA0 : ∀ a : Nat, a < s.heap.size → ¬ (fun q : Nat => s.heap.size ≤ q) a := fun a h1 h2 => Nat.not_le.mpr h1 h2
  obtain ⟨adK, adV, hvS, hev⟩ := vk_Sof (args := #[Value.ref b]) (s := s) (N := 7) (tm := am_tm) (len := am_len) (byt := am_byt) (A := fun q : Nat => s.heap.size ≤ q) am_s9x (fun i hi => hfn _ (am_s1x i hi)) (fun i hi => hfn _ (am_s2x i hi)) (fun i hi => hfn _ (am_s3x i hi)) (fun i hi => hfn _ (am_s4x i hi)) (fun i hi j hj => hfn _ (am_s5x i hi j hj)) (fun i j hi hj hij => (am_s6x i hi j hj hij).imp (fun z => hfn _ z) (fun z => hfn _ z)) hA0
  obtain ⟨D, Z, hK, hZs⟩ := am_K adK adV hts
  obtain ⟨n, hn⟩ := hlaw Z
  have hnest : am_nest s := ⟨fun own i y host hw => va_Nw.of rfl (hts _ hw), fun C T hw => va_Nw.of rfl (hts _ hw), va_Nc.of (hfl _ am_notISIA), fun x hw => va_Nw.of rfl (hts _ hw)⟩
  have hini : (Cond.initialized Bundle.tN).before #[Value.ref b] s = true := hts _ (List.mem_of_getElem? (i := 185) (by decide +kernel))
  have hU := vx_Zqof (A := fun q : Nat => s.heap.size ≤ q) (hts (.laysStatic Bundle.tN "UNASSIGNED_STACK" Bundle.steD) (List.mem_of_getElem? (i := 1351) (by decide +kernel))) hini (hfl _ am_isU) hA0
  have hN0 := vx_Zqof (A := fun q : Nat => s.heap.size ≤ q) (hts (.laysStatic Bundle.tN "SUPPRESSED_SENTINEL" Bundle.listD) (List.mem_of_getElem? (i := 1353) (by decide +kernel))) hini (hfl _ am_isN) hA0
  have hzk : ∀ k, zs Z k = adK k := fun k => by show Z.2.2.2.2.1 k = adK k; rw [hZs]
  have hN : am_N Z (fun q : Nat => s.heap.size ≤ q) s s.heap := by
    refine ⟨hN0, by rw [hZs]; exact hvS, fun k own i tx e => ?_, va_Zof (hts (.laysStatic am_js "COMPACT_STRINGS" "Z") (List.mem_of_getElem? (i := 873) (by decide +kernel))) (hts (.initialized am_js) (List.mem_of_getElem? (i := 192) (by decide +kernel))) (va_eqt (hfn _ am_s7x)) hA0, va_Zqof (hts (.laysStatic "jdk/internal/util/Preconditions" "SIOOBE_FORMATTER" "Ljava/util/function/BiFunction;") (List.mem_of_getElem? (i := 916) (by decide +kernel))) (hts (.initialized "jdk/internal/util/Preconditions") (List.mem_of_getElem? (i := 195) (by decide +kernel))) (hfn _ am_s8x) hA0⟩
    obtain ⟨g1, g2, g3⟩ := am_s10x e
    have h9 := hev k g2
    rw [g3] at h9
    rw [hzk]
    exact vk_R.of (hts _ g1) h9
  have hP : va_P D vwCl [] s.heap := fun k q h => by simp at h
  have hD : va_D (fun q : Nat => s.heap.size ≤ q) [] := ⟨fun i j p q h => by simp at h, fun k q h => by simp at h⟩
  have hl := lv_entry ([.ref b]) (n := 8) (Nat.le_of_ble_eq_true rfl)
  rw [lg_entry_eq]
  generalize (lg_sl ([.ref b]) ++ List.replicate (8 - (lg_sl ([.ref b])).length) Slot.unset).toArray = ls at hl ⊢
  refine am_runok (A := fun q : Nat => s.heap.size ≤ q) (mc := 600128) (ms := 7301098) (d := 1300) hK hx hb hml hown (fun w hw => hts w (am_tbl hw)) hnest (fun z => by cases z) (fun q hq => hq) (fun b1 L1 xs1 z => ?_) hU hN rfl rfl (by decide +kernel) (by decide +kernel) (am_wpok (am_leafok hl0) 1300) (am_wpWok (am_leafok hl0) 1300) ?_ (fun K _ pc lv ls rest q E ce u H1 locs1 cells slots C S h => h.elim) n 0 [(0, .ref b)] [] [] 600128 7301098 hn s.heap [] 0 0 ls hl hP hD va_S.rf (by omega) (by omega)
  · cases z
    exact ⟨hX, hbl, Nat.not_le.mpr hbl⟩
  · intro pc ls st ws H locs cells slots h hP hD hS hc hs
    unfold am_end at h
    split at h
    · rename_i hd
      obtain ⟨v, ty, rfl, -, -, h⟩ := h
      cases h
      exact va_forget (fun q hq => hS.2.2 q hq) (W.widen hc hs (lw_ret hx hb hr hlocks hd))
    · obtain ⟨v, rfl, h1, h2⟩ := h
      cases h2
    · obtain ⟨v, ty, rfl, h1, h2, h3⟩ := h
      cases h3
    · obtain ⟨h1, h2, h3⟩ := h
      cases h3
    · exact h.elim
end
section
/-! more fuel, weaker ends: am_run and am_wp are monotone -/
theorem am_mono {Z : AmZ} {scr : AmS} {own : String} {cc : ByteArray} {nL : Nat} {rt : Option FieldType} {ini : Bool} {call callW : AmC} {xh xh' : AmH} {ret ret' : AmR} {K K' : AmK} (hK : ∀ pc lv st ws C S, K pc lv st ws C S → K' pc lv st ws C S) (hret : ∀ v u, ret v u → ret' v u)
    (hcall : ∀ y as ws mc ms post post' xp xp', (∀ v u, post v u → post' v u) → (∀ E u, xp E u → xp' E u) → call y as ws mc ms post xp → call y as ws mc ms post' xp') (hcallW : ∀ y as ws mc ms post post' xp xp', (∀ v u, post v u → post' v u) → (∀ E u, xp E u → xp' E u) → callW y as ws mc ms post xp → callW y as ws mc ms post' xp') (hxh : ∀ pc lv C S E u, xh K pc lv C S E u → xh' K' pc lv C S E u)
    {pc : Nat} {lv : List (Nat × Value)} {st : List Value} {ws : va_W} {C S : Nat} (h : am_stp Z scr own cc nL rt ini call callW xh ret K pc lv st ws C S) : am_stp Z scr own cc nL rt ini call callW xh' ret' K' pc lv st ws C S := by
  unfold am_stp at h
  unfold am_stp
  split at h
  · rename_i hd
    exact hK _ _ _ _ _ _ h
  · rename_i hd
    exact hK _ _ _ _ _ _ h
  · rename_i hd
    exact hK _ _ _ _ _ _ h
  · rename_i hd
    exact hK _ _ _ _ _ _ h
  · rename_i hd
    rcases h with ⟨v, hw, h⟩ | ⟨k, tx, e1, h⟩
    · exact Or.inl ⟨v, hw, hK _ _ _ _ _ _ h⟩
    · exact Or.inr ⟨k, tx, e1, hK _ _ _ _ _ _ h⟩
  · rename_i hd
    obtain ⟨x, r, e0, h⟩ := h; exact ⟨x, r, e0, hK _ _ _ _ _ _ h⟩
  · rename_i hd
    rcases h with ⟨hw, h⟩ | ⟨hw, h⟩
    · exact Or.inl ⟨hw, hK _ _ _ _ _ _ h⟩
    · exact Or.inr ⟨hw, fun v hv => hK _ _ _ _ _ _ (h v hv)⟩
  · rename_i hd
    obtain ⟨v, hw, h⟩ := h; exact ⟨v, hw, hK _ _ _ _ _ _ h⟩
  · rename_i hd
    obtain ⟨v, hw, h⟩ := h; exact ⟨v, hw, hK _ _ _ _ _ _ h⟩
  · rename_i hd
    obtain ⟨x, hm, h⟩ := h; exact ⟨x, hm, hK _ _ _ _ _ _ h⟩
  · rename_i hd
    obtain ⟨x, hm, h⟩ := h; exact ⟨x, hm, hK _ _ _ _ _ _ h⟩
  · rename_i hd
    obtain ⟨x, r, e0, hn, h⟩ := h; exact ⟨x, r, e0, hn, hK _ _ _ _ _ _ h⟩
  · rename_i hd
    obtain ⟨x, r, e0, hn, h⟩ := h; exact ⟨x, r, e0, hn, hK _ _ _ _ _ _ h⟩
  · rename_i hd
    obtain ⟨x, hm, h⟩ := h; exact ⟨x, hm, hK _ _ _ _ _ _ h⟩
  · rename_i hd
    obtain ⟨x, hm, h⟩ := h; exact ⟨x, hm, hK _ _ _ _ _ _ h⟩
  · rename_i hd
    obtain ⟨x, r, e0, hn, h⟩ := h; exact ⟨x, r, e0, hn, hK _ _ _ _ _ _ h⟩
  · rename_i hd
    obtain ⟨x, r, e0, hn, h⟩ := h; exact ⟨x, r, e0, hn, hK _ _ _ _ _ _ h⟩
  · rename_i hd
    obtain ⟨x, hm, h⟩ := h; exact ⟨x, hm, hK _ _ _ _ _ _ h⟩
  · rename_i hd
    obtain ⟨x, hm, h⟩ := h; exact ⟨x, hm, hK _ _ _ _ _ _ h⟩
  · rename_i hd
    obtain ⟨x, r, e0, hn, h⟩ := h; exact ⟨x, r, e0, hn, hK _ _ _ _ _ _ h⟩
  · rename_i hd
    obtain ⟨x, r, e0, hn, h⟩ := h; exact ⟨x, r, e0, hn, hK _ _ _ _ _ _ h⟩
  · rename_i hd
    obtain ⟨x, hm, hn, h⟩ := h; exact ⟨x, hm, hn, hK _ _ _ _ _ _ h⟩
  · rename_i hd
    obtain ⟨x, y, r, e0, h⟩ := h; exact ⟨x, y, r, e0, hK _ _ _ _ _ _ h⟩
  · rename_i hd
    obtain ⟨x, y, r, e0, h⟩ := h; exact ⟨x, y, r, e0, hK _ _ _ _ _ _ h⟩
  · rename_i hd
    obtain ⟨x, y, r, e0, h⟩ := h; exact ⟨x, y, r, e0, hK _ _ _ _ _ _ h⟩
  · rename_i hd
    obtain ⟨x, y, r, e0, h⟩ := h; exact ⟨x, y, r, e0, hK _ _ _ _ _ _ h⟩
  · rename_i hd
    obtain ⟨x, y, r, e0, h⟩ := h; exact ⟨x, y, r, e0, hK _ _ _ _ _ _ h⟩
  · rename_i hd
    obtain ⟨x, y, r, e0, h⟩ := h; exact ⟨x, y, r, e0, hK _ _ _ _ _ _ h⟩
  · rename_i hd
    obtain ⟨x, y, r, e0, h⟩ := h; exact ⟨x, y, r, e0, hK _ _ _ _ _ _ h⟩
  · rename_i hd
    obtain ⟨x, y, r, e0, h⟩ := h; exact ⟨x, y, r, e0, hK _ _ _ _ _ _ h⟩
  · rename_i hd
    obtain ⟨x, y, r, e0, h⟩ := h; exact ⟨x, y, r, e0, hK _ _ _ _ _ _ h⟩
  · rename_i hd
    obtain ⟨x, y, r, e0, hz, h⟩ := h; exact ⟨x, y, r, e0, hz, hK _ _ _ _ _ _ h⟩
  · rename_i hd
    obtain ⟨x, y, r, e0, hz, h⟩ := h; exact ⟨x, y, r, e0, hz, hK _ _ _ _ _ _ h⟩
  · rename_i hd
    obtain ⟨x, y, r, e0, h⟩ := h; exact ⟨x, y, r, e0, hK _ _ _ _ _ _ h⟩
  · rename_i hd
    obtain ⟨x, y, r, e0, h⟩ := h; exact ⟨x, y, r, e0, hK _ _ _ _ _ _ h⟩
  · rename_i hd
    obtain ⟨x, y, r, e0, h⟩ := h; exact ⟨x, y, r, e0, hK _ _ _ _ _ _ h⟩
  · rename_i hd
    obtain ⟨x, y, r, e0, h⟩ := h; exact ⟨x, y, r, e0, hK _ _ _ _ _ _ h⟩
  · rename_i hd
    obtain ⟨x, y, r, e0, h⟩ := h; exact ⟨x, y, r, e0, hK _ _ _ _ _ _ h⟩
  · rename_i hd
    obtain ⟨x, y, r, e0, h⟩ := h; exact ⟨x, y, r, e0, hK _ _ _ _ _ _ h⟩
  · rename_i hd
    obtain ⟨x, y, r, e0, hz, h⟩ := h; exact ⟨x, y, r, e0, hz, hK _ _ _ _ _ _ h⟩
  · rename_i hd
    obtain ⟨x, y, r, e0, hz, h⟩ := h; exact ⟨x, y, r, e0, hz, hK _ _ _ _ _ _ h⟩
  · rename_i hd
    obtain ⟨x, y, r, e0, h⟩ := h; exact ⟨x, y, r, e0, hK _ _ _ _ _ _ h⟩
  · rename_i hd
    obtain ⟨x, y, r, e0, h⟩ := h; exact ⟨x, y, r, e0, hK _ _ _ _ _ _ h⟩
  · rename_i hd
    obtain ⟨x, y, r, e0, h⟩ := h; exact ⟨x, y, r, e0, hK _ _ _ _ _ _ h⟩
  · rename_i hd
    obtain ⟨x, y, r, e0, h⟩ := h; exact ⟨x, y, r, e0, hK _ _ _ _ _ _ h⟩
  · rename_i hd
    obtain ⟨x, r, e0, h⟩ := h; exact ⟨x, r, e0, hK _ _ _ _ _ _ h⟩
  · rename_i hd
    obtain ⟨x, r, e0, h⟩ := h; exact ⟨x, r, e0, hK _ _ _ _ _ _ h⟩
  · rename_i hd
    obtain ⟨x, r, e0, h⟩ := h; exact ⟨x, r, e0, hK _ _ _ _ _ _ h⟩
  · rename_i hd
    obtain ⟨x, r, e0, h⟩ := h; exact ⟨x, r, e0, hK _ _ _ _ _ _ h⟩
  · rename_i hd
    obtain ⟨x, r, e0, h⟩ := h; exact ⟨x, r, e0, hK _ _ _ _ _ _ h⟩
  · rename_i hd
    obtain ⟨v, r, e0, hv, h⟩ := h; exact ⟨v, r, e0, hv, hK _ _ _ _ _ _ h⟩
  · rename_i hd
    obtain ⟨v, r, e0, hv, h⟩ := h; exact ⟨v, r, e0, hv, hK _ _ _ _ _ _ h⟩
  · rename_i hd
    obtain ⟨v, r, e0, hv, h⟩ := h; exact ⟨v, r, e0, hv, hK _ _ _ _ _ _ h⟩
  · rename_i hd
    obtain ⟨v, w, r, e0, hv, hw, h⟩ := h; exact ⟨v, w, r, e0, hv, hw, hK _ _ _ _ _ _ h⟩
  · rename_i hd
    obtain ⟨x, r, e0, ho, h1, h2⟩ := h; exact ⟨x, r, e0, ho, fun z => hK _ _ _ _ _ _ (h1 z), fun z => hK _ _ _ _ _ _ (h2 z)⟩
  · rename_i hd
    obtain ⟨x, r, e0, ho, h1, h2⟩ := h; exact ⟨x, r, e0, ho, fun z => hK _ _ _ _ _ _ (h1 z), fun z => hK _ _ _ _ _ _ (h2 z)⟩
  · rename_i hd
    obtain ⟨x, r, e0, ho, h1, h2⟩ := h; exact ⟨x, r, e0, ho, fun z => hK _ _ _ _ _ _ (h1 z), fun z => hK _ _ _ _ _ _ (h2 z)⟩
  · rename_i hd
    obtain ⟨x, r, e0, ho, h1, h2⟩ := h; exact ⟨x, r, e0, ho, fun z => hK _ _ _ _ _ _ (h1 z), fun z => hK _ _ _ _ _ _ (h2 z)⟩
  · rename_i hd
    obtain ⟨x, r, e0, ho, h1, h2⟩ := h; exact ⟨x, r, e0, ho, fun z => hK _ _ _ _ _ _ (h1 z), fun z => hK _ _ _ _ _ _ (h2 z)⟩
  · rename_i hd
    obtain ⟨x, r, e0, ho, h1, h2⟩ := h; exact ⟨x, r, e0, ho, fun z => hK _ _ _ _ _ _ (h1 z), fun z => hK _ _ _ _ _ _ (h2 z)⟩
  · rename_i hd
    obtain ⟨x, y, r, e0, ho, h1, h2⟩ := h; exact ⟨x, y, r, e0, ho, fun z => hK _ _ _ _ _ _ (h1 z), fun z => hK _ _ _ _ _ _ (h2 z)⟩
  · rename_i hd
    obtain ⟨x, y, r, e0, ho, h1, h2⟩ := h; exact ⟨x, y, r, e0, ho, fun z => hK _ _ _ _ _ _ (h1 z), fun z => hK _ _ _ _ _ _ (h2 z)⟩
  · rename_i hd
    obtain ⟨x, y, r, e0, ho, h1, h2⟩ := h; exact ⟨x, y, r, e0, ho, fun z => hK _ _ _ _ _ _ (h1 z), fun z => hK _ _ _ _ _ _ (h2 z)⟩
  · rename_i hd
    obtain ⟨x, y, r, e0, ho, h1, h2⟩ := h; exact ⟨x, y, r, e0, ho, fun z => hK _ _ _ _ _ _ (h1 z), fun z => hK _ _ _ _ _ _ (h2 z)⟩
  · rename_i hd
    obtain ⟨x, y, r, e0, ho, h1, h2⟩ := h; exact ⟨x, y, r, e0, ho, fun z => hK _ _ _ _ _ _ (h1 z), fun z => hK _ _ _ _ _ _ (h2 z)⟩
  · rename_i hd
    obtain ⟨x, y, r, e0, ho, h1, h2⟩ := h; exact ⟨x, y, r, e0, ho, fun z => hK _ _ _ _ _ _ (h1 z), fun z => hK _ _ _ _ _ _ (h2 z)⟩
  · rename_i hd
    exact ⟨h.1, hK _ _ _ _ _ _ h.2⟩
  · rename_i df lo hi os ln hd
    obtain ⟨x, r, e0, h1, h2, h3⟩ := h; exact ⟨x, r, e0, fun o z1 z2 z3 => ⟨(h1 o z1 z2 z3).1, hK _ _ _ _ _ _ (h1 o z1 z2 z3).2⟩, h2, fun z => ⟨(h3 z).1, hK _ _ _ _ _ _ (h3 z).2⟩⟩
  · rename_i hd
    obtain ⟨x, r, e0, hp, ho, h⟩ := h; exact ⟨x, r, e0, hp, ho, hK _ _ _ _ _ _ h⟩
  · rename_i hd
    rcases h with ⟨a, r, q, ci, fs, Cn, T, N, k, v, e0, he, hcl, hk, hw, hv, h⟩ | ⟨k, r, hk, e0, ⟨hw, h⟩ | ⟨hw, h⟩⟩
    · exact Or.inl ⟨a, r, q, ci, fs, Cn, T, N, k, v, e0, he, hcl, hk, hw, hv, hK _ _ _ _ _ _ h⟩
    · exact Or.inr ⟨k, r, hk, e0, Or.inl ⟨hw, hK _ _ _ _ _ _ h⟩⟩
    · exact Or.inr ⟨k, r, hk, e0, Or.inr ⟨hw, hK _ _ _ _ _ _ h⟩⟩
  · rename_i hd
    obtain ⟨a, r, q, ci, fs, Cn, T, N, k, v, e0, he, hcl, hk, hw, hkl, hnar, hfit, hfin, h⟩ := h; exact ⟨a, r, q, ci, fs, Cn, T, N, k, v, e0, he, hcl, hk, hw, hkl, hnar, hfit, hfin, hK _ _ _ _ _ _ h⟩
  · rename_i hd
    rcases h with ⟨b, L, xs, j, r, e9, e0, hin, h⟩ | ⟨a, j, r, q, n, f, e0, he, hin, h⟩
    · exact Or.inl ⟨b, L, xs, j, r, e9, e0, hin, hK _ _ _ _ _ _ h⟩
    · exact Or.inr ⟨a, j, r, q, n, f, e0, he, hin, hK _ _ _ _ _ _ h⟩
  · rename_i hd
    obtain ⟨a, j, r, q, n, f, e0, he, hin, h⟩ := h; exact ⟨a, j, r, q, n, f, e0, he, hin, hK _ _ _ _ _ _ h⟩
  · rename_i hd
    obtain ⟨a, j, r, q, n, f, e0, he, hin, h⟩ := h; exact ⟨a, j, r, q, n, f, e0, he, hin, hK _ _ _ _ _ _ h⟩
  · rename_i hd
    rcases h with ⟨a, j, r, q, n, f, e0, he, hin, h⟩ | ⟨k, j, r, hk, e0, hin, h⟩
    · exact Or.inl ⟨a, j, r, q, n, f, e0, he, hin, hK _ _ _ _ _ _ h⟩
    · exact Or.inr ⟨k, j, r, hk, e0, hin, hK _ _ _ _ _ _ h⟩
  · rename_i hd
    obtain ⟨a, j, x, r, q, n, f, e0, he, hin, h⟩ := h; exact ⟨a, j, x, r, q, n, f, e0, he, hin, hK _ _ _ _ _ _ h⟩
  · rename_i hd
    obtain ⟨a, j, x, r, q, n, f, e0, he, hin, h⟩ := h; exact ⟨a, j, x, r, q, n, f, e0, he, hin, hK _ _ _ _ _ _ h⟩
  · rename_i hd
    obtain ⟨a, j, x, r, q, n, f, e0, he, hin, h⟩ := h; exact ⟨a, j, x, r, q, n, f, e0, he, hin, hK _ _ _ _ _ _ h⟩
  · rename_i hd
    obtain ⟨a, j, x, r, q, n, f, e0, he, hin, h⟩ := h; exact ⟨a, j, x, r, q, n, f, e0, he, hin, hK _ _ _ _ _ _ h⟩
  · rename_i hd
    rcases h with ⟨b, L, xs, r, e9, e0, h⟩ | ⟨a, r, q, cA, x, t, ty, e0, he, ht, h⟩ | ⟨k, r, hk, e0, h⟩
    · exact Or.inl ⟨b, L, xs, r, e9, e0, hK _ _ _ _ _ _ h⟩
    · exact Or.inr (Or.inl ⟨a, r, q, cA, x, t, ty, e0, he, ht, hK _ _ _ _ _ _ h⟩)
    · exact Or.inr (Or.inr ⟨k, r, hk, e0, hK _ _ _ _ _ _ h⟩)
  · rename_i hd
    obtain ⟨ci, Cn, T, N, hcl, hw, h1, h2, h⟩ := h; exact ⟨ci, Cn, T, N, hcl, hw, h1, h2, fun q hq => hK _ _ _ _ _ _ (h q hq)⟩
  · rename_i hd
    obtain ⟨n, r, e0, hn, hbig, h1, h2, h⟩ := h; exact ⟨n, r, e0, hn, hbig, h1, h2, fun q hq => hK _ _ _ _ _ _ (h q hq)⟩
  · rename_i hd
    obtain ⟨n, r, e0, hn, hbig, h1, h2, h⟩ := h; exact ⟨n, r, e0, hn, hbig, h1, h2, fun q hq => hK _ _ _ _ _ _ (h q hq)⟩
  · rename_i hd
    obtain ⟨n, r, e0, hn, hbig, h1, h2, h⟩ := h; exact ⟨n, r, e0, hn, hbig, h1, h2, fun q hq => hK _ _ _ _ _ _ (h q hq)⟩
  · rename_i hd
    obtain ⟨n, r, e0, hn, hbig, h1, h2, h⟩ := h; exact ⟨n, r, e0, hn, hbig, h1, h2, fun q hq => hK _ _ _ _ _ _ (h q hq)⟩
  · rename_i hd
    rcases h with ⟨y, b, As, r, mc1, ms1, q, ci, fs, T, N, e0, hpl, w1, w2, w3, w4, he, hcl, hcat, h1, h2, h⟩ | ⟨y, b, As, r, mc1, ms1, k, e0, hpl, w1, w2, w3, w4, hk, eb, hcs, hcat, h1, h2, h⟩
    · exact Or.inl ⟨y, b, As, r, mc1, ms1, q, ci, fs, T, N, e0, hpl, w1, w2, w3, w4, he, hcl, hcat, h1, h2, hcall _ _ _ _ _ _ _ _ _ (fun v u => hK _ _ _ _ _ _) (fun E u => hxh _ _ _ _ E u) h⟩
    · exact Or.inr ⟨y, b, As, r, mc1, ms1, k, e0, hpl, w1, w2, w3, w4, hk, eb, hcs, hcat, h1, h2, hcall _ _ _ _ _ _ _ _ _ (fun v u => hK _ _ _ _ _ _) (fun E u => hxh _ _ _ _ E u) h⟩
  · rename_i hd
    rcases h with h | h
    · obtain ⟨n, dp, a, sp, a0, r, q0, q1, n0, n1, e0, w1, hcat, h1, h2, h3, h4, h5, h⟩ := h
      refine Or.inl ⟨n, dp, a, sp, a0, r, q0, q1, n0, n1, e0, w1, hcat, h1, h2, h3, h4, h5, ?_⟩
      rcases h with ⟨f, g, ha0, ha1, h⟩ | ⟨f, g, ha0, ha1, h⟩
      · exact Or.inl ⟨f, g, ha0, ha1, hK _ _ _ _ _ _ h⟩
      · exact Or.inr ⟨f, g, ha0, ha1, hK _ _ _ _ _ _ h⟩
    · obtain ⟨y, As, r, mc1, ms1, e0, hpl, w2, w4, hcat, h1, h2, h⟩ := h
      refine Or.inr ⟨y, As, r, mc1, ms1, e0, hpl, w2, w4, hcat, h1, h2, ?_⟩
      rcases h with h | h | ⟨host, w1, h⟩
      · exact Or.inl ⟨h.1, hcall _ _ _ _ _ _ _ _ _ (fun v u => hK _ _ _ _ _ _) (fun E u => hxh _ _ _ _ E u) h.2⟩
      · exact Or.inr (Or.inl ⟨h.1, hcallW _ _ _ _ _ _ _ _ _ (fun v u => hK _ _ _ _ _ _) (fun E u => id) h.2⟩)
      · exact Or.inr (Or.inr ⟨host, w1, hcall _ _ _ _ _ _ _ _ _ (fun v u => hK _ _ _ _ _ _) (fun E u => id) h⟩)
  · rename_i hd
    rcases h with ⟨a, r, e0, hcat, w1, h⟩ | ⟨y, b, As, r, mc1, ms1, e0, hpl, hyn, w2, w4, hcat, h1, h2, hcd, hlk, h⟩
    · exact Or.inl ⟨a, r, e0, hcat, w1, hK _ _ _ _ _ _ h⟩
    · exact Or.inr ⟨y, b, As, r, mc1, ms1, e0, hpl, hyn, w2, w4, hcat, h1, h2, hcd, hlk, hcall _ _ _ _ _ _ _ _ _ (fun v u => hK _ _ _ _ _ _) (fun E u => id) h⟩
  · rename_i hd
    obtain ⟨v, ty, e0, e1, hn, h⟩ := h; exact ⟨v, ty, e0, e1, hn, hret _ _ h⟩
  · rename_i hd
    obtain ⟨v, e0, e1, h⟩ := h; exact ⟨v, e0, e1, hret _ _ h⟩
  · rename_i hd
    obtain ⟨v, ty, e0, e1, hn, h⟩ := h; exact ⟨v, ty, e0, e1, hn, hret _ _ h⟩
  · rename_i hd
    exact ⟨h.1, h.2.1, hret _ _ h.2.2⟩
  · exact h.elim
theorem am_run_mono {Z : AmZ} {scr : AmS} {own : String} {cc : ByteArray} {nL : Nat} {rt : Option FieldType} {ini : Bool} {call callW : AmC} {xh xh' : AmH} {ret ret' : AmR} (hret : ∀ v u, ret v u → ret' v u)
    (hcall : ∀ y as ws mc ms post post' xp xp', (∀ v u, post v u → post' v u) → (∀ E u, xp E u → xp' E u) → call y as ws mc ms post xp → call y as ws mc ms post' xp') (hcallW : ∀ y as ws mc ms post post' xp xp', (∀ v u, post v u → post' v u) → (∀ E u, xp E u → xp' E u) → callW y as ws mc ms post xp → callW y as ws mc ms post' xp')
    (hxh : ∀ K K' : AmK, (∀ pc lv st ws C S, K pc lv st ws C S → K' pc lv st ws C S) → ∀ pc lv C S E u, xh K pc lv C S E u → xh' K' pc lv C S E u) : ∀ n n', n ≤ n' → ∀ pc lv st ws C S, am_run Z scr own cc nL rt ini call callW xh ret n pc lv st ws C S → am_run Z scr own cc nL rt ini call callW xh' ret' n' pc lv st ws C S := by
  intro n
  induction n with
  | zero => intro n' _ pc lv st ws C S h; exact h.elim
  | succ n ih =>
    intro n' hn pc lv st ws C S h
    obtain ⟨k, rfl⟩ : ∃ k, n' = k + 1 := ⟨n' - 1, by omega⟩
    rcases h with h | ⟨ws', hs, h⟩
    · exact Or.inl (am_mono (ih k (by omega)) hret hcall hcallW (hxh _ _ (ih k (by omega))) h)
    · exact Or.inr ⟨ws', hs, ih k (by omega) pc lv st ws' C S h⟩
theorem am_wp_mono {Z : AmZ} {leaf : AmC} (hleaf : ∀ y as ws mc ms post post' xp xp', (∀ v u, post v u → post' v u) → (∀ E u, xp E u → xp' E u) → leaf y as ws mc ms post xp → leaf y as ws mc ms post' xp') : ∀ d y as ws mc ms post post' xp xp', (∀ v u, post v u → post' v u) → (∀ E u, xp E u → xp' E u) → am_wp Z leaf d y as ws mc ms post xp → am_wp Z leaf d y as ws mc ms post' xp' := by
  intro d
  induction d with
  | zero => intro y as ws mc ms post post' xp xp' _ _ h; exact h.elim
  | succ d ih =>
    intro y as ws mc ms post post' xp xp' h1 h2 h
    rcases h with ⟨h5, h⟩ | ⟨cc, nL, rt, n, w5, hnL, hlen, hpn, h⟩
    · exact Or.inl ⟨h5, hleaf _ _ _ _ _ _ _ _ _ h1 h2 h⟩
    · exact Or.inr ⟨cc, nL, rt, n, w5, hnL, hlen, hpn, am_run_mono h1 ih (fun _ _ _ _ _ _ _ _ _ _ _ z => z.elim) (fun _ _ _ _ _ _ _ E u => h2 E u) n n (Nat.le_refl n) _ _ _ _ _ _ h⟩
theorem am_leaf_mono : ∀ y as ws mc ms post post' xp xp', (∀ v u, post v u → post' v u) → (∀ E u, xp E u → xp' E u) → am_leaf y as ws mc ms post xp → am_leaf y as ws mc ms post' xp' := by
  intro y as ws mc ms post post' xp xp' h1 h2 h
  rcases h with ⟨rfl, g, e0, k1, k2⟩ | ⟨rfl, g, e0, k1, k2⟩
  · exact Or.inl ⟨rfl, g, e0, fun z => h1 _ _ (k1 z), fun z => ⟨(k2 z).1, (k2 z).2.1, h2 _ _ (k2 z).2.2⟩⟩
  · exact Or.inr ⟨rfl, g, e0, fun z => h1 _ _ (k1 z), fun z => ⟨(k2 z).1, (k2 z).2.1, h2 _ _ (k2 z).2.2⟩⟩
theorem am_hx_mono {own : String} {hh : List (Nat × Nat × Nat × Nat)} : ∀ K K' : AmK, (∀ pc lv st ws C S, K pc lv st ws C S → K' pc lv st ws C S) → ∀ pc lv C S E u, am_hx own hh K pc lv C S E u → am_hx own hh K' pc lv C S E u := by
  intro K K' hK pc lv C S E u h
  obtain ⟨pre, x, suf, e1, e2, e3, e4, e5, e6, e7⟩ := h
  exact ⟨pre, x, suf, e1, e2, e3, e4, e5, e6, fun q => hK _ _ _ _ _ _ (e7 q)⟩
theorem am_wpW_mono {Z : AmZ} {leaf : AmC} (hleaf : ∀ y as ws mc ms post post' xp xp', (∀ v u, post v u → post' v u) → (∀ E u, xp E u → xp' E u) → leaf y as ws mc ms post xp → leaf y as ws mc ms post' xp') : ∀ d y as ws mc ms post post' xp xp', (∀ v u, post v u → post' v u) → (∀ E u, xp E u → xp' E u) → am_wpW Z leaf d y as ws mc ms post xp → am_wpW Z leaf d y as ws mc ms post' xp' := by
  intro d y as ws mc ms post post' xp xp' h1 h2 h
  cases d with
  | zero => exact h.elim
  | succ d =>
    obtain ⟨cc, nL, rt, hh, n, w5, hnL, hlen, hpn, h⟩ := h
    exact ⟨cc, nL, rt, hh, n, w5, hnL, hlen, hpn, am_run_mono h1 (am_wp_mono hleaf d) (fun _ _ _ _ _ _ _ _ _ _ _ z => z.elim) am_hx_mono n n (Nat.le_refl n) _ _ _ _ _ _ h⟩
end
