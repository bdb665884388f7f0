/-! THE LEDGER'S LOG -/
theorem wr_30 : (List.range 196).all (fun k => Nat.beq k 1 || (List.range (wn k)).all (fun j => !(Nat.beq (wr k j) 30))) = true := by decide +kernel
theorem wr1_30 : (List.range (wn 1)).all (fun j => Nat.beq j 2 || !(Nat.beq (wr 1 j) 30)) = true := by decide +kernel
section LG
variable {Z : AmZ} {A : Nat → Nat} {s : GS} {ex : va_W} {d m N pc : Nat} {ret : AmR} {xp : GX} {f : Nat → Option Value} {st r : List Value} {ws : va_W} {C S : Nat}
theorem ax_id : ax A 30 (A 30) = A := by
  funext i
  by_cases h : i = 30
  · subst h; exact ax_eq
  · exact ax_ne h
theorem g_newI {n : Int32} (p : Nat) (hd : GD m pc (.newarray .int) 2) (hp : pc + 2 = p) (h0 : 0 ≤ n.toInt) (hb : n.toInt ≤ 60000000) (hC : 1 ≤ C) (hS : n.toNatClampNeg ≤ S) (h : ∀ q, am_fresh q ws → GG Z d m ret xp N p f (.ref q :: r) (ws ++ [(q, .inl (Z.1, n.toNatClampNeg, .inl (fun _ => 0)))]) (C - 1) (S - n.toNatClampNeg)) : GG Z d m ret xp (N + 1) pc f (.int n :: r) ws C S :=
  g_st fun lv hl k hn => by
    unfold am_stp
    rw [hd.2]
    subst hp
    exact ⟨n, r, rfl, fun z => absurd (i_lt.mp z) (by simpa using h0), by show n.toInt.toNat ≤ _; omega, hC, hS, fun q hq => h q hq lv hl k hn⟩
theorem g_areturnA {a : Nat} {t : FieldType} (hd : GD m pc .areturn 1) (hr : xr m = some (.array t)) (h : ret (some (.ref a)) ws) : GG Z d m ret xp (N + 1) pc f [.ref a] ws C S :=
  g_st fun lv hl n _ => by unfold am_stp; rw [hd.2]; exact ⟨a, _, rfl, hr, Or.inr ⟨t, rfl⟩, h⟩
theorem g_cpG {i p0 a a0 q0 q1 n0 n1 : Nat} {n : Int32} {g h0 : Nat → Int32} (p : Nat) (hd : GD m pc (.invokestatic i) 3) (hp : pc + 3 = p) (hl : xlD (xo m) i = some (1001, 5, p0, 0)) (hr : (r.map fun v => v.category).sum ≤ 8) (w0 : ws[q0]? = some (a0, .inl (Z.1, n0, .inl g))) (w1 : ws[q1]? = some (a, .inl (Z.1, n1, .inl h0))) (hn : 0 ≤ n.toInt) (h1 : n.toNatClampNeg ≤ n0) (h2 : n.toNatClampNeg ≤ n1)
    (h : GG Z d m ret xp N p f r (ws.set q1 (a, .inl (Z.1, n1, .inl (va_cpy g h0 0 0 n.toNatClampNeg)))) C S) : GG Z d m ret xp (N + 1) pc f (.int n :: .int (Int32.ofInt 0) :: .ref a :: .int (Int32.ofInt 0) :: .ref a0 :: r) ws C S := by
  have hlk : Cond.methodLink (xcls (xo m)) i arraycopyName ∈ am_T := xl_s hd.1 hl (Or.inr (Or.inl ⟨rfl, rfl⟩))
  refine g_st fun lv hlv k hk => ?_
  unfold am_stp
  rw [hd.2]
  subst hp
  refine Or.inl ⟨n, Int32.ofInt 0, a, Int32.ofInt 0, a0, r, q0, q1, n0, n1, rfl, hlk, hr, by decide, by decide, fun z => absurd (i_lt.mp z) (by simpa using hn), ?_, ?_, Or.inl ⟨g, h0, w0, w1, h lv hlv k hk⟩⟩
  · show 0 + n.toNatClampNeg ≤ n0; omega
  · show 0 + n.toNatClampNeg ≤ n1; omega
theorem ww_ex {k : Nat} (h : 196 ≤ k) : (WW Z A s ++ ex)[k]? = ex[k - 196]? := by
  rw [List.getElem?_append_right (by rw [ww_len]; exact h), ww_len]
theorem ww_lenx : (WW Z A s ++ ex).length = 196 + ex.length := by rw [List.length_append, ww_len]
/-- Arrays.copyOf of the log, to a greater length -/
theorem k_426 {n : Int32} {X : AmX} (hd : 3 ≤ d) (hl : In (s.2.2.1 30 0) 0 28000) (h1 : (s.2.2.1 30 0).toInt < n.toInt) (h2 : n.toInt ≤ 28000) : GC Z d 426 [.ref (A 30), .int n] (WW Z A s ++ ex) 1 n.toNatClampNeg (fun v u => ∃ q, v = some (.ref q) ∧ am_fresh q (WW Z A s ++ ex) ∧ u = WW Z A s ++ (ex ++ [(q, .inl (Z.1, n.toNatClampNeg, .inl (va_cpy (s.1 30) (fun _ => 0) 0 0 (s.2.2.1 30 0).toNatClampNeg)))])) X := by
  intro post xp hP hX
  obtain ⟨l1, l2⟩ := hl
  refine g_enter2 (k := 426) (N := 300) (by omega) rfl (Nat.le_of_ble_eq_true rfl) ?_
  refine g_iload_n 1 (gd rfl) rfl rfl ?_
  refine g_aload_n 2 (gd rfl) rfl rfl ?_
  refine g_lglen 3 (gd rfl) rfl l1 (fun z e => ?_)
  refine g_cmp_ne 6 14 (gd rfl) rfl rfl (fun _ => ?_) (fun c => absurd c (by rw [e]; omega))
  refine g_iload_n 15 (gd rfl) rfl rfl ?_
  refine g_newI 17 (gd rfl) rfl (by omega) (by omega) (Nat.le_refl 1) (Nat.le_refl _) (fun q hq => ?_)
  rw [List.append_assoc]
  refine g_astore_n 18 (gd rfl) rfl (Nat.le_of_ble_eq_true rfl) ?_
  refine g_aload_n 19 (gd rfl) rfl rfl ?_
  refine g_iconst 0 20 (gd rfl) rfl rfl ?_
  refine g_aload_n 21 (gd rfl) rfl rfl ?_
  refine g_iconst 0 22 (gd rfl) rfl rfl ?_
  refine g_aload_n 23 (gd rfl) rfl rfl ?_
  refine g_lglen 24 (gd rfl) rfl l1 (fun z2 e2 => ?_)
  refine g_iload_n 25 (gd rfl) rfl rfl ?_
  refine g_calls (As := [.int z2, .int n]) (r := [.int (Int32.ofInt 0), .ref q, .int (Int32.ofInt 0), .ref (A 30)]) 28 (gd rfl) rfl rfl rfl rfl rfl (Nat.le_of_ble_eq_true rfl) (Nat.zero_le _) (Nat.zero_le _) (k_424z (by omega)) (fun v u h => ?_)
  obtain ⟨z3, rfl, rfl, hz3⟩ := h
  have e3 : z3 = s.2.2.1 30 0 := Int32.toInt_inj.mp (by rw [hz3, e2]; omega)
  subst e3
  show GG _ _ _ _ _ _ _ _ [.int (s.2.2.1 30 0), .int (Int32.ofInt 0), .ref q, .int (Int32.ofInt 0), .ref (A 30)] _ _ _
  have wq : (WW Z A s ++ (ex ++ [(q, (.inl (Z.1, n.toNatClampNeg, .inl (fun _ => 0)) : va_E))]))[196 + ex.length]? = some (q, .inl (Z.1, n.toNatClampNeg, .inl (fun _ => 0))) := by
    rw [ww_ex (by omega), show 196 + ex.length - 196 = ex.length by omega, List.getElem?_append_right (Nat.le_refl _), Nat.sub_self]
    rfl
  refine g_cpG (q0 := 30) (q1 := 196 + ex.length) 31 (gd rfl) rfl rfl (Nat.le_of_ble_eq_true rfl) (by rw [ww_get (by decide), wc_lg]) wq l1 (Nat.le_refl _) (by show (s.2.2.1 30 0).toInt.toNat ≤ n.toInt.toNat; omega) ?_
  refine g_aload_n 32 (gd rfl) rfl rfl ?_
  refine g_areturnA (gd rfl) rfl (hP _ _ ⟨q, rfl, hq, ?_⟩)
  rw [List.set_append_right _ _ (by rw [ww_len]; omega), ww_len, show 196 + ex.length - 196 = ex.length by omega, List.set_append_right _ _ (Nat.le_refl _), Nat.sub_self]
  rfl
/-- the log grown: where it lies, how long it is -/
def lgr (s : GS) (n : Int32) : GS := sF (sA s 30 (va_cpy (s.1 30) (fun _ => 0) 0 0 (s.2.2.1 30 0).toNatClampNeg)) 30 0 n
theorem wc_lgr {n : Int32} {q k : Nat} (h30 : k ≠ 30) (h1 : k ≠ 1) (hk : k < 196) : wc Z (ax A 30 q) (lgr s n) k = wc Z A s k := by
  have e1 : (lgr s n).1 k = s.1 k := by
    show (if k = 30 then _ else s.1 k) = _
    rw [if_neg h30]
  have e2 : (lgr s n).2.2.1 k = s.2.2.1 k := by
    funext j
    show (if k = 30 ∧ j = 0 then n else s.2.2.1 k j) = _
    rw [if_neg (fun z => h30 z.1)]
  have hr : ∀ j, j < wn k → wr k j ≠ 30 := by
    intro j hj e
    have h2 := List.all_eq_true.mp wr_30 k (List.mem_range.mpr hk)
    rw [Bool.or_eq_true] at h2
    rcases h2 with h2 | h2
    · exact h1 (Nat.eq_of_beq_eq_true h2)
    · have h3 := List.all_eq_true.mp h2 j (List.mem_range.mpr hj)
      rw [e] at h3
      cases h3
  have hv : ∀ c j, j < wn k → wv (ax A 30 q) (lgr s n) k c j = wv A s k c j := by
    intro c j hj
    unfold wv
    rw [ax_ne (hr j hj), e2]
    rfl
  unfold wc
  rw [e1, e2]
  split
  · rfl
  · rfl
  · rfl
  · rfl
  · rename_i c e
    congr 2
    congr 1
    exact List.map_congr_left fun j hj => hv c j (List.mem_range.mp hj)
theorem lgr_less {n : Int32} {q : Nat} (hq : am_fresh q (WW Z A s ++ ex)) (hn : 0 ≤ n.toInt) : am_less (WW Z (ax A 30 q) (lgr s n) ++ ex) ((WW Z A s ++ (ex ++ [(q, (.inl (Z.1, n.toNatClampNeg, .inl (va_cpy (s.1 30) (fun _ => 0) 0 0 (s.2.2.1 30 0).toNatClampNeg)) : va_E))])).set 1 (A 1, .inr (5, ((List.range (wn 1)).map (wv A s 1 5)).set 2 (.ref q)))) := by
  refine ⟨fun k => if k = 30 then 196 + ex.length else k, fun k p hk => ?_, fun i j hi hj e => ?_⟩
  · dsimp only
    by_cases h30 : k = 30
    · subst h30
      rw [ww_get (by decide), wc_lg, ax_eq] at hk
      rw [if_pos rfl, List.getElem?_set_ne (by omega), ww_ex (by omega), show 196 + ex.length - 196 = ex.length by omega, List.getElem?_append_right (Nat.le_refl _), Nat.sub_self]
      rw [← hk]
      have e1 : (lgr s n).2.2.1 30 0 = n := sF_get.symm
      have e2 : (lgr s n).1 30 = va_cpy (s.1 30) (fun _ => 0) 0 0 (s.2.2.1 30 0).toNatClampNeg := by
        show (sA s 30 (va_cpy (s.1 30) (fun _ => 0) 0 0 (s.2.2.1 30 0).toNatClampNeg)).1 30 = _
        rw [sA_q]
      rw [e1, e2]
      rfl
    · rw [if_neg h30]
      by_cases hlt : k < 196
      · rw [ww_get hlt, ax_ne h30] at hk
        by_cases h1 : k = 1
        · subst h1
          rw [List.getElem?_set_self (by rw [List.length_append, ww_len]; omega), ← hk]
          congr 2
        · rw [List.getElem?_set_ne (fun z => h1 z.symm), ww_get hlt, ← hk, wc_lgr h30 h1 hlt]
      · rw [ww_ex (by omega)] at hk
        rw [List.getElem?_set_ne (by omega), ww_ex (by omega), List.getElem?_append_left (List.getElem?_eq_some_iff.mp hk).1]
        exact hk
  · rw [ww_lenx] at hi hj
    dsimp only at e
    by_cases h1 : i = 30
    · by_cases h2 : j = 30
      · rw [h1, h2]
      · rw [if_pos h1, if_neg h2] at e; omega
    · by_cases h2 : j = 30
      · rw [if_neg h1, if_pos h2] at e; omega
      · rw [if_neg h1, if_neg h2] at e; exact e
end LG
