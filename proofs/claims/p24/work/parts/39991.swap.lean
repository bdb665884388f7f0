/-! GROUPS: its two rows of longs change places -/
theorem wr_87 : (List.range 196).all (fun k => Nat.beq k 86 || (List.range (wn k)).all (fun j => !(Nat.beq (wr k j) 87) && !(Nat.beq (wr k j) 88))) = true := by decide +kernel
def a2 (A : Nat → Nat) (x y : Nat) : Nat → Nat := ax (ax A 87 x) 88 y
section SW
variable {Z : AmZ} {A : Nat → Nat} {s : GS} {ex : va_W} {d N : Nat} {ret : AmR} {xp : GX} {f : Nat → Option Value} {C S : Nat} {x y z w : Nat}
theorem a2_ne {i : Nat} (h1 : i ≠ 87) (h2 : i ≠ 88) : a2 A x y i = A i := by unfold a2; rw [ax_ne h2, ax_ne h1]
theorem a2_87 : a2 A x y 87 = x := by unfold a2; rw [ax_ne (by decide), ax_eq]
theorem a2_88 : a2 A x y 88 = y := by unfold a2; rw [ax_eq]
theorem a2_id : a2 A (A 87) (A 88) = A := by
  funext i
  by_cases h1 : i = 87
  · subst h1; exact a2_87
  · by_cases h2 : i = 88
    · subst h2; exact a2_88
    · exact a2_ne h1 h2
theorem a2_a2 : a2 (a2 A x y) z w = a2 A z w := by
  funext i
  by_cases h1 : i = 87
  · subst h1; rw [a2_87, a2_87]
  · by_cases h2 : i = 88
    · subst h2; rw [a2_88, a2_88]
    · rw [a2_ne h1 h2, a2_ne h1 h2, a2_ne h1 h2]
/-- the two rows have changed places -/
def sws (s : GS) : GS := sB (sB s 87 (s.2.1 88)) 88 (s.2.1 87)
theorem sws_1 {k : Nat} (h1 : k ≠ 87) (h2 : k ≠ 88) : (sws s).2.1 k = s.2.1 k := by
  show (if k = 88 then s.2.1 87 else if k = 87 then s.2.1 88 else s.2.1 k) = _
  rw [if_neg h2, if_neg h1]
theorem wc_sws {k : Nat} (h0 : k ≠ 86) (h1 : k ≠ 87) (h2 : k ≠ 88) (hk : k < 196) : wc Z (a2 A x y) (sws s) k = wc Z A s k := by
  have hr : ∀ j, j < wn k → wr k j ≠ 87 ∧ wr k j ≠ 88 := by
    intro j hj
    have h3 := List.all_eq_true.mp wr_87 k (List.mem_range.mpr hk)
    rw [Bool.or_eq_true] at h3
    rcases h3 with h3 | h3
    · exact absurd (Nat.eq_of_beq_eq_true h3) h0
    · have h4 := List.all_eq_true.mp h3 j (List.mem_range.mpr hj)
      rw [Bool.and_eq_true] at h4
      refine ⟨fun e => ?_, fun e => ?_⟩
      · have := h4.1; rw [e] at this; cases this
      · have := h4.2; rw [e] at this; cases this
  have hv : ∀ c j, j < wn k → wv (a2 A x y) (sws s) k c j = wv A s k c j := by
    intro c j hj
    unfold wv
    rw [a2_ne (hr j hj).1 (hr j hj).2]
    rfl
  unfold wc
  rw [sws_1 h1 h2]
  split
  · rfl
  · rfl
  · rfl
  · rfl
  · rename_i c e
    congr 2
    congr 1
    exact List.map_congr_left fun j hj => hv c j (List.mem_range.mp hj)
theorem sws_less : am_less (WW Z (a2 A (A 88) (A 87)) (sws s) ++ ex) (((WW Z A s ++ ex).set 86 (A 86, .inr (4, ((List.range (wn 86)).map (wv A s 86 4)).set 2 (.ref (A 88))))).set 86 (A 86, .inr (4, (((List.range (wn 86)).map (wv A s 86 4)).set 2 (.ref (A 88))).set 3 (.ref (A 87))))) := by
  refine ⟨fun k => if k = 87 then 88 else if k = 88 then 87 else k, fun k p hk => ?_, fun i j hi hj e => ?_⟩
  · dsimp only
    by_cases h1 : k = 87
    · subst h1
      rw [ww_get (by decide)] at hk
      rw [if_pos rfl, List.getElem?_set_ne (by decide), List.getElem?_set_ne (by decide), ww_get (by decide), ← hk]
      rfl
    · rw [if_neg h1]
      by_cases h2 : k = 88
      · subst h2
        rw [ww_get (by decide)] at hk
        rw [if_pos rfl, List.getElem?_set_ne (by decide), List.getElem?_set_ne (by decide), ww_get (by decide), ← hk]
        rfl
      · rw [if_neg h2]
        by_cases hlt : k < 196
        · rw [ww_get hlt, a2_ne h1 h2] at hk
          by_cases h0 : k = 86
          · subst h0
            rw [List.getElem?_set_self (by rw [List.length_set, List.length_append, ww_len]; omega), ← hk]
            congr 2
          · rw [List.getElem?_set_ne (fun q => h0 q.symm), List.getElem?_set_ne (fun q => h0 q.symm), ww_get hlt, ← hk, wc_sws h0 h1 h2 hlt]
        · rw [ww_ex (by omega)] at hk
          rw [List.getElem?_set_ne (by omega), List.getElem?_set_ne (by omega), ww_ex (by omega)]
          exact hk
  · dsimp only at e
    by_cases h1 : i = 87
    · by_cases h2 : j = 87
      · rw [h1, h2]
      · rw [if_pos h1, if_neg h2] at e
        split at e <;> omega
    · rw [if_neg h1] at e
      by_cases h2 : j = 87
      · rw [if_pos h2] at e
        split at e <;> omega
      · rw [if_neg h2] at e
        split at e <;> split at e <;> omega
theorem g_swap (h0 : f 0 = some (.ref (A 86))) (h4 : f 4 = some (.ref (A 87))) (h : GG Z d 110 ret xp N 209 f [] (WW Z (a2 A (A 88) (A 87)) (sws s) ++ ex) C S) : GG Z d 110 ret xp (N + 5) 200 f [.ref (A 88), .ref (A 86)] (WW Z A s ++ ex) C S := by
  refine g_putR (q := 86) (k := 2) (ci := 4) 203 (gd rfl) rfl rfl rfl rfl ?_
  refine g_aload_n 204 (gd rfl) rfl h0 ?_
  refine g_aload 206 (gd rfl) rfl h4 ?_
  have hd : GD 110 206 (.putfield 19) 3 := gd rfl
  obtain ⟨Cn, T, NF, c1, c2, c3⟩ := xf_w (i := 19) (ci := 4) (k := 3) hd.1 rfl
  obtain ⟨n1, n2⟩ := xt_ck_ok (xt_all c1).1 (show (xt 4)[3]? = some (3, 0) from rfl)
  rw [Nat.zero_add] at n1 n2
  have n2 : (∃ n, am_t T 3 = .object n) ∨ ∃ t, am_t T 3 = .array t := n2
  have n3 : narrow (am_t T 3) (.ref (A 87)) = .ref (A 87) ∧ fits (am_t T 3) (.ref (A 87)) = true := by
    rcases n2 with ⟨x, e⟩ | ⟨x, e⟩ <;> rw [e] <;> exact ⟨rfl, rfl⟩
  refine g_st fun lv hl n hn => ?_
  unfold am_stp
  rw [hd.2]
  refine ⟨A 86, [], 86, 4, _, Cn, T, NF, 3, .ref (A 87), rfl, List.getElem?_set_self (by rw [List.length_append, ww_len]; omega), c1, c2, c3, by rw [List.length_set, List.length_map, List.length_range]; exact Nat.le_of_ble_eq_true rfl, n3.1, n3.2, fun z => ?_, g_less sws_less h lv hl n hn⟩
  rw [n1] at z
  cases z
theorem inv_sws (h : Inv s) : Inv (sws s) := inv_sB (q := 88) (inv_sB (q := 87) h (fun i _ => l_rng _)) (fun i _ => l_rng _)
theorem fr_sws {L : FM} {t : GS} (h1 : qI L.2.1 87 = false) (h2 : qI L.2.1 88 = false) (h : Fr L t s) : Fr L t (sws s) := fr_sB h2 (fr_sB h1 h)
theorem l_nz100 {x : Int32} {y z : Int64} (hz : z = Int64.ofInt 100 * y) (hy : y = x.toInt64) (h1 : -1000 ≤ x.toInt) (h2 : x.toInt ≤ 1000) (h3 : x.toInt ≠ 0) : z.toInt ≠ 0 := by
  have e : (Int64.ofInt 100).toInt = 100 := by decide
  have ey : y.toInt = x.toInt := by rw [hy]; exact Int32.toInt_toInt64 x
  have g : z.toInt = 100 * x.toInt := by
    rw [hz, Int64.toInt_mul, e, ey]
    exact Int.bmod_eq_of_le (by omega) (by omega)
  omega
end SW
