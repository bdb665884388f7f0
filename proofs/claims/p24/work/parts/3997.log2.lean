/-! openRow; what the rows of the log say -/
theorem lg_in {j n : Int32} (h0 : 0 ≤ j.toInt) (h1 : j.toInt < n.toInt) : vp_in j n.toNatClampNeg := z_ix h0 (by show j.toInt < ((n.toInt.toNat : Nat) : Int); omega)
section LG2
variable {Z : AmZ} {A : Nat → Nat} {s : GS} {ex : va_W} {d m N pc : Nat} {ret : AmR} {xp : GX} {f : Nat → Option Value} {st r : List Value} {ws : va_W} {C S : Nat}
theorem g_putR {i k ci p0 q a : Nat} (p : Nat) (hd : GD m pc (.putfield i) 3) (hp : pc + 3 = p) (hf : xfD (xo m) i = some (ci, k, p0)) (hw : wok q ci k 3 = true) (ht : (xt ci)[k]? = some (3, 0)) (h : GG Z d m ret xp N p f r ((WW Z A s ++ ex).set q (A q, .inr (ci, ((List.range (wn q)).map (wv A s q ci)).set k (.ref a)))) C S) : GG Z d m ret xp (N + 1) pc f (.ref a :: .ref (A q) :: r) (WW Z A s ++ ex) C S := by
  obtain ⟨w1, w2, w3, -⟩ := wok_w hw
  obtain ⟨Cn, T, NF, c1, c2, c3⟩ := xf_w hd.1 hf
  obtain ⟨n1, n2⟩ := xt_ck_ok (xt_all c1).1 ht
  rw [Nat.zero_add] at n1 n2
  have n2 : (∃ n, am_t T k = .object n) ∨ ∃ t, am_t T k = .array t := n2
  have n3 : narrow (am_t T k) (.ref a) = .ref a ∧ fits (am_t T k) (.ref a) = true := by
    rcases n2 with ⟨x, e⟩ | ⟨x, e⟩ <;> rw [e] <;> exact ⟨rfl, rfl⟩
  refine g_st fun lv hl n hn => ?_
  unfold am_stp
  rw [hd.2]
  subst hp
  refine ⟨A q, r, q, ci, _, Cn, T, NF, k, .ref a, rfl, by rw [ww_get w1, wc_o w2 (wok_c hw)], c1, c2, c3, by rw [List.length_map, List.length_range]; exact w3, n3.1, n3.2, fun z => ?_, h lv hl n hn⟩
  rw [n1] at z
  cases z
/-- how long the log is once a row is opened -/
def nln (s : GS) : Int := if (s.2.2.1 30 0).toInt < 7 * (s.2.2.1 2 0).toInt + 7 then max (7 * (s.2.2.1 2 0).toInt + 7) (min (2 * (s.2.2.1 30 0).toInt) 28000) else (s.2.2.1 30 0).toInt
def lc (s : GS) : Nat := if (s.2.2.1 30 0).toInt < 7 * (s.2.2.1 2 0).toInt + 7 ∧ (s.2.2.1 2 0).toInt ≤ 3999 then 1 else 0
def lsl (s : GS) : Nat := if (s.2.2.1 30 0).toInt < 7 * (s.2.2.1 2 0).toInt + 7 ∧ (s.2.2.1 2 0).toInt ≤ 3999 then (nln s).toNat else 0
theorem lgc_le : lc s ≤ 1 := by unfold lc; split <;> omega
theorem nln_b (hl : In (s.2.2.1 30 0) 448 28000) (hv : In (s.2.2.1 2 0) 0 3999) : 448 ≤ nln s ∧ nln s ≤ 28000 ∧ 7 * (s.2.2.1 2 0).toInt + 7 ≤ nln s := by
  obtain ⟨l1, l2⟩ := hl
  obtain ⟨v1, v2⟩ := hv
  unfold nln
  split <;> omega
theorem lsl_le (hl : In (s.2.2.1 30 0) 448 28000) (hv : In (s.2.2.1 2 0) 0 3999) : lsl s ≤ 28000 := by
  have := nln_b hl hv
  unfold lsl
  split <;> omega
theorem lc_cg {t : GS} (h1 : t.2.2.1 30 0 = s.2.2.1 30 0) (h2 : t.2.2.1 2 0 = s.2.2.1 2 0) : lc t = lc s ∧ lsl t = lsl s ∧ nln t = nln s := by
  unfold lsl lc nln
  rw [h1, h2]
  exact ⟨rfl, rfl, rfl⟩
theorem inv_lgr {n : Int32} (hI : Inv s) (hn : In n 448 28000) : Inv (lgr s n) := inv_sF (q := 30) (j := 0) (inv_sA (q := 30) hI (fun i _ => i_rng _)) rfl hn
theorem fr_lgr {n : Int32} : Fr ([30], [], [(30, 0)], []) s (lgr s n) := fr_sF rfl (fr_sA rfl fr_rf)
theorem lgr_get {n : Int32} {k : Nat} (h : k < (s.2.2.1 30 0).toNatClampNeg) : (lgr s n).1 30 k = s.1 30 k := by
  show (if 30 = 30 then va_cpy (s.1 30) (fun _ => 0) 0 0 (s.2.2.1 30 0).toNatClampNeg else s.1 30) k = _
  rw [if_pos rfl]
  unfold va_cpy
  rw [if_pos ⟨Nat.zero_le k, by omega⟩, Nat.zero_add, Nat.sub_zero]
theorem lgr_len {n : Int32} : (lgr s n).2.2.1 30 0 = n := sF_get.symm
/-- GraphHouse$Ledger.openRow -/
theorem k_130_1 {X : AmX} {u_2_0 : Int32} (hd : 5 ≤ d) (hI : Inv s) (e_2_0 : u_2_0 = s.2.2.1 2 0) (r_2_0 : In u_2_0 0 3999) : GC Z d 130 [.ref (A 1)] (WW Z A s ++ ex) (lc s) (lsl s) (fun v u => ∃ a : Nat, ∃ t : GS, Inv t ∧ Fr ([30], [], [(30, 0)], []) s t ∧ ∃ z : Int32, v = some (.int z) ∧ u = WW Z (ax A 30 a) t ++ ex ∧ In z 0 27993 ∧ (z.toInt = 7 * (s.2.2.1 2 0).toInt) ∧ (∀ k : Nat, (k : Int) < (s.2.2.1 30 0).toInt → t.1 30 k = s.1 30 k) ∧ ((t.2.2.1 30 0).toInt = nln s)) X := by
  have hv : (s.2.2.1 2 0).toInt ≤ 3999 := by rw [← e_2_0]; exact r_2_0.2
  intro post xp hP hX
  have hl := inv_F hI 448 28000 (q := 30) (j := 0) rfl rfl
  have hv0 := inv_F hI 0 4000 (q := 2) (j := 0) rfl rfl
  have hv1 : In (s.2.2.1 2 0) 0 3999 := ⟨hv0.1, hv⟩
  have hb := nln_b hl hv1
  have l1 := hl.1
  have l2 := hl.2
  refine g_enter2 (k := 130) (N := 300) (by omega) rfl (Nat.le_of_ble_eq_true rfl) ?_
  refine g_aload_n 1 (gd rfl) rfl rfl ?_
  refine g_getA (q2 := 2) 4 (gd rfl) rfl rfl rfl rfl ?_
  refine g_getI 7 (gd rfl) rfl rfl rfl (fun z4 e4 => ?_)
  have i4 : In z4 0 3999 := by rw [e4]; exact hv1
  refine g_bipush 7 9 (gd rfl) rfl rfl ?_
  refine g_imul 10 (gd rfl) rfl (fun z9 e9 => ?_)
  have t9 : z9.toInt = z4.toInt * 7 := by have := (t_mulc 7 (Or.inr e9) i4 rfl).1; omega
  have i9 : In z9 0 27993 := ⟨by have := i4.1; omega, by have := i4.2; omega⟩
  refine g_istore_n 11 (gd rfl) rfl (Nat.le_of_ble_eq_true rfl) ?_
  refine g_iload_n 12 (gd rfl) rfl rfl ?_
  refine g_bipush 7 14 (gd rfl) rfl rfl ?_
  refine g_iadd 15 (gd rfl) rfl (fun z14 e14 => ?_)
  have t14 := t_add e14 i9 (in_c 7 rfl) rfl
  have c7 : (Int32.ofInt 7).toInt = 7 := by decide
  refine g_aload_n 16 (gd rfl) rfl rfl ?_
  refine g_getA (q2 := 30) 19 (gd rfl) rfl rfl rfl rfl ?_
  refine g_lglen 20 (gd rfl) rfl (by omega) (fun z19 e19 => ?_)
  have x4 : z4.toInt = (s.2.2.1 2 0).toInt := by rw [e4]
  have x19 : z19.toInt = (s.2.2.1 30 0).toInt := by rw [e19]
  refine g_cmp_le 23 54 (gd rfl) rfl rfl (fun c20 => ?_) (fun c20 => ?_)
  · have hnf : ¬ (s.2.2.1 30 0).toInt < 7 * (s.2.2.1 2 0).toInt + 7 := by omega
    refine g_iload_n 55 (gd rfl) rfl rfl ?_
    refine g_ireturn (gd rfl) rfl rfl (hP _ _ ⟨A 30, s, hI, fr_rf, z9, rfl, by rw [ax_id], i9, by omega, fun _ _ => rfl, by unfold nln; rw [if_neg hnf]⟩)
  · have hf : (s.2.2.1 30 0).toInt < 7 * (s.2.2.1 2 0).toInt + 7 := by omega
    have elc : lc s = 1 := by unfold lc; rw [if_pos ⟨hf, hv⟩]
    have els : lsl s = (nln s).toNat := by unfold lsl; rw [if_pos ⟨hf, hv⟩]
    refine g_aload_n 24 (gd rfl) rfl rfl ?_
    refine g_aload_n 25 (gd rfl) rfl rfl ?_
    refine g_getA (q2 := 30) 28 (gd rfl) rfl rfl rfl rfl ?_
    refine g_iload_n 29 (gd rfl) rfl rfl ?_
    refine g_bipush 7 31 (gd rfl) rfl rfl ?_
    refine g_iadd 32 (gd rfl) rfl (fun z31 e31 => ?_)
    have t31 := t_add e31 i9 (in_c 7 rfl) rfl
    refine g_iconst 2 33 (gd rfl) rfl rfl ?_
    refine g_aload_n 34 (gd rfl) rfl rfl ?_
    refine g_getA (q2 := 30) 37 (gd rfl) rfl rfl rfl rfl ?_
    refine g_lglen 38 (gd rfl) rfl (by omega) (fun z37 e37 => ?_)
    have i37 : In z37 448 28000 := by rw [e37]; exact hl
    refine g_imul 39 (gd rfl) rfl (fun z38 e38 => ?_)
    have t38 : z38.toInt = 2 * z37.toInt := by have := (t_mulc 2 (Or.inl e38) i37 rfl).1; omega
    have x37 : z37.toInt = (s.2.2.1 30 0).toInt := by rw [e37]
    refine g_sipush 28000 42 (gd rfl) rfl rfl ?_
    have c28 : (Int32.ofInt 28000).toInt = 28000 := by decide
    refine g_calls (As := [.int z38, .int (Int32.ofInt 28000)]) (r := [.int z31, .ref (A 30), .ref (A 1)]) 45 (gd rfl) rfl rfl rfl rfl rfl (Nat.le_of_ble_eq_true rfl) (Nat.zero_le _) (Nat.zero_le _) (k_424z (by omega)) (fun v u h => ?_)
    obtain ⟨z42, rfl, rfl, hz42⟩ := h
    show GG _ _ _ _ _ _ _ _ [.int z42, .int z31, .ref (A 30), .ref (A 1)] _ _ _
    refine g_calls (As := [.int z31, .int z42]) (r := [.ref (A 30), .ref (A 1)]) 48 (gd rfl) rfl rfl rfl rfl rfl (Nat.le_of_ble_eq_true rfl) (Nat.zero_le _) (Nat.zero_le _) (k_422z (by omega)) (fun v u h => ?_)
    obtain ⟨z45, rfl, rfl, hz45⟩ := h
    show GG _ _ _ _ _ _ _ _ [.int z45, .ref (A 30), .ref (A 1)] _ _ _
    have en : z45.toInt = nln s := by unfold nln; rw [if_pos hf]; omega
    have i45 : In z45 448 28000 := ⟨by omega, by omega⟩
    have ez : z45.toNatClampNeg = (nln s).toNat := by show z45.toInt.toNat = _; rw [en]
    refine g_calls (mc := 1) (ms := z45.toNatClampNeg) (As := [.ref (A 30), .int z45]) (r := [.ref (A 1)]) 51 (gd rfl) rfl rfl rfl rfl rfl (Nat.le_of_ble_eq_true rfl) (by rw [elc]; exact Nat.le_refl 1) (by rw [els, ez]; exact Nat.le_refl _) (k_426 (by omega) ⟨by omega, l2⟩ (by omega) (by omega)) (fun v u h => ?_)
    obtain ⟨q, rfl, hq, rfl⟩ := h
    show GG _ _ _ _ _ _ _ _ [.ref q, .ref (A 1)] _ _ _
    refine g_putR (q := 1) (k := 2) (ci := 5) 54 (gd rfl) rfl rfl rfl rfl ?_
    refine g_less (lgr_less (n := z45) hq (by omega)) ?_
    refine g_iload_n 55 (gd rfl) rfl rfl ?_
    exact g_ireturn (gd rfl) rfl rfl (hP _ _ ⟨q, lgr s z45, inv_lgr hI i45, fr_lgr, z9, rfl, rfl, i9, by omega, fun k hk => lgr_get (by show k < (s.2.2.1 30 0).toInt.toNat; omega), by rw [lgr_len]; exact en⟩)
end LG2
/-- how many of the first rows of the log are nodes -/
def cz7 (w : Nat → Int32) : Nat → Nat
  | 0 => 0
  | n + 1 => cz7 w n + (if (w (7 * n)).toInt = 0 then 1 else 0)
/-- a row of the log fits its kind -/
def RW7 (w : Nat → Int32) (k : Nat) : Prop :=
  if (w (7 * k)).toInt = 0 then (w (7 * k + 1)).toInt = (cz7 w k : Int) ∧ (cz7 w k : Int) ≤ 31 ∧ In (w (7 * k + 2)) 0 25
  else if (w (7 * k)).toInt = 1 then In (w (7 * k + 1)) 0 159 ∧ (0 ≤ (w (7 * k + 2)).toInt ∧ (w (7 * k + 2)).toInt < (cz7 w k : Int)) ∧ (0 ≤ (w (7 * k + 3)).toInt ∧ (w (7 * k + 3)).toInt < (cz7 w k : Int)) ∧ In (w (7 * k + 4)) (-1000000) 1000000 ∧ In (w (7 * k + 5)) 0 1000000 ∧ In (w (7 * k + 6)) 0 25
  else if (w (7 * k)).toInt = 2 then In (w (7 * k + 1)) 0 159
  else if (w (7 * k)).toInt = 3 then In (w (7 * k + 1)) 0 159 ∧ ((w (7 * k + 2)).toInt = 0 → In (w (7 * k + 3)) (-1000000) 1000000) ∧ ((w (7 * k + 2)).toInt = 1 → In (w (7 * k + 3)) 0 1000000) ∧ ((w (7 * k + 2)).toInt ≠ 0 → (w (7 * k + 2)).toInt ≠ 1 → In (w (7 * k + 3)) 0 25)
  else In (w (7 * k + 1)) 0 31 ∧ In (w (7 * k + 2)) 0 25
theorem cz7_cg {w w2 : Nat → Int32} : ∀ {n : Nat}, (∀ k, k < 7 * n → w2 k = w k) → cz7 w2 n = cz7 w n := by
  intro n
  induction n with
  | zero => intro _; rfl
  | succ n ih =>
    intro h
    show cz7 w2 n + _ = cz7 w n + _
    rw [ih (fun k hk => h k (by omega)), h (7 * n) (by omega)]
theorem rw7_cg {w w2 : Nat → Int32} {k : Nat} (h : ∀ i, i < 7 * k + 7 → w2 i = w i) (hr : RW7 w k) : RW7 w2 k := by
  unfold RW7 at hr ⊢
  rw [h (7 * k) (by omega), h (7 * k + 1) (by omega), h (7 * k + 2) (by omega), h (7 * k + 3) (by omega), h (7 * k + 4) (by omega), h (7 * k + 5) (by omega), h (7 * k + 6) (by omega), cz7_cg (w := w) (w2 := w2) (n := k) (fun i hi => h i (by omega))]
  exact hr
theorem rw7_v {w : Nat → Int32} {k c : Nat} {x z : Int32} (hx : x.toInt = 7 * (k : Int) + (c : Int)) (e : z = w x.toNatClampNeg) : z = w (7 * k + c) := by
  rw [e]
  have : x.toNatClampNeg = 7 * k + c := by show x.toInt.toNat = _; omega
  rw [this]
theorem rw7_0 {w : Nat → Int32} {k : Nat} {x z : Int32} (h : RW7 w k) (hx : x.toInt = 7 * (k : Int)) (e : z = w x.toNatClampNeg) (hz : z.toInt = 0) : (w (7 * k + 1)).toInt = (cz7 w k : Int) ∧ (cz7 w k : Int) ≤ 31 ∧ In (w (7 * k + 2)) 0 25 := by
  have e2 : z = w (7 * k) := rw7_v (c := 0) (by omega) e
  unfold RW7 at h
  rw [← e2, if_pos hz] at h
  exact h
theorem rw7_1 {w : Nat → Int32} {k : Nat} {x z : Int32} (h : RW7 w k) (hx : x.toInt = 7 * (k : Int)) (e : z = w x.toNatClampNeg) (hz : z.toInt = 1) : In (w (7 * k + 1)) 0 159 ∧ (0 ≤ (w (7 * k + 2)).toInt ∧ (w (7 * k + 2)).toInt < (cz7 w k : Int)) ∧ (0 ≤ (w (7 * k + 3)).toInt ∧ (w (7 * k + 3)).toInt < (cz7 w k : Int)) ∧ In (w (7 * k + 4)) (-1000000) 1000000 ∧ In (w (7 * k + 5)) 0 1000000 ∧ In (w (7 * k + 6)) 0 25 := by
  have e2 : z = w (7 * k) := rw7_v (c := 0) (by omega) e
  unfold RW7 at h
  rw [← e2, if_neg (by omega), if_pos hz] at h
  exact h
theorem rw7_2 {w : Nat → Int32} {k : Nat} {x z : Int32} (h : RW7 w k) (hx : x.toInt = 7 * (k : Int)) (e : z = w x.toNatClampNeg) (hz : z.toInt = 2) : In (w (7 * k + 1)) 0 159 := by
  have e2 : z = w (7 * k) := rw7_v (c := 0) (by omega) e
  unfold RW7 at h
  rw [← e2, if_neg (by omega), if_neg (by omega), if_pos hz] at h
  exact h
theorem rw7_3 {w : Nat → Int32} {k : Nat} {x z : Int32} (h : RW7 w k) (hx : x.toInt = 7 * (k : Int)) (e : z = w x.toNatClampNeg) (hz : z.toInt = 3) : In (w (7 * k + 1)) 0 159 ∧ ((w (7 * k + 2)).toInt = 0 → In (w (7 * k + 3)) (-1000000) 1000000) ∧ ((w (7 * k + 2)).toInt = 1 → In (w (7 * k + 3)) 0 1000000) ∧ ((w (7 * k + 2)).toInt ≠ 0 → (w (7 * k + 2)).toInt ≠ 1 → In (w (7 * k + 3)) 0 25) := by
  have e2 : z = w (7 * k) := rw7_v (c := 0) (by omega) e
  unfold RW7 at h
  rw [← e2, if_neg (by omega), if_neg (by omega), if_neg (by omega), if_pos hz] at h
  exact h
theorem rw7_4 {w : Nat → Int32} {k : Nat} {x z : Int32} (h : RW7 w k) (hx : x.toInt = 7 * (k : Int)) (e : z = w x.toNatClampNeg) (hz : z.toInt < 0 ∨ 3 < z.toInt) : In (w (7 * k + 1)) 0 31 ∧ In (w (7 * k + 2)) 0 25 := by
  have e2 : z = w (7 * k) := rw7_v (c := 0) (by omega) e
  unfold RW7 at h
  rw [← e2, if_neg (by omega), if_neg (by omega), if_neg (by omega), if_neg (by omega)] at h
  exact h
/-- the arcs' ends are nodes -/
def KN (f t : Nat → Int32) (n : Int32) : Prop := ∀ p, p < 160 → (f p).toInt = -1 ∨ ((0 ≤ (f p).toInt ∧ (f p).toInt < n.toInt) ∧ 0 ≤ (t p).toInt ∧ (t p).toInt < n.toInt)
/-- a graph of the class is what the log says, as far as nodes go -/
def KV (s : GS) (b : Nat) : Prop := (s.2.2.1 b 1).toInt = (cz7 (s.1 30) (s.2.2.1 b 0).toInt.toNat : Int) ∧ KN (s.1 (b + 2)) (s.1 (b + 3)) (s.2.2.1 b 1)
/-- the log -/
def KL (s : GS) : Prop := (∀ k : Nat, (k : Int) < (s.2.2.1 2 0).toInt → RW7 (s.1 30) k) ∧ 7 * (s.2.2.1 2 0).toInt ≤ (s.2.2.1 30 0).toInt ∧ (s.2.2.1 32 0).toInt ≤ (s.2.2.1 2 0).toInt ∧ KV s 2 ∧ KV s 32
theorem kn_up {f t : Nat → Int32} {n n2 : Int32} (h : KN f t n) (hn : n.toInt ≤ n2.toInt) : KN f t n2 := by
  intro p hp
  rcases h p hp with h | ⟨⟨a, b⟩, c, e⟩
  · exact Or.inl h
  · exact Or.inr ⟨⟨a, by omega⟩, c, by omega⟩
theorem kn_dr {f t : Nat → Int32} {n x : Int32} {j : Nat} (h : KN f t n) (hx : x.toInt = -1) : KN (upd f j x) t n := by
  intro p hp
  unfold upd
  by_cases e : p = j
  · rw [if_pos e]; exact Or.inl hx
  · rw [if_neg e]; exact h p hp
theorem kn_ar {f t : Nat → Int32} {n x y : Int32} {j : Nat} (h : KN f t n) (hx : 0 ≤ x.toInt ∧ x.toInt < n.toInt) (hy : 0 ≤ y.toInt ∧ y.toInt < n.toInt) : KN (upd f j x) (upd t j y) n := by
  intro p hp
  unfold upd
  by_cases e : p = j
  · rw [if_pos e, if_pos e]; exact Or.inr ⟨hx, hy.1, hy.2⟩
  · rw [if_neg e, if_neg e]; exact h p hp
def kaok2 (L : FM) : Bool := krok L && ksok L && qG1 L 32 && qG2 L 32 && qG3 L 32 && qG4 L 32 && qG5 L 32
def kaok32 (L : FM) : Bool := krok L && ksok L && qG1 L 2 && qG2 L 2 && qG3 L 2 && qG4 L 2 && qG5 L 2
theorem kk_ap2 {s t : GS} {L : FM} (h : KK (mI s) (mF s)) (hF : Fr L s t) (hk : kaok2 L = true) (hl : (t.2.2.1 2 4).toInt < (t.2.2.1 2 0).toInt) : KK (mI t) (mF t) := by
  unfold kaok2 at hk
  simp only [Bool.and_eq_true] at hk
  obtain ⟨⟨⟨⟨⟨⟨a0, a1⟩, c1⟩, c2⟩, c3⟩, c4⟩, c5⟩ := hk
  refine ⟨⟨?_, fun e => ?_⟩, kk_g h.2.1 hF c1 c2 c3 c4 c5, kk_s h.2.2.1 hF a1, kk_r h.2.2.2 hF a0⟩
  · rw [mF_at rfl, mF_at rfl]; omega
  · rw [mF_at rfl, mF_at rfl] at e; omega
theorem kk_ap32 {s t : GS} {L : FM} (h : KK (mI s) (mF s)) (hF : Fr L s t) (hk : kaok32 L = true) (hl : (t.2.2.1 32 4).toInt < (t.2.2.1 32 0).toInt) : KK (mI t) (mF t) := by
  unfold kaok32 at hk
  simp only [Bool.and_eq_true] at hk
  obtain ⟨⟨⟨⟨⟨⟨a0, a1⟩, c1⟩, c2⟩, c3⟩, c4⟩, c5⟩ := hk
  refine ⟨kk_g h.1 hF c1 c2 c3 c4 c5, ⟨?_, fun e => ?_⟩, kk_s h.2.2.1 hF a1, kk_r h.2.2.2 hF a0⟩
  · rw [mF_at rfl, mF_at rfl]; omega
  · rw [mF_at rfl, mF_at rfl] at e; omega
/-- a graph goes on by a row of the log -/
theorem kv_st {s t : GS} {b : Nat} (h : KV s b) (hL : t.1 30 = s.1 30) (h0 : 0 ≤ (s.2.2.1 b 0).toInt) (hv : (t.2.2.1 b 0).toInt = (s.2.2.1 b 0).toInt + 1) (hn : (t.2.2.1 b 1).toInt = (s.2.2.1 b 1).toInt + (if (s.1 30 (7 * (s.2.2.1 b 0).toInt.toNat)).toInt = 0 then 1 else 0)) (hk : KN (t.1 (b + 2)) (t.1 (b + 3)) (t.2.2.1 b 1)) : KV t b := by
  refine ⟨?_, hk⟩
  have e : (t.2.2.1 b 0).toInt.toNat = (s.2.2.1 b 0).toInt.toNat + 1 := by omega
  rw [e, hL, hn, h.1]
  show _ = ((cz7 (s.1 30) (s.2.2.1 b 0).toInt.toNat + (if (s.1 30 (7 * (s.2.2.1 b 0).toInt.toNat)).toInt = 0 then 1 else 0) : Nat) : Int)
  split <;> omega
