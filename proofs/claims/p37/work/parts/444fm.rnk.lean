section
/-! RANKS -/
noncomputable def iw (P : Prop) (x : Int) : Int := @ite Int P (Classical.propDecidable P) x 0
theorem sm_sub {f h : Nat → Int} : ∀ n : Nat, sm (fun k => f k - h k) n = sm f n - sm h n
  | 0 => rfl
  | n + 1 => by
    rw [sm_s, sm_s, sm_s, sm_sub n]
    omega
/-- what u sends along each of its arcs -/
noncomputable def shr (F U : Nat → Int) (u : Nat) : Int := iw (cn F (u : Int) 160 ≠ 0) (U u * 85 / (100 * cn F (u : Int) 160))
noncomputable def pot (F U : Nat → Int) (n : Nat) : Int := sm (fun u => U u - shr F U u * cn F (u : Int) 160) n
section RNK
variable {F T U : Nat → Int} {n : Nat}
/-! the class's round -/
/-! the pot -/
/-! the pot is shared -/
theorem ldiv_v {x y z : Int64} (e : z = x / y) (h0 : 0 ≤ x.toInt) (hy : 0 < y.toInt) : z.toInt = x.toInt / y.toInt := by
  have b := (l_rng x).2
  have q := Int.ediv_le_self (a := x.toInt) y.toInt h0
  have q0 : 0 ≤ x.toInt / y.toInt := Int.ediv_nonneg h0 (by omega)
  rw [e, Int64.toInt_div, Int.tdiv_eq_ediv_of_nonneg h0]
  exact Int.bmod_eq_of_le (by omega) (by omega)
theorem lrem_w {x y z : Int64} (e : z = x - x / y * y) (h0 : 0 ≤ x.toInt) (hx : x.toInt ≤ 4000000000000000000) (hy : 0 < y.toInt) : z.toInt = x.toInt % y.toInt := by
  obtain ⟨q, hq⟩ : ∃ q, q = x / y := ⟨_, rfl⟩
  obtain ⟨m, hm⟩ : ∃ m, m = q * y := ⟨_, rfl⟩
  have d := ldiv_v hq h0 hy
  have q1 := Int.ediv_mul_le x.toInt (b := y.toInt) (by omega)
  have q0 : 0 ≤ x.toInt / y.toInt := Int.ediv_nonneg h0 (by omega)
  have q2 : 0 ≤ x.toInt / y.toInt * y.toInt := Int.mul_nonneg q0 (by omega)
  have m1 : m.toInt = x.toInt / y.toInt * y.toInt := by
    rw [lmul_t hm (by rw [d]; omega) (by rw [d]; omega), d]
  rw [← hq, ← hm] at e
  rw [lsub_t e (by rw [m1]; omega) (by rw [m1]; omega), m1, Int.emod_def, Int.mul_comm y.toInt]
end RNK
/-! what is kept of the ranks -/
/-! the reference -/
section RRF
variable {F T U : Nat → Int} {n : Nat}
end RRF
end
section
/-! SORTING -/
/-! a value is put in, with a gap -/
section INS
variable {f f0 : Nat → Int64} {n i j g : Nat} {key z : Int64}
theorem vp_at {x : Int64} : vp_updL f j x j = x := if_pos rfl
theorem vp_ne {k : Nat} {x : Int64} (h : k ≠ j) : vp_updL f j x k = f k := if_neg h
end INS

theorem sL_w {s : GS} {q j : Nat} {v : Int64} : (sL s q j v).2.1 q = vp_updL (s.2.1 q) j v := by simp [sL]
/-! the gaps -/
/-! two sorted pieces become one -/
section MRG
variable {V : Int → Int} {F M G : Nat → Int} {fs hf en a b k n sz : Nat} {x : Int}
end MRG

section MG2
variable {V : Int → Int} {F M N : Nat → Int} {fs hf en n sz m : Nat}
end MG2

/-! which way is before which -/
section KY
variable {s : GS} {x y : Int32}
end KY

/-! rows of places -/
section OI
variable {s t : GS} {f g : Nat → Int32} {n sz j k : Nat} {z : Int32} {V : Int → Int} {L : FM}
end OI
end
section
/-! DETERMINANTS -/
def dsk (i r : Nat) : Nat := if r < i then r else r + 1
def dsg (i : Nat) : Int := if i % 2 = 0 then 1 else -1
theorem dsg_s (i : Nat) : dsg (i + 1) = -dsg i := by
  unfold dsg
  by_cases c : i % 2 = 0
  · rw [if_pos c, if_neg (by omega)]
  · rw [if_neg c, if_pos (by omega)]
    rfl
theorem dsk_l {i r : Nat} (h : r < i) : dsk i r = r := if_pos h
theorem dsk_g {i r : Nat} (h : i ≤ r) : dsk i r = r + 1 := if_neg (by omega)
theorem dsk_lt {i r n : Nat} (h : r < n) : dsk i r < n + 1 := by
  unfold dsk
  split <;> omega
theorem dsk_ne {i r : Nat} : dsk i r ≠ i := by
  unfold dsk
  split <;> omega
def dtm : Nat → (Nat → Nat → Int) → Int
  | 0, _ => 1
  | n + 1, M => sm (fun i => dsg i * M i 0 * dtm n (fun r c => M (dsk i r) (c + 1))) (n + 1)
theorem dtm_s {n : Nat} {M : Nat → Nat → Int} : dtm (n + 1) M = sm (fun i => dsg i * M i 0 * dtm n (fun r c => M (dsk i r) (c + 1))) (n + 1) := rfl
theorem dtm_eq : ∀ (n : Nat) {M N : Nat → Nat → Int}, (∀ r c, r < n → c < n → M r c = N r c) → dtm n M = dtm n N
  | 0, _, _, _ => rfl
  | n + 1, M, N, h => by
    rw [dtm_s, dtm_s]
    refine sm_eq (n + 1) (fun i hi => ?_)
    rw [h i 0 hi (by omega), dtm_eq n (M := fun r c => M (dsk i r) (c + 1)) (N := fun r c => N (dsk i r) (c + 1)) (fun r c hr hc => h _ _ (dsk_lt hr) (by omega))]
/-! a row is linear -/
def rpl (M : Nat → Nat → Int) (r : Nat) (v : Nat → Int) : Nat → Nat → Int := fun i c => if i = r then v c else M i c
theorem rpl_e {M : Nat → Nat → Int} {r c : Nat} {v : Nat → Int} : rpl M r v r c = v c := if_pos rfl
theorem rpl_n {M : Nat → Nat → Int} {r i c : Nat} {v : Nat → Int} (h : i ≠ r) : rpl M r v i c = M i c := if_neg h
theorem sm_lin {f g : Nat → Int} {a b : Int} : ∀ n : Nat, sm (fun i => a * f i + b * g i) n = a * sm f n + b * sm g n
  | 0 => by
    show (0 : Int) = a * 0 + b * 0
    rw [Int.mul_zero, Int.mul_zero]
    rfl
  | n + 1 => by
    show sm (fun i => a * f i + b * g i) n + (a * f n + b * g n) = a * (sm f n + f n) + b * (sm g n + g n)
    rw [sm_lin n, Int.mul_add, Int.mul_add]
    omega
theorem dsm_k {f : Nat → Int} {a : Int} : ∀ n : Nat, sm (fun i => a * f i) n = a * sm f n
  | 0 => (Int.mul_zero a).symm
  | n + 1 => by
    show sm (fun i => a * f i) n + a * f n = a * (sm f n + f n)
    rw [dsm_k n, Int.mul_add]
theorem drg_1 {s a b x y : Int} : s * (a * x + b * y) = a * (s * x) + b * (s * y) := by
  rw [Int.mul_add, Int.mul_left_comm s a x, Int.mul_left_comm s b y]
theorem drg_2 {s a b u v d : Int} : s * (a * u + b * v) * d = a * (s * u * d) + b * (s * v * d) := by
  rw [drg_1, Int.add_mul, Int.mul_assoc a, Int.mul_assoc b]
def dsr (i r : Nat) : Nat := if r < i then r else r - 1
theorem dsk_iff {i r x : Nat} (h : i ≠ r) : dsk i x = r ↔ x = dsr i r := by
  unfold dsk dsr
  split <;> split <;> omega
theorem dsr_lt {i r n : Nat} (h : i ≠ r) (hi : i < n + 1) (hr : r < n + 1) : dsr i r < n := by
  unfold dsr
  split <;> omega
theorem rpl_min {M : Nat → Nat → Int} {i r : Nat} {v : Nat → Int} (h : i ≠ r) : (fun x c => rpl M r v (dsk i x) (c + 1)) = rpl (fun x c => M (dsk i x) (c + 1)) (dsr i r) (fun c => v (c + 1)) := by
  funext x c
  by_cases e : x = dsr i r
  · rw [(dsk_iff h).mpr e, rpl_e, e, rpl_e]
  · rw [rpl_n (fun k => e ((dsk_iff h).mp k)), rpl_n e]
theorem rpl_mis {M : Nat → Nat → Int} {r : Nat} {v : Nat → Int} : (fun x c => rpl M r v (dsk r x) (c + 1)) = (fun x c => M (dsk r x) (c + 1)) := by
  funext x c
  exact rpl_n dsk_ne
theorem dtm_lin : ∀ (n : Nat) {M : Nat → Nat → Int} {r : Nat} {u v : Nat → Int} {a b : Int}, r < n → dtm n (rpl M r (fun c => a * u c + b * v c)) = a * dtm n (rpl M r u) + b * dtm n (rpl M r v)
  | 0, _, _, _, _, _, _, h => by omega
  | n + 1, M, r, u, v, a, b, h => by
    rw [dtm_s, dtm_s, dtm_s, ← sm_lin]
    refine sm_eq (n + 1) (fun i hi => ?_)
    by_cases e : i = r
    · subst e
      show dsg i * rpl M i (fun c => a * u c + b * v c) i 0 * dtm n (fun x c => rpl M i (fun c => a * u c + b * v c) (dsk i x) (c + 1)) = a * (dsg i * rpl M i u i 0 * dtm n (fun x c => rpl M i u (dsk i x) (c + 1))) + b * (dsg i * rpl M i v i 0 * dtm n (fun x c => rpl M i v (dsk i x) (c + 1)))
      rw [rpl_mis, rpl_mis, rpl_mis, rpl_e, rpl_e, rpl_e]
      exact drg_2
    · show dsg i * rpl M r (fun c => a * u c + b * v c) i 0 * dtm n (fun x c => rpl M r (fun c => a * u c + b * v c) (dsk i x) (c + 1)) = a * (dsg i * rpl M r u i 0 * dtm n (fun x c => rpl M r u (dsk i x) (c + 1))) + b * (dsg i * rpl M r v i 0 * dtm n (fun x c => rpl M r v (dsk i x) (c + 1)))
      rw [rpl_min e, rpl_min e, rpl_min e, rpl_n e, rpl_n e, rpl_n e, dtm_lin n (dsr_lt e hi h)]
      exact drg_1
theorem dtm_add {n r : Nat} {M : Nat → Nat → Int} {u v : Nat → Int} (h : r < n) : dtm n (rpl M r (fun c => u c + v c)) = dtm n (rpl M r u) + dtm n (rpl M r v) := by
  have e := dtm_lin n (M := M) (u := u) (v := v) (a := 1) (b := 1) h
  rw [Int.one_mul, Int.one_mul] at e
  rw [← e]
  exact dtm_eq n (fun i c _ _ => by
    by_cases k : i = r
    · rw [k, rpl_e, rpl_e, Int.one_mul, Int.one_mul]
    · rw [rpl_n k, rpl_n k])
theorem dtm_mul {n r : Nat} {M : Nat → Nat → Int} {u : Nat → Int} {a : Int} (h : r < n) : dtm n (rpl M r (fun c => a * u c)) = a * dtm n (rpl M r u) := by
  have e := dtm_lin n (M := M) (u := u) (v := u) (a := a) (b := 0) h
  rw [Int.zero_mul, Int.add_zero] at e
  rw [← e]
  exact dtm_eq n (fun i c _ _ => by
    by_cases k : i = r
    · rw [k, rpl_e, rpl_e, Int.zero_mul, Int.add_zero]
    · rw [rpl_n k, rpl_n k])
theorem rpl_id {M : Nat → Nat → Int} {r : Nat} : rpl M r (M r) = M := by
  funext i c
  by_cases k : i = r
  · rw [k, rpl_e]
  · rw [rpl_n k]
theorem dtm_zr {n r : Nat} {M : Nat → Nat → Int} (h : r < n) (hz : ∀ c, c < n → M r c = 0) : dtm n M = 0 := by
  have e := dtm_mul (n := n) (M := M) (u := M r) (a := 0) h
  rw [Int.zero_mul] at e
  rw [← e]
  exact dtm_eq n (fun i c _ hc => by
    by_cases k : i = r
    · rw [k, rpl_e, Int.zero_mul, hz c hc]
    · rw [rpl_n k])
/-! equal rows -/
theorem sm_two {f : Nat → Int} {r : Nat} (h2 : f r + f (r + 1) = 0) : ∀ m : Nat, (∀ k, k < r + 2 + m → k ≠ r → k ≠ r + 1 → f k = 0) → sm f (r + 2 + m) = 0
  | 0, h => by
    show sm f r + f r + f (r + 1) = 0
    rw [sm_0 r (fun k hk => h k (by omega) (by omega) (by omega))]
    omega
  | m + 1, h => by
    show sm f (r + 2 + m) + f (r + 2 + m) = 0
    rw [sm_two h2 m (fun k hk a b => h k (by omega) a b), h (r + 2 + m) (by omega) (by omega) (by omega)]
    rfl
theorem dtm_adj : ∀ (n : Nat) {M : Nat → Nat → Int} {r : Nat}, r + 1 < n → (∀ c, c < n → M r c = M (r + 1) c) → dtm n M = 0
  | 0, _, _, h, _ => by omega
  | n + 1, M, r, h, he => by
    obtain ⟨m, hm⟩ : ∃ m, n + 1 = r + 2 + m := ⟨n + 1 - (r + 2), by omega⟩
    rw [dtm_s, hm]
    refine sm_two ?_ m (fun k hk a b => ?_)
    · show dsg r * M r 0 * dtm n (fun x c => M (dsk r x) (c + 1)) + dsg (r + 1) * M (r + 1) 0 * dtm n (fun x c => M (dsk (r + 1) x) (c + 1)) = 0
      have e : dtm n (fun x c => M (dsk r x) (c + 1)) = dtm n (fun x c => M (dsk (r + 1) x) (c + 1)) := dtm_eq n (fun x c hx hc => by
        by_cases k : x = r
        · rw [k, dsk_g (Nat.le_refl r), dsk_l (Nat.lt_succ_self r)]
          exact (he (c + 1) (by omega)).symm
        · rw [show dsk r x = dsk (r + 1) x by unfold dsk; split <;> split <;> omega])
      rw [e, dsg_s, he 0 (by omega), Int.neg_mul, Int.neg_mul]
      omega
    · show dsg k * M k 0 * dtm n (fun x c => M (dsk k x) (c + 1)) = 0
      have e : dtm n (fun x c => M (dsk k x) (c + 1)) = 0 := by
        by_cases c : k < r
        · refine dtm_adj n (r := r - 1) (by omega) (fun j hj => ?_)
          show M (dsk k (r - 1)) (j + 1) = M (dsk k (r - 1 + 1)) (j + 1)
          rw [dsk_g (show k ≤ r - 1 by omega), dsk_g (show k ≤ r - 1 + 1 by omega), show r - 1 + 1 = r by omega]
          exact he (j + 1) (by omega)
        · refine dtm_adj n (r := r) (by omega) (fun j hj => ?_)
          show M (dsk k r) (j + 1) = M (dsk k (r + 1)) (j + 1)
          rw [dsk_l (show r < k by omega), dsk_l (show r + 1 < k by omega)]
          exact he (j + 1) (by omega)
      rw [e, Int.mul_zero]
theorem rpl_cm {M : Nat → Nat → Int} {i j : Nat} {x y : Nat → Int} (h : i ≠ j) : rpl (rpl M i x) j y = rpl (rpl M j y) i x := by
  funext k c
  by_cases a : k = i
  · rw [a, rpl_n h, rpl_e, rpl_e]
  · by_cases b : k = j
    · rw [b, rpl_e, rpl_n (fun z => h z.symm), rpl_e]
    · rw [rpl_n b, rpl_n a, rpl_n a, rpl_n b]
theorem dtm_swp {n i j : Nat} (hi : i < n) (hj : j < n) (hij : i ≠ j) (alt : ∀ M : Nat → Nat → Int, (∀ c, c < n → M i c = M j c) → dtm n M = 0) (M : Nat → Nat → Int) (u v : Nat → Int) : dtm n (rpl (rpl M i v) j u) = -dtm n (rpl (rpl M i u) j v) := by
  have az : ∀ x : Nat → Int, dtm n (rpl (rpl M i x) j x) = 0 := fun x => alt _ (fun c _ => by rw [rpl_n hij, rpl_e, rpl_e])
  have e := az (fun c => u c + v c)
  rw [dtm_add hj, rpl_cm hij, rpl_cm hij, dtm_add hi, dtm_add hi, ← rpl_cm hij, ← rpl_cm hij, ← rpl_cm hij, ← rpl_cm hij, az u, az v] at e
  omega
theorem dtm_alt : ∀ (d n : Nat) {M : Nat → Nat → Int} {i : Nat}, i + d + 1 < n → (∀ c, c < n → M i c = M (i + d + 1) c) → dtm n M = 0
  | 0, n, M, i, h, he => dtm_adj n h he
  | d + 1, n, M, i, h, he => by
    have sw := dtm_swp (n := n) (i := i + d + 1) (j := i + d + 2) (by omega) (by omega) (by omega) (fun N hN => dtm_adj n (by omega) hN) M (M (i + d + 1)) (M (i + d + 2))
    have z : dtm n (rpl (rpl M (i + d + 1) (M (i + d + 2))) (i + d + 2) (M (i + d + 1))) = 0 := dtm_alt d n (i := i) (by omega) (fun c hc => by
      rw [rpl_n (show i ≠ i + d + 2 by omega), rpl_n (show i ≠ i + d + 1 by omega), rpl_n (show i + d + 1 ≠ i + d + 2 by omega), rpl_e]
      exact he c hc)
    have id : rpl (rpl M (i + d + 1) (M (i + d + 1))) (i + d + 2) (M (i + d + 2)) = M := by
      rw [rpl_id]
      exact rpl_id
    rw [z, id] at sw
    omega
theorem dtm_al {n i j : Nat} {M : Nat → Nat → Int} (hij : i < j) (hj : j < n) (he : ∀ c, c < n → M i c = M j c) : dtm n M = 0 := by
  obtain ⟨d, rfl⟩ : ∃ d, j = i + d + 1 := ⟨j - i - 1, by omega⟩
  exact dtm_alt d n hj he
/-! elimination -/
theorem dtm_ra {n r : Nat} {M : Nat → Nat → Int} {t : Int} (h0 : 0 < r) (hr : r < n) : dtm n (rpl M r (fun c => M r c + t * M 0 c)) = dtm n M := by
  rw [dtm_add hr, dtm_mul hr, rpl_id, dtm_al (i := 0) (j := r) (M := rpl M r (M 0)) h0 hr (fun c _ => by rw [rpl_n (by omega), rpl_e]), Int.mul_zero, Int.add_zero]
def elm (M : Nat → Nat → Int) (t : Nat → Int) (k : Nat) : Nat → Nat → Int := fun i c => if 0 < i ∧ i < k then M i c + t i * M 0 c else M i c
theorem elm_d {M : Nat → Nat → Int} {t : Nat → Int} {n : Nat} : ∀ k : Nat, k ≤ n → dtm n (elm M t k) = dtm n M
  | 0, _ => dtm_eq n (fun i c _ _ => if_neg (by omega))
  | k + 1, h => by
    refine Eq.trans ?_ (elm_d (M := M) (t := t) (n := n) k (by omega))
    by_cases z : k = 0
    · subst z
      exact dtm_eq n (fun i c _ _ => by
        show (if 0 < i ∧ i < 0 + 1 then _ else M i c) = (if 0 < i ∧ i < 0 then _ else M i c)
        rw [if_neg (by omega), if_neg (by omega)])
    · rw [← dtm_ra (M := elm M t k) (t := t k) (show 0 < k by omega) (show k < n by omega)]
      refine dtm_eq n (fun i c _ _ => ?_)
      by_cases e : i = k
      · rw [e, rpl_e]
        show (if 0 < k ∧ k < k + 1 then M k c + t k * M 0 c else M k c) = (if 0 < k ∧ k < k then M k c + t k * M 0 c else M k c) + t k * (if 0 < 0 ∧ 0 < k then M 0 c + t 0 * M 0 c else M 0 c)
        rw [if_pos (by omega), if_neg (by omega), if_neg (by omega)]
      · rw [rpl_n e]
        show (if 0 < i ∧ i < k + 1 then M i c + t i * M 0 c else M i c) = (if 0 < i ∧ i < k then M i c + t i * M 0 c else M i c)
        by_cases q : 0 < i ∧ i < k
        · rw [if_pos q, if_pos (by omega)]
        · rw [if_neg q, if_neg (by omega)]
/-! modulo the prime -/
def MC (a b : Int) : Prop := a % 1000000007 = b % 1000000007
theorem mc_r {a : Int} : MC a a := rfl
theorem mc_t {a b c : Int} (h : MC a b) (k : MC b c) : MC a c := Eq.trans h k
theorem mc_y {a b : Int} (h : MC a b) : MC b a := Eq.symm h
theorem mc_a {a b c d : Int} (h : MC a b) (k : MC c d) : MC (a + c) (b + d) := by
  unfold MC at *
  omega
theorem mc_n {a b : Int} (h : MC a b) : MC (-a) (-b) := by
  unfold MC at *
  omega
theorem mc_m {a b c d : Int} (h : MC a b) (k : MC c d) : MC (a * c) (b * d) := by
  unfold MC at *
  rw [Int.mul_emod a c, h, k, ← Int.mul_emod]
theorem mc_sm {f g : Nat → Int} : ∀ n : Nat, (∀ i, i < n → MC (f i) (g i)) → MC (sm f n) (sm g n)
  | 0, _ => rfl
  | n + 1, h => mc_a (mc_sm n (fun i hi => h i (by omega))) (h n (by omega))
theorem mc_d : ∀ (n : Nat) {M N : Nat → Nat → Int}, (∀ r c, r < n → c < n → MC (M r c) (N r c)) → MC (dtm n M) (dtm n N)
  | 0, _, _, _ => rfl
  | n + 1, M, N, h => by
    rw [dtm_s, dtm_s]
    refine mc_sm (n + 1) (fun i hi => mc_m (mc_m mc_r (h i 0 hi (by omega))) (mc_d n (fun r c hr hc => h _ _ (dsk_lt hr) (by omega))))
theorem mc_s0 {f : Nat → Int} : ∀ n : Nat, (∀ i, 0 < i → i < n + 1 → MC (f i) 0) → MC (sm f (n + 1)) (f 0)
  | 0, _ => by
    show MC (0 + f 0) (f 0)
    rw [Int.zero_add]
    exact mc_r
  | n + 1, h => by
    have a := mc_a (mc_s0 n (fun i h0 hi => h i h0 (by omega))) (h (n + 1) (by omega) (by omega))
    rw [Int.add_zero] at a
    exact a
theorem mc_c0 {n : Nat} {M : Nat → Nat → Int} (h : ∀ i, 0 < i → i < n + 1 → MC (M i 0) 0) : MC (dtm (n + 1) M) (M 0 0 * dtm n (fun r c => M (r + 1) (c + 1))) := by
  rw [dtm_s]
  have a := mc_s0 (f := fun i => dsg i * M i 0 * dtm n (fun r c => M (dsk i r) (c + 1))) n (fun i h0 hi => by
    have q := mc_m (mc_m (mc_r (a := dsg i)) (h i h0 hi)) (mc_r (a := dtm n (fun r c => M (dsk i r) (c + 1))))
    rw [Int.mul_zero, Int.zero_mul] at q
    exact q)
  refine mc_t a ?_
  show MC (1 * M 0 0 * dtm n (fun r c => M (dsk 0 r) (c + 1))) _
  rw [Int.one_mul]
  exact mc_r
/-- one step: row r becomes the first, the column below it is cleared -/
def dsw (M : Nat → Nat → Int) (r : Nat) : Nat → Nat → Int := if r = 0 then M else rpl (rpl M 0 (M r)) r (M 0)
theorem dsw_d {n r : Nat} {M : Nat → Nat → Int} (hr : r < n + 1) : dtm (n + 1) (dsw M r) = (if r = 0 then 1 else -1) * dtm (n + 1) M := by
  unfold dsw
  by_cases c : r = 0
  · rw [if_pos c, if_pos c, Int.one_mul]
  · rw [if_neg c, if_neg c]
    have s := dtm_swp (n := n + 1) (i := 0) (j := r) (by omega) hr (by omega) (fun N hN => dtm_al (by omega) hr hN) M (M 0) (M r)
    rw [s, rpl_id, rpl_id]
    omega
theorem dsw_0 {r c : Nat} {M : Nat → Nat → Int} : dsw M r 0 c = M r c := by
  unfold dsw
  by_cases k : r = 0
  · rw [if_pos k, k]
  · rw [if_neg k, rpl_n (fun e => k e.symm), rpl_e]
theorem dtm_piv {n r : Nat} {M N : Nat → Nat → Int} {t : Nat → Int} (hr : r < n + 1) (hz : ∀ i, 0 < i → i < n + 1 → MC (dsw M r i 0 + t i * M r 0) 0) (hN : ∀ i c, i < n → c < n → MC (N i c) (dsw M r (i + 1) (c + 1) + t (i + 1) * M r (c + 1))) : MC (dtm (n + 1) M) ((if r = 0 then 1 else -1) * M r 0 * dtm n N) := by
  have e := elm_d (M := dsw M r) (t := t) (n := n + 1) (n + 1) (Nat.le_refl _)
  have ev : ∀ i c, 0 < i → i < n + 1 → elm (dsw M r) t (n + 1) i c = dsw M r i c + t i * M r c := fun i c h0 hi => by
    show (if 0 < i ∧ i < n + 1 then _ else _) = _
    rw [if_pos ⟨h0, hi⟩, dsw_0]
  have a := mc_c0 (n := n) (M := elm (dsw M r) t (n + 1)) (fun i h0 hi => by rw [ev i 0 h0 hi]; exact hz i h0 hi)
  rw [e, dsw_d hr, show elm (dsw M r) t (n + 1) 0 0 = M r 0 from (if_neg (by omega)).trans dsw_0] at a
  have b : MC (dtm n (fun x c => elm (dsw M r) t (n + 1) (x + 1) (c + 1))) (dtm n N) := mc_d n (fun i c hi hc => by
    show MC (elm (dsw M r) t (n + 1) (i + 1) (c + 1)) (N i c)
    rw [ev _ _ (by omega) (by omega)]
    exact mc_y (hN i c hi hc))
  have s : (if r = 0 then (1 : Int) else -1) * (if r = 0 then 1 else -1) = 1 := by split <;> rfl
  have k := mc_m (mc_r (a := (if r = 0 then (1 : Int) else -1))) (mc_t a (mc_m mc_r b))
  rw [← Int.mul_assoc, s, Int.one_mul, ← Int.mul_assoc] at k
  exact k
end
section
/-! POWERS AND THE PRIME -/
def pwr (x : Int) : Nat → Int
  | 0 => 1
  | n + 1 => pwr x n * x
theorem pwr_q {x : Int} : ∀ n : Nat, pwr (x * x) n = pwr x (2 * n)
  | 0 => rfl
  | n + 1 => by
    rw [show 2 * (n + 1) = 2 * n + 1 + 1 by omega]
    show pwr (x * x) n * (x * x) = pwr x (2 * n) * x * x
    rw [pwr_q n, Int.mul_assoc]
theorem mc_pw {x y : Int} (h : MC x y) : ∀ n : Nat, MC (pwr x n) (pwr y n)
  | 0 => mc_r
  | n + 1 => mc_m (mc_pw h n) h
theorem pwr_0 : ∀ n : Nat, 0 < n → pwr 0 n = 0
  | 0, h => by omega
  | n + 1, _ => Int.mul_zero _
def bic : Nat → Nat → Nat
  | _, 0 => 1
  | 0, _ + 1 => 0
  | n + 1, k + 1 => bic n k + bic n (k + 1)
theorem bic_0 (n : Nat) : bic n 0 = 1 := by cases n <;> rfl
theorem bic_g : ∀ n k : Nat, n < k → bic n k = 0
  | _, 0, h => by omega
  | 0, _ + 1, _ => rfl
  | n + 1, k + 1, h => by
    show bic n k + bic n (k + 1) = 0
    rw [bic_g n k (by omega), bic_g n (k + 1) (by omega)]
theorem bic_n : ∀ n : Nat, bic n n = 1
  | 0 => rfl
  | n + 1 => by
    show bic n n + bic n (n + 1) = 1
    rw [bic_n n, bic_g n (n + 1) (by omega)]
theorem bic_a : ∀ n k : Nat, (k + 1) * bic (n + 1) (k + 1) = (n + 1) * bic n k
  | 0, 0 => rfl
  | 0, k + 1 => by
    show (k + 1 + 1) * (bic 0 (k + 1) + bic 0 (k + 1 + 1)) = (0 + 1) * bic 0 (k + 1)
    rw [bic_g 0 (k + 1) (by omega), bic_g 0 (k + 1 + 1) (by omega)]
    rfl
  | n + 1, 0 => by
    have e := bic_a n 0
    rw [bic_0] at e
    show (0 + 1) * (bic (n + 1) 0 + bic (n + 1) (0 + 1)) = (n + 1 + 1) * bic (n + 1) 0
    rw [bic_0]
    omega
  | n + 1, k + 1 => by
    have e1 := bic_a n k
    have e2 := bic_a n (k + 1)
    have p : bic (n + 1) (k + 1) = bic n k + bic n (k + 1) := rfl
    show (k + 1 + 1) * (bic (n + 1) (k + 1) + bic (n + 1) (k + 1 + 1)) = (n + 1 + 1) * bic (n + 1) (k + 1)
    have d1 : (k + 1 + 1) * (bic (n + 1) (k + 1) + bic (n + 1) (k + 1 + 1)) = (k + 1) * bic (n + 1) (k + 1) + bic (n + 1) (k + 1) + (k + 1 + 1) * bic (n + 1) (k + 1 + 1) := by
      rw [Nat.mul_add, Nat.succ_mul (k + 1)]
    have d2 : (n + 1 + 1) * bic (n + 1) (k + 1) = (n + 1) * bic n k + (n + 1) * bic n (k + 1) + bic (n + 1) (k + 1) := by
      rw [Nat.succ_mul (n + 1), p, Nat.mul_add]
    rw [d1, d2, e1, e2]
    omega
theorem sm_sh {f : Nat → Int} : ∀ n : Nat, sm f (n + 1) = f 0 + sm (fun k => f (k + 1)) n
  | 0 => by
    show 0 + f 0 = f 0 + 0
    omega
  | n + 1 => by
    show sm f (n + 1) + f (n + 1) = f 0 + (sm (fun k => f (k + 1)) n + f (n + 1))
    rw [sm_sh n]
    omega
theorem bic_t {a : Int} : ∀ n : Nat, pwr (a + 1) n = sm (fun k => (bic n k : Int) * pwr a k) (n + 1)
  | 0 => rfl
  | n + 1 => by
    have ih := bic_t (a := a) n
    have s1 : sm (fun k => (bic (n + 1) k : Int) * pwr a k) (n + 1 + 1) = 1 + sm (fun k => (bic n k : Int) * pwr a k * a + (bic n (k + 1) : Int) * pwr a (k + 1)) (n + 1) := by
      rw [sm_sh (n + 1)]
      show ((bic (n + 1) 0 : Nat) : Int) * 1 + _ = _
      rw [bic_0]
      refine congrArg (fun z => (1 : Int) + z) (sm_eq (n + 1) (fun k _ => ?_))
      show ((bic n k + bic n (k + 1) : Nat) : Int) * (pwr a k * a) = (bic n k : Int) * pwr a k * a + (bic n (k + 1) : Int) * (pwr a k * a)
      rw [Int.natCast_add, Int.add_mul, Int.mul_assoc]
    have s2 : sm (fun k => (bic n k : Int) * pwr a k * a + (bic n (k + 1) : Int) * pwr a (k + 1)) (n + 1) = sm (fun k => (bic n k : Int) * pwr a k * a) (n + 1) + sm (fun k => (bic n (k + 1) : Int) * pwr a (k + 1)) (n + 1) := sm_add (n + 1)
    have s3 : sm (fun k => (bic n k : Int) * pwr a k) (n + 1 + 1) = 1 + sm (fun k => (bic n (k + 1) : Int) * pwr a (k + 1)) (n + 1) := by
      rw [sm_sh (n + 1)]
      show ((bic n 0 : Nat) : Int) * 1 + _ = _
      rw [bic_0]
      rfl
    have s4 : sm (fun k => (bic n k : Int) * pwr a k) (n + 1 + 1) = sm (fun k => (bic n k : Int) * pwr a k) (n + 1) := by
      show sm (fun k => (bic n k : Int) * pwr a k) (n + 1) + (bic n (n + 1) : Int) * pwr a (n + 1) = _
      rw [bic_g n (n + 1) (by omega)]
      show _ + (0 : Int) * _ = _
      rw [Int.zero_mul, Int.add_zero]
    have s5 : ∀ m : Nat, sm (fun k => (bic n k : Int) * pwr a k * a) m = sm (fun k => (bic n k : Int) * pwr a k) m * a := fun m => by
      induction m with
      | zero => exact (Int.zero_mul a).symm
      | succ m im =>
        show sm (fun k => (bic n k : Int) * pwr a k * a) m + (bic n m : Int) * pwr a m * a = (sm (fun k => (bic n k : Int) * pwr a k) m + (bic n m : Int) * pwr a m) * a
        rw [im, Int.add_mul]
    show pwr (a + 1) n * (a + 1) = _
    rw [s1, s2, s5, ih, Int.mul_add, Int.mul_one]
    omega
theorem fer_n {p : Nat} (hp : (p : Int) = 1000000007) (hc : ∀ k, 0 < k → k < p → Nat.Coprime p k) : ∀ a : Nat, MC (pwr (a : Int) p) (a : Int)
  | 0 => by
    rw [show ((0 : Nat) : Int) = 0 from rfl, pwr_0 p (by omega)]
    exact mc_r
  | a + 1 => by
    obtain ⟨q, rfl⟩ : ∃ q, p = q + 1 := ⟨p - 1, by omega⟩
    rw [show ((a + 1 : Nat) : Int) = (a : Int) + 1 from Int.natCast_add a 1, bic_t]
    show MC (sm (fun k => (bic (q + 1) k : Int) * pwr (a : Int) k) (q + 1) + (bic (q + 1) (q + 1) : Int) * pwr (a : Int) (q + 1)) _
    have z := mc_s0 (f := fun k => (bic (q + 1) k : Int) * pwr (a : Int) k) q (fun k h0 hk => by
      have d : q + 1 ∣ bic (q + 1) k := by
        obtain ⟨j, rfl⟩ : ∃ j, k = j + 1 := ⟨k - 1, by omega⟩
        exact Nat.Coprime.dvd_of_dvd_mul_left (hc (j + 1) h0 hk) ⟨bic q j, bic_a q j⟩
      obtain ⟨m, hm⟩ := d
      show MC ((bic (q + 1) k : Int) * pwr (a : Int) k) 0
      rw [hm, Int.natCast_mul, hp, Int.mul_assoc]
      unfold MC
      omega)
    have y := mc_a z (mc_m (mc_r (a := ((bic (q + 1) (q + 1) : Nat) : Int))) (fer_n hp hc a))
    refine mc_t y ?_
    rw [bic_n]
    show MC (((bic (q + 1) 0 : Nat) : Int) * 1 + 1 * (a : Int)) ((a : Int) + 1)
    rw [bic_0, Int.one_mul]
    show MC (1 * 1 + (a : Int)) ((a : Int) + 1)
    rw [Int.add_comm]
    exact mc_r
/-! the prime -/
noncomputable def dti (b N : Nat) : Bool := Nat.rec true (fun n ih => bif Nat.beq (1000000007 % (b + n)) 0 then false else ih) N
noncomputable def dto (N : Nat) : Bool := Nat.rec true (fun m ih => bif dti (100 * m + 2) 100 then ih else false) N
theorem dti_ok {b : Nat} : ∀ N : Nat, dti b N = true → ∀ n, n < N → 1000000007 % (b + n) ≠ 0
  | 0, _, n, h => by omega
  | N + 1, h, n, hn => by
    have h2 : (bif Nat.beq (1000000007 % (b + N)) 0 then false else dti b N) = true := h
    cases c : Nat.beq (1000000007 % (b + N)) 0 with
    | true =>
      rw [c] at h2
      cases h2
    | false =>
      rw [c] at h2
      by_cases e : n = N
      · rw [e]
        intro z
        rw [z] at c
        cases c
      · exact dti_ok N h2 n (by omega)
theorem dto_ok : ∀ N : Nat, dto N = true → ∀ d, 2 ≤ d → d < 100 * N + 2 → 1000000007 % d ≠ 0
  | 0, _, d, h, k => by omega
  | N + 1, h, d, hd, hn => by
    have h2 : (bif dti (100 * N + 2) 100 then dto N else false) = true := h
    cases c : dti (100 * N + 2) 100 with
    | false =>
      rw [c] at h2
      cases h2
    | true =>
      rw [c] at h2
      by_cases e : d < 100 * N + 2
      · exact dto_ok N h2 d hd e
      · have q := dti_ok 100 c (d - (100 * N + 2)) (by omega)
        rw [show 100 * N + 2 + (d - (100 * N + 2)) = d by omega] at q
        exact q
theorem dto_p : dto 317 = true := by decide +kernel
theorem prm_c (k : Nat) (h0 : 0 < k) (hk : k < 1000000007) : Nat.Coprime 1000000007 k := by
  show Nat.gcd 1000000007 k = 1
  have d1 : Nat.gcd 1000000007 k ∣ 1000000007 := Nat.gcd_dvd_left _ _
  have g0 : 0 < Nat.gcd 1000000007 k := Nat.gcd_pos_of_pos_right _ h0
  have gk : Nat.gcd 1000000007 k ≤ k := Nat.gcd_le_right _ h0
  generalize Nat.gcd 1000000007 k = g at *
  refine Classical.byContradiction fun ne => ?_
  obtain ⟨m, hm⟩ := d1
  have sm1 : ∀ d e : Nat, 1000000007 = d * e → 1 < d → d < 31702 → False := fun d e h h1 h2 => dto_ok 317 dto_p d (by omega) (by omega) (by
    rw [h]
    exact Nat.mul_mod_right d e)
  by_cases c : g < 31702
  · exact sm1 g m hm (by omega) c
  · by_cases c2 : m < 31702
    · have m1 : 1 < m := by
        rcases m with _ | _ | m
        · omega
        · omega
        · omega
      exact sm1 m g (by rw [Nat.mul_comm]; exact hm) m1 c2
    · have b := Nat.mul_le_mul (show 31702 ≤ g by omega) (show 31702 ≤ m by omega)
      rw [← hm] at b
      exact absurd b (by decide)
theorem mc_tn (x : Int) : MC x (((x % 1000000007).toNat : Nat) : Int) := by
  unfold MC
  omega
theorem mc_can {x y : Int} (hx : ¬ MC x 0) (h : MC (x * y) 0) : MC y 0 := by
  have e := mc_t (mc_y (mc_m (mc_tn x) (mc_tn y))) h
  rw [← Int.natCast_mul] at e
  have a0 : 0 < (x % 1000000007).toNat := by
    unfold MC at hx
    omega
  have ap : (x % 1000000007).toNat < 1000000007 := by omega
  have bp : (y % 1000000007).toNat < 1000000007 := by omega
  have d : 1000000007 ∣ (x % 1000000007).toNat * (y % 1000000007).toNat := by
    unfold MC at e
    exact Nat.dvd_of_mod_eq_zero (by omega)
  have d2 : 1000000007 ∣ (y % 1000000007).toNat := Nat.Coprime.dvd_of_dvd_mul_left (prm_c _ a0 ap) d
  have z : (y % 1000000007).toNat = 0 := Nat.eq_zero_of_dvd_of_lt d2 bp
  unfold MC
  omega
theorem fer_i {p : Nat} (hp : (p : Int) = 1000000007) (x : Int) : MC (pwr x p) x := by
  have hc : ∀ k, 0 < k → k < p → Nat.Coprime p k := fun k h0 hk => by
    have e : p = 1000000007 := by omega
    subst e
    exact prm_c k h0 hk
  exact mc_t (mc_pw (mc_tn x) p) (mc_t (fer_n hp hc _) (mc_y (mc_tn x)))
theorem inv_m {p e : Nat} (hp : (p : Int) = 1000000007) (he : p = e + 2) {x : Int} (hx : ¬ MC x 0) : MC (x * pwr x e) 1 := by
  have f := fer_i hp x
  rw [he] at f
  have f2 : MC (pwr x e * x * x) x := f
  have g : MC (x * (x * pwr x e + -1)) 0 := by
    rw [Int.mul_add, show x * (x * pwr x e) = pwr x e * x * x by rw [Int.mul_comm x (x * pwr x e), Int.mul_comm x (pwr x e)]]
    have k := mc_a f2 (mc_r (a := x * -1))
    refine mc_t k ?_
    rw [show x + x * -1 = 0 by omega]
    exact mc_r
  have c := mc_a (mc_can hx g) (mc_r (a := 1))
  rw [show x * pwr x e + -1 + 1 = x * pwr x e by omega, Int.zero_add] at c
  exact c
theorem inv_x {x : Int} (hx : ¬ MC x 0) : ∃ w, MC (x * w) 1 := by
  obtain ⟨p, hp⟩ : ∃ p : Nat, p = 1000000007 := ⟨_, rfl⟩
  exact ⟨pwr x (p - 2), inv_m (p := p) (by omega) (by omega) hx⟩
/-! all rows sum up to nothing -/
theorem mc_cz {n : Nat} {M : Nat → Nat → Int} (h : ∀ i, i < n + 1 → MC (M i 0) 0) : MC (dtm (n + 1) M) 0 := by
  have a := mc_c0 (n := n) (M := M) (fun i _ hi => h i hi)
  have b := mc_m (h 0 (by omega)) (mc_r (a := dtm n (fun r c => M (r + 1) (c + 1))))
  rw [Int.zero_mul] at b
  exact mc_t a b
theorem dsw_r {n r : Nat} {M : Nat → Nat → Int} (hr : r < n) {Q : (Nat → Int) → Prop} (h : ∀ i, i < n → Q (M i)) : ∀ i, i < n → Q (dsw M r i) := fun i hi => by
  by_cases k : r = 0
  · have e : dsw M r = M := if_pos k
    rw [e]
    exact h i hi
  · have e : dsw M r = rpl (rpl M 0 (M r)) r (M 0) := if_neg k
    by_cases a : i = r
    · have e2 : dsw M r i = M 0 := by
        rw [e, a]
        funext c
        exact rpl_e
      rw [e2]
      exact h 0 (by omega)
    · by_cases b : i = 0
      · have e2 : dsw M r i = M r := by
          rw [e, b]
          funext c
          rw [rpl_n (by omega), rpl_e]
        rw [e2]
        exact h r hr
      · have e2 : dsw M r i = M i := by
          rw [e]
          funext c
          rw [rpl_n a, rpl_n b]
        rw [e2]
        exact h i hi
theorem dtm_z : ∀ (n : Nat) {M : Nat → Nat → Int}, (∀ i, i < n + 1 → MC (sm (M i) (n + 1)) 0) → MC (dtm (n + 1) M) 0
  | 0, M, h => mc_cz (fun i hi => by
    have q := h i hi
    have e : sm (M i) (0 + 1) = 0 + M i 0 := rfl
    rw [e, Int.zero_add] at q
    exact q)
  | n + 1, M, h => by
    by_cases c : ∀ i, i < n + 2 → MC (M i 0) 0
    · exact mc_cz c
    · obtain ⟨r, hr, hn⟩ : ∃ r, r < n + 2 ∧ ¬ MC (M r 0) 0 := Classical.byContradiction fun z => c (fun i hi => Classical.byContradiction fun y => z ⟨i, hi, y⟩)
      obtain ⟨w, hw⟩ := inv_x hn
      have hs : ∀ i, i < n + 2 → MC (sm (dsw M r i) (n + 2)) 0 := dsw_r (Q := fun v => MC (sm v (n + 2)) 0) hr h
      have z0 : ∀ i, MC (dsw M r i 0 + -(dsw M r i 0 * w) * M r 0) 0 := fun i => by
        have k := mc_m (mc_r (a := -(dsw M r i 0))) hw
        have e : -(dsw M r i 0 * w) * M r 0 = -(dsw M r i 0) * (M r 0 * w) := by
          rw [Int.neg_mul, Int.neg_mul, Int.mul_assoc, Int.mul_comm w]
        rw [e]
        refine mc_t (mc_a mc_r k) ?_
        rw [Int.mul_one, show dsw M r i 0 + -(dsw M r i 0) = 0 by omega]
        exact mc_r
      have p := dtm_piv (n := n + 1) (M := M) (N := fun i c => dsw M r (i + 1) (c + 1) + -(dsw M r (i + 1) 0 * w) * M r (c + 1)) (t := fun i => -(dsw M r i 0 * w)) hr (fun i _ _ => z0 i) (fun i c _ _ => mc_r)
      have q := dtm_z n (M := fun i c => dsw M r (i + 1) (c + 1) + -(dsw M r (i + 1) 0 * w) * M r (c + 1)) (fun i hi => by
        have e : sm (fun c => dsw M r (i + 1) (c + 1) + -(dsw M r (i + 1) 0 * w) * M r (c + 1)) (n + 1) = sm (fun c => dsw M r (i + 1) (c + 1)) (n + 1) + -(dsw M r (i + 1) 0 * w) * sm (fun c => M r (c + 1)) (n + 1) := by
          have l := sm_lin (f := fun c => dsw M r (i + 1) (c + 1)) (g := fun c => M r (c + 1)) (a := 1) (b := -(dsw M r (i + 1) 0 * w)) (n + 1)
          rw [Int.one_mul] at l
          rw [← l]
          exact sm_eq (n + 1) (fun k _ => by rw [Int.one_mul])
        rw [e]
        have s1 := hs (i + 1) (by omega)
        have s2 := h r hr
        rw [sm_sh (n + 1)] at s1 s2
        have s3 := mc_a s1 (mc_m (mc_r (a := -(dsw M r (i + 1) 0 * w))) s2)
        rw [Int.mul_zero, Int.add_zero, Int.mul_add] at s3
        have s4 := mc_a s3 (mc_n (z0 (i + 1)))
        rw [Int.neg_zero, Int.add_zero] at s4
        refine mc_t ?_ s4
        unfold MC
        refine congrArg (fun z => z % 1000000007) ?_
        omega)
      have k := mc_m (mc_r (a := (if r = 0 then 1 else -1) * M r 0)) q
      rw [Int.mul_zero] at k
      exact mc_t p k
/-! a Laplacian's minors -/
def eun (k c : Nat) : Int := if c = k then 1 else 0
theorem dtm_la : ∀ (n : Nat) {M : Nat → Nat → Int}, (∀ c, c < n → M n c = 0) → M n n = 1 → dtm (n + 1) M = dtm n M
  | 0, M, _, h => by
    show 0 + 1 * M 0 0 * 1 = 1
    rw [h]
    rfl
  | n + 1, M, h0, h1 => by
    rw [dtm_s, dtm_s]
    show sm (fun i => dsg i * M i 0 * dtm (n + 1) (fun r c => M (dsk i r) (c + 1))) (n + 1) + dsg (n + 1) * M (n + 1) 0 * _ = _
    rw [h0 0 (by omega), Int.mul_zero, Int.zero_mul, Int.add_zero]
    refine sm_eq (n + 1) (fun i hi => ?_)
    have e : dtm (n + 1) (fun r c => M (dsk i r) (c + 1)) = dtm n (fun r c => M (dsk i r) (c + 1)) := dtm_la n (M := fun r c => M (dsk i r) (c + 1)) (fun c hc => by
      show M (dsk i n) (c + 1) = 0
      rw [dsk_g (show i ≤ n by omega)]
      exact h0 (c + 1) (by omega)) (by
      show M (dsk i n) (n + 1) = 1
      rw [dsk_g (show i ≤ n by omega)]
      exact h1)
    rw [e]
theorem dtm_fi {n : Nat} {M : Nat → Nat → Int} (h0 : ∀ c, 0 < c → c < n + 1 → M 0 c = 0) (h1 : M 0 0 = 1) : dtm (n + 1) M = dtm n (fun i j => M (i + 1) (j + 1)) := by
  rw [dtm_s, sm_sh n, sm_0 n (fun k hk => ?_)]
  · show 1 * M 0 0 * dtm n (fun r c => M (dsk 0 r) (c + 1)) + 0 = _
    rw [h1, Int.one_mul, Int.one_mul, Int.add_zero]
    rfl
  · show dsg (k + 1) * M (k + 1) 0 * dtm n (fun r c => M (dsk (k + 1) r) (c + 1)) = 0
    rw [dtm_zr (M := fun r c => M (dsk (k + 1) r) (c + 1)) (r := 0) (by omega) (fun c hc => by
      show M (dsk (k + 1) 0) (c + 1) = 0
      rw [dsk_l (by omega)]
      exact h0 (c + 1) (by omega) (by omega)), Int.mul_zero]
theorem dtm_sb {n r : Nat} {X : Nat → Nat → Int} {v : Nat → Int} (hr : r < n) : ∀ k : Nat, k ≤ r → dtm n (rpl X r (fun c => v c + -(sm (fun i => if i = 0 then 0 else X i c) k))) = dtm n (rpl X r v)
  | 0, _ => dtm_eq n (fun i c _ _ => by
    by_cases e : i = r
    · rw [e, rpl_e, rpl_e]
      show v c + -(0 : Int) = v c
      omega
    · rw [rpl_n e, rpl_n e])
  | k + 1, h => by
    refine Eq.trans ?_ (dtm_sb (X := X) (v := v) hr k (by omega))
    by_cases z : k = 0
    · refine dtm_eq n (fun i c _ _ => ?_)
      by_cases e : i = r
      · rw [e, rpl_e, rpl_e]
        show v c + -(sm (fun i => if i = 0 then 0 else X i c) k + (if k = 0 then 0 else X k c)) = _
        rw [if_pos z, Int.add_zero]
      · rw [rpl_n e, rpl_n e]
    · have a := dtm_lin n (M := X) (u := fun c => v c + -(sm (fun i => if i = 0 then 0 else X i c) k)) (v := X k) (a := 1) (b := -1) hr
      rw [dtm_al (i := k) (j := r) (M := rpl X r (X k)) (by omega) hr (fun c _ => by rw [rpl_n (by omega), rpl_e]), Int.mul_zero, Int.add_zero, Int.one_mul] at a
      rw [← a]
      refine dtm_eq n (fun i c _ _ => ?_)
      by_cases e : i = r
      · rw [e, rpl_e, rpl_e]
        show v c + -(sm (fun i => if i = 0 then 0 else X i c) k + (if k = 0 then 0 else X k c)) = 1 * (v c + -(sm (fun i => if i = 0 then 0 else X i c) k)) + -1 * X k c
        rw [if_neg z, Int.one_mul]
        omega
      · rw [rpl_n e, rpl_n e]
theorem lap_m {n : Nat} {L : Nat → Nat → Int} (hr : ∀ i, i < n + 1 → MC (sm (L i) (n + 1)) 0) (hc : ∀ c, c < n + 1 → MC (sm (fun i => L i c) (n + 1)) 0) : MC (dtm n L) (dtm n (fun i j => L (i + 1) (j + 1))) := by
  rcases n with _ | n
  · exact mc_r
  · have a : dtm (n + 2) (rpl L (n + 1) (eun (n + 1))) = dtm (n + 1) L := by
      rw [dtm_la (n + 1) (M := rpl L (n + 1) (eun (n + 1))) (fun c hc => by rw [rpl_e]; exact if_neg (by omega)) (by rw [rpl_e]; exact if_pos rfl)]
      exact dtm_eq (n + 1) (fun i c hi _ => rpl_n (by omega))
    have b : dtm (n + 2) (rpl L 0 (eun 0)) = dtm (n + 1) (fun i j => L (i + 1) (j + 1)) := by
      rw [dtm_fi (M := rpl L 0 (eun 0)) (fun c h0 _ => by rw [rpl_e]; exact if_neg (by omega)) (by rw [rpl_e]; exact if_pos rfl)]
      exact dtm_eq (n + 1) (fun i c _ _ => rpl_n (by omega))
    have c1 : MC (dtm (n + 2) (rpl L 0 (eun 0))) (dtm (n + 2) (rpl (rpl L 0 (eun 0)) (n + 1) (fun c => -1 * L 0 c + -(sm (fun i => if i = 0 then 0 else rpl L 0 (eun 0) i c) (n + 1))))) := mc_d (n + 2) (fun i c hi hcc => by
      by_cases e : i = n + 1
      · rw [e, rpl_e, rpl_n (by omega)]
        have s := hc c hcc
        rw [sm_s, sm_sh n] at s
        have s2 : sm (fun i => if i = 0 then 0 else rpl L 0 (eun 0) i c) (n + 1) = sm (fun k => L (k + 1) c) n := by
          rw [sm_sh n]
          show 0 + sm (fun k => if k + 1 = 0 then 0 else rpl L 0 (eun 0) (k + 1) c) n = _
          rw [Int.zero_add]
          exact sm_eq n (fun k _ => by rw [if_neg (by omega), rpl_n (by omega)])
        rw [s2]
        unfold MC at s ⊢
        omega
      · rw [rpl_n e]
        exact mc_r)
    rw [dtm_sb (by omega) (n + 1) (Nat.le_refl _), dtm_mul (by omega)] at c1
    have d : dtm (n + 2) (rpl (rpl L 0 (eun 0)) (n + 1) (L 0)) = -dtm (n + 2) (rpl (rpl L 0 (L 0)) (n + 1) (eun 0)) := dtm_swp (by omega) (by omega) (by omega) (fun N hN => dtm_al (by omega) (by omega) hN) L (L 0) (eun 0)
    rw [rpl_id] at d
    have e := dtm_lin (n + 2) (M := L) (r := n + 1) (u := eun 0) (v := eun (n + 1)) (a := 1) (b := -1) (by omega)
    have z : MC (dtm (n + 2) (rpl L (n + 1) (fun c => 1 * eun 0 c + -1 * eun (n + 1) c))) 0 := dtm_z (n + 1) (fun i hi => by
      by_cases k : i = n + 1
      · have q : rpl L (n + 1) (fun c => 1 * eun 0 c + -1 * eun (n + 1) c) i = fun c => 1 * eun 0 c + -1 * eun (n + 1) c := by
          funext c
          rw [k, rpl_e]
        rw [q, sm_lin, sm_sh (n + 1), sm_0 (n + 1) (f := fun k => eun 0 (k + 1)) (fun k _ => if_neg (by omega)), sm_s, sm_0 (n + 1) (f := eun (n + 1)) (fun k hk => if_neg (by omega))]
        show MC (1 * (1 + 0) + -1 * (0 + (if n + 1 = n + 1 then 1 else 0))) 0
        rw [if_pos rfl]
        exact mc_r
      · have q : rpl L (n + 1) (fun c => 1 * eun 0 c + -1 * eun (n + 1) c) i = L i := by
          funext c
          rw [rpl_n k]
        rw [q]
        exact hr i hi)
    rw [e, a] at z
    rw [b, d] at c1
    unfold MC at z c1 ⊢
    omega
end
section
/-! SPANNING TREES COUNTED -/
/-- a power by squares: v x^k is what is sought -/
theorem ix32 {z m a b : Int32} (hm : m.toInt = 32 * a.toInt) (hz : z.toInt = m.toInt + b.toInt) (ha : 0 ≤ a.toInt) (hb : 0 ≤ b.toInt) : z.toNatClampNeg = 32 * a.toNatClampNeg + b.toNatClampNeg := by
  show z.toInt.toNat = 32 * a.toInt.toNat + b.toInt.toNat
  omega
def PWX (b e v x k : Int) : Prop := (0 ≤ v ∧ v < 1000000007) ∧ (0 ≤ x ∧ x < 1000000007) ∧ 0 ≤ k ∧ MC (v * pwr x k.toNat) (pwr b e.toNat)
section PW
variable {b e v x k v2 x2 k2 : Int}
theorem pwi_0 (hb : 0 ≤ b ∧ b < 1000000007) (he : 0 ≤ e) : PWX b e 1 b e := ⟨by omega, hb, he, by rw [Int.one_mul]; exact mc_r⟩
theorem mc_e (a : Int) : MC (a % 1000000007) a := by
  unfold MC
  omega
theorem pwi_a (h : PWX b e v x k) (hk : 0 < k) (h1 : k % 2 = 1) (hv : v2 = v * x % 1000000007) (hx : x2 = x * x % 1000000007) (h2 : k2 = k / 2) : PWX b e v2 x2 k2 := by
  obtain ⟨a1, a2, a3, a4⟩ := h
  refine ⟨by omega, by omega, by omega, mc_t ?_ a4⟩
  rw [hv, hx, show k.toNat = 2 * k2.toNat + 1 by omega]
  refine mc_t (mc_m (mc_e _) (mc_pw (mc_e _) _)) ?_
  rw [pwr_q]
  show MC (v * x * pwr x (2 * k2.toNat)) (v * (pwr x (2 * k2.toNat) * x))
  rw [Int.mul_assoc, Int.mul_comm x]
  exact mc_r
theorem pwi_b (h : PWX b e v x k) (hk : 0 < k) (h1 : k % 2 = 0) (hx : x2 = x * x % 1000000007) (h2 : k2 = k / 2) : PWX b e v x2 k2 := by
  obtain ⟨a1, a2, a3, a4⟩ := h
  refine ⟨a1, by omega, by omega, mc_t ?_ a4⟩
  rw [hx, show k.toNat = 2 * k2.toNat by omega]
  refine mc_t (mc_m mc_r (mc_pw (mc_e _) _)) ?_
  rw [pwr_q]
  exact mc_r
theorem pwi_e (h : PWX b e v x k) (hk : k ≤ 0) : (0 ≤ v ∧ v < 1000000007) ∧ MC v (pwr b e.toNat) := by
  obtain ⟨a1, a2, a3, a4⟩ := h
  rw [show k.toNat = 0 by omega] at a4
  have e1 : v * pwr x 0 = v := Int.mul_one v
  rw [e1] at a4
  exact ⟨a1, a4⟩
end PW
theorem mul_b {a b : Int} (ha : 0 ≤ a ∧ a ≤ 1000000007) (hb : 0 ≤ b ∧ b ≤ 1000000007) : 0 ≤ a * b ∧ a * b ≤ 1000000014000000049 := by
  refine ⟨Int.mul_nonneg ha.1 hb.1, ?_⟩
  have h1 := Int.mul_le_mul_of_nonneg_right ha.2 hb.1
  have h2 : (1000000007 : Int) * b ≤ 1000000007 * 1000000007 := Int.mul_le_mul_of_nonneg_left hb.2 (by omega)
  omega
theorem inv_w {x w : Int} {y : Int64} (hy : y.toInt = 1000000005) (hx : ¬ MC x 0) (h : MC w (pwr x y.toInt.toNat)) : MC (x * w) 1 := mc_t (mc_m mc_r h) (inv_m (p := y.toInt.toNat + 2) (by omega) rfl hx)
theorem mc_nz {x : Int} (h : x ≠ 0) (h0 : 0 ≤ x ∧ x < 1000000007) : ¬ MC x 0 := by
  unfold MC
  omega
/-- the product so far -/
theorem cnt_s {v u v2 a b D : Int} (h : MC (v * a) D) (hp : MC a (u * b)) (h2 : v2 = v * u % 1000000007) : MC (v2 * b) D := by
  refine mc_t (mc_m (show MC v2 (v * u) by rw [h2]; exact mc_e _) mc_r) ?_
  rw [Int.mul_assoc]
  exact mc_t (mc_m mc_r (mc_y hp)) h
theorem cnt_0 {v a D : Int} (h : MC (v * a) D) (hv : v = 0) : MC v D := by
  rw [hv, Int.zero_mul] at h
  rw [hv]
  exact h
/-! floors -/
theorem xor_np {x z : Int64} (e : z = x ^^^ Int64.ofInt 1000000007) : z.toInt < 0 ↔ x.toInt < 0 := by
  have h1 := BitVec.msb_eq_toInt (x := z.toBitVec)
  have h2 := BitVec.msb_eq_toInt (x := x.toBitVec)
  have h3 : z.toBitVec.msb = x.toBitVec.msb := by
    rw [e, Int64.toBitVec_xor, BitVec.msb_xor, show (Int64.ofInt 1000000007).toBitVec.msb = false from rfl, Bool.xor_false]
  rw [h1, h2] at h3
  have h4 : (z.toInt < 0) = (x.toInt < 0) := by
    have a : decide (z.toInt < 0) = decide (x.toInt < 0) := h3
    exact decide_eq_decide.mp a |> propext
  rw [h4]
theorem rem_p {x z : Int64} (e : z = x - x / Int64.ofInt 1000000007 * Int64.ofInt 1000000007) (h0 : x.toInt < 0) (h1 : -4000000000000000000 ≤ x.toInt) : MC z.toInt x.toInt ∧ -1000000007 < z.toInt ∧ z.toInt ≤ 0 := by
  have k : (Int64.ofInt 1000000007).toInt = 1000000007 := rfl
  have d : (x / Int64.ofInt 1000000007).toInt = -((-x.toInt) / 1000000007) := by
    obtain ⟨a, ha⟩ : ∃ a : Int, x.toInt = -a := ⟨-x.toInt, by omega⟩
    rw [Int64.toInt_div, k, ha, Int.neg_tdiv, Int.tdiv_eq_ediv_of_nonneg (by omega), Int.neg_neg]
    exact Int.bmod_eq_of_le (by omega) (by omega)
  have m : (x / Int64.ofInt 1000000007 * Int64.ofInt 1000000007).toInt = -((-x.toInt) / 1000000007) * 1000000007 := by
    rw [lmul_t rfl (by rw [d, k]; omega) (by rw [d, k]; omega), d, k]
  have s := lsub_t e (by rw [m]; omega) (by rw [m]; omega)
  rw [m] at s
  unfold MC
  omega
theorem flm_1 {x z w : Int64} (e : z = x - x / Int64.ofInt 1000000007 * Int64.ofInt 1000000007) (ew : w = x ^^^ Int64.ofInt 1000000007) (hw : 0 ≤ w.toInt) (h1 : x.toInt ≤ 4000000000000000000) : MC z.toInt x.toInt ∧ 0 ≤ z.toInt ∧ z.toInt < 1000000007 := by
  have n : ¬ x.toInt < 0 := fun q => by
    have := (xor_np ew).mpr q
    omega
  have v := lrem_v e (by omega) h1
  refine ⟨by rw [v]; exact mc_e _, by omega, by omega⟩
theorem flm_2 {x z w : Int64} (e : z = x - x / Int64.ofInt 1000000007 * Int64.ofInt 1000000007) (ew : w = x ^^^ Int64.ofInt 1000000007) (hw : w.toInt < 0) (h1 : -4000000000000000000 ≤ x.toInt) (hz : z.toInt = 0) : MC z.toInt x.toInt ∧ 0 ≤ z.toInt ∧ z.toInt < 1000000007 := by
  have v := rem_p e ((xor_np ew).mp hw) h1
  exact ⟨v.1, by omega, by omega⟩
theorem flm_3 {x z w y : Int64} (e : z = x - x / Int64.ofInt 1000000007 * Int64.ofInt 1000000007) (ew : w = x ^^^ Int64.ofInt 1000000007) (hw : w.toInt < 0) (h1 : -4000000000000000000 ≤ x.toInt) (hz : z.toInt ≠ 0) (ey : y = z + Int64.ofInt 1000000007) : MC y.toInt x.toInt ∧ 0 ≤ y.toInt ∧ y.toInt < 1000000007 := by
  have v := rem_p e ((xor_np ew).mp hw) h1
  have k : (Int64.ofInt 1000000007).toInt = 1000000007 := rfl
  have t := ladd_t ey (by omega) (by omega)
  rw [k] at t
  have v1 := v.1
  refine ⟨?_, by omega, by omega⟩
  unfold MC at v1 ⊢
  omega
theorem lsr_1 {x z : Int64} (hz : z = x >>> ((Int32.ofInt 1).toInt64 &&& 63)) : z.toInt = x.toInt / 2 := by
  rw [hz]
  show (x.toBitVec.sshiftRight' (((Int32.ofInt 1).toInt64 &&& 63).toBitVec.smod 64#64)).toInt = x.toBitVec.toInt / 2
  rw [show (((Int32.ofInt 1).toInt64 &&& 63).toBitVec.smod 64#64) = 1#64 from (by decide +kernel), BitVec.sshiftRight_eq', BitVec.toInt_sshiftRight, Int.shiftRight_eq_div_pow]
  rfl
theorem lan_2 {z w : Int64} (hw : w = z &&& Int64.ofInt 1) : w.toInt = z.toInt % 2 := by
  have e : w.toBitVec.toNat = z.toBitVec.toNat % 2 := by
    rw [hw]
    show (z.toBitVec &&& (Int64.ofInt 1).toBitVec).toNat = _
    rw [BitVec.toNat_and, show (Int64.ofInt 1).toBitVec.toNat = 2 ^ 1 - 1 from (by decide +kernel), Nat.and_two_pow_sub_one_eq_mod]
  have a := BitVec.toInt_eq_toNat_cond z.toBitVec
  have b := BitVec.toInt_eq_toNat_cond w.toBitVec
  rw [e, if_pos (by omega)] at b
  show w.toBitVec.toInt = z.toBitVec.toInt % 2
  rw [b, a]
  split <;> omega
/-! rows of 32 -/
def gat (f : Nat → Int64) (i j : Nat) : Int := (f (32 * i + j)).toInt
def tmx (f : Nat → Int64) (a : Nat) : Nat → Nat → Int := fun i j => gat f (a + i) (a + j)
def GRD (f : Nat → Int64) : Prop := ∀ k, k < 1024 → 0 ≤ (f k).toInt ∧ (f k).toInt < 1000000007
def swf (f : Nat → Int64) (a b : Nat) : Nat → Int64 := fun k => if k / 32 = a then f (32 * b + k % 32) else if k / 32 = b then f (32 * a + k % 32) else f k
theorem grd_u {f : Nat → Int64} {k : Nat} {z : Int64} (h : GRD f) (hz : 0 ≤ z.toInt ∧ z.toInt < 1000000007) : GRD (vp_updL f k z) := fun j hj => by
  by_cases c : j = k
  · rw [c, vp_at]; exact hz
  · rw [vp_ne c]; exact h j hj
theorem grd_g {f : Nat → Int64} (h : GRD f) {i j : Nat} (hi : i < 32) (hj : j < 32) : 0 ≤ gat f i j ∧ gat f i j < 1000000007 := h _ (by omega)
section SW
variable {f : Nat → Int64} {a b i j : Nat}
theorem swf_i (hj : j < 32) : gat (swf f a b) i j = if i = a then gat f b j else if i = b then gat f a j else gat f i j := by
  show (swf f a b (32 * i + j)).toInt = _
  unfold swf
  rw [show (32 * i + j) / 32 = i by omega, show (32 * i + j) % 32 = j by omega]
  by_cases c : i = a
  · rw [if_pos c, if_pos c]; rfl
  · rw [if_neg c, if_neg c]
    by_cases d : i = b
    · rw [if_pos d, if_pos d]; rfl
    · rw [if_neg d, if_neg d]; rfl
theorem grd_w (h : GRD f) (ha : a < 32) (hb : b < 32) : GRD (swf f a b) := fun k hk => by
  unfold swf
  split
  · exact h _ (by omega)
  · split
    · exact h _ (by omega)
    · exact h k hk
theorem swf_s (h : a = b) : swf f a b = f := by
  funext k
  unfold swf
  by_cases c : k / 32 = a
  · rw [if_pos c, show 32 * b + k % 32 = k by omega]
  · rw [if_neg c, if_neg (by omega)]
theorem gat_cg {g : Nat → Int64} (h : ∀ k, k < 1024 → g k = f k) (hi : i < 32) (hj : j < 32) : gat g i j = gat f i j := congrArg Int64.toInt (h _ (by omega))
theorem grd_cg {g : Nat → Int64} (h : ∀ k, k < 1024 → g k = f k) (hf : GRD f) : GRD g := fun k hk => by rw [h k hk]; exact hf k hk
/-- while two rows change places: below column m they have -/
def SWI (f0 f : Nat → Int64) (a b m : Nat) : Prop := ∀ k, k < 1024 → f k = if k % 32 < m then swf f0 a b k else f0 k
theorem swi_0 : SWI f f a b 0 := fun k _ => (if_neg (by omega)).symm
theorem swi_e {g : Nat → Int64} {n : Nat} (h : SWI f g a b n) (hn : 32 ≤ n) : ∀ k, k < 1024 → g k = swf f a b k := fun k hk => (h k hk).trans (if_pos (by omega))
theorem swi_s {g : Nat → Int64} {m p q : Nat} {x y : Int64} (h : SWI f g a b m) (hm : m < 32) (ha : a < 32) (hb : b < 32) (hab : a ≠ b) (hp : p = 32 * a + m) (hq : q = 32 * b + m) (hx : x = g p) (hy : y = g q) : SWI f (vp_updL (vp_updL g p y) q x) a b (m + 1) := fun k hk => by
  have ep : x = f (32 * a + m) := by rw [hx, h p (by omega), if_neg (by omega), hp]
  have eq : y = f (32 * b + m) := by rw [hy, h q (by omega), if_neg (by omega), hq]
  by_cases c1 : k = q
  · rw [c1, vp_at, if_pos (by omega)]
    unfold swf
    rw [if_neg (by omega), if_pos (by omega), ep]
    exact congrArg f (by omega)
  · rw [vp_ne c1]
    by_cases c2 : k = p
    · rw [c2, vp_at, if_pos (by omega)]
      unfold swf
      rw [if_pos (by omega), eq]
      exact congrArg f (by omega)
    · rw [vp_ne c2, h k hk]
      by_cases c3 : k % 32 < m
      · rw [if_pos c3, if_pos (by omega)]
      · rw [if_neg c3]
        by_cases c4 : k % 32 < m + 1
        · rw [if_pos c4]
          unfold swf
          rw [if_neg (by omega), if_neg (by omega)]
        · rw [if_neg c4]
/-- the matrix from row and column c on, with row r put first -/
theorem dsw_t {c r : Nat} (hr : c ≤ r) (hc : c + j < 32) : dsw (tmx f c) (r - c) i j = gat (swf f r c) (c + i) (c + j) := by
  rw [swf_i hc]
  unfold dsw
  by_cases e : r - c = 0
  · rw [if_pos e]
    show gat f (c + i) (c + j) = _
    by_cases d : c + i = r
    · rw [if_pos d]
      exact congrArg (fun z => gat f z (c + j)) (show c + i = c by omega)
    · rw [if_neg d, if_neg (by omega)]
  · rw [if_neg e]
    by_cases d : c + i = r
    · rw [if_pos d, show i = r - c by omega, rpl_e]
      rfl
    · rw [if_neg d, rpl_n (by omega)]
      by_cases d2 : c + i = c
      · rw [if_pos d2, show i = 0 by omega, rpl_e]
        exact congrArg (fun z => gat f z (c + j)) (by omega)
      · rw [if_neg d2, rpl_n (by omega)]
        rfl
end SW
/-! one step of the elimination -/
def tms (f : Nat → Int64) (w : Int) (c i : Nat) : Int := (1000000007 - gat f i c) * w % 1000000007
def PVC (c z r y i j : Nat) : Prop := (c < i ∧ i < r ∧ c ≤ j ∧ j < z) ∨ (i = r ∧ c ≤ j ∧ j < y)
def PVJ (f1 f : Nat → Int64) (c z r y : Nat) (w : Int) : Prop := ∀ i j, i < 32 → j < 32 → (PVC c z r y i j → MC (gat f i j) (gat f1 i j + tms f1 w c i * gat f1 c j)) ∧ (¬ PVC c z r y i j → gat f i j = gat f1 i j)
section PV
variable {f1 f : Nat → Int64} {c z r y : Nat} {w : Int}
theorem pvj_0 (hr : r = c + 1) (hf : ∀ k, k < 1024 → f k = f1 k) : PVJ f1 f c z r c w := fun i j hi hj => ⟨fun h => by unfold PVC at h; omega, fun _ => gat_cg hf hi hj⟩
theorem pvj_s {k : Nat} {x : Int64} (h : PVJ f1 f c z r y w) (hc : c < r) (hr : r < 32) (hy : y < 32) (hcy : c ≤ y) (hk : k = 32 * r + y) (hx : MC x.toInt (gat f r y + tms f1 w c r * gat f c y)) : PVJ f1 (vp_updL f k x) c z r (y + 1) w := fun i j hi hj => by
  have e1 : gat f r y = gat f1 r y := (h r y hr hy).2 (by unfold PVC; omega)
  have e2 : gat f c y = gat f1 c y := (h c y (by omega) hy).2 (by unfold PVC; omega)
  by_cases q : i = r ∧ j = y
  · obtain ⟨rfl, rfl⟩ := q
    have e3 : gat (vp_updL f k x) i j = x.toInt := by
      show (vp_updL f k x (32 * i + j)).toInt = _
      rw [← hk, vp_at]
    rw [e1, e2] at hx
    rw [e3]
    exact ⟨fun _ => hx, fun n => absurd (show PVC c z i (j + 1) i j by unfold PVC; omega) n⟩
  · have e3 : gat (vp_updL f k x) i j = gat f i j := congrArg Int64.toInt (vp_ne (by omega))
    rw [e3]
    have g := h i j hi hj
    exact ⟨fun p => g.1 (by unfold PVC at *; omega), fun p => g.2 (by unfold PVC at *; omega)⟩
theorem pvj_e {r2 : Nat} (h : PVJ f1 f c z r y w) (hc : c < r) (hy : c ≤ y) (hyz : y ≤ z) (he : y = z ∨ tms f1 w c r = 0) (h2 : r2 = r + 1) : PVJ f1 f c z r2 c w := fun i j hi hj => by
  have g := h i j hi hj
  refine ⟨fun p => ?_, fun p => g.2 (by unfold PVC at *; omega)⟩
  by_cases q : PVC c z r y i j
  · exact g.1 q
  · rcases he with he | he
    · exact absurd (by unfold PVC at *; omega) q
    · have e : i = r := by unfold PVC at *; omega
      rw [g.2 q, e, he, Int.zero_mul, Int.add_zero]
      exact mc_r
/-- the step's end -/
theorem pvj_d {f0 : Nat → Int64} {q : Nat} (h : PVJ f1 f c z r c w) (hr : z ≤ r) (hz : z ≤ 32) (hcz : c < z) (hq : c ≤ q) (hqz : q < z) (e1 : ∀ i j, i < 32 → j < z → gat f1 i j = gat (swf f0 q c) i j) (hw : MC (gat f1 c c * w) 1) : MC (dtm (z - c) (tmx f0 c)) ((if q - c = 0 then 1 else -1) * gat f1 c c * dtm (z - c - 1) (tmx f (c + 1))) := by
  have t0 : tmx f0 c (q - c) 0 = gat f1 c c := by
    rw [e1 c c (by omega) (by omega), swf_i (by omega)]
    show gat f0 (c + (q - c)) (c + 0) = _
    by_cases k : c = q
    · rw [if_pos k]
      exact congrArg (fun x => gat f0 x c) (by omega)
    · rw [if_neg k, if_pos rfl]
      exact congrArg (fun x => gat f0 x c) (by omega)
  have tj : ∀ j, c + j < z → tmx f0 c (q - c) j = gat f1 c (c + j) := fun j hj => by
    rw [e1 c (c + j) (by omega) hj, swf_i (by omega)]
    show gat f0 (c + (q - c)) (c + j) = _
    by_cases k : c = q
    · rw [if_pos k]
      exact congrArg (fun x => gat f0 x (c + j)) (by omega)
    · rw [if_neg k, if_pos rfl]
      exact congrArg (fun x => gat f0 x (c + j)) (by omega)
  have d1 : ∀ i j, c + i < 32 → c + j < z → dsw (tmx f0 c) (q - c) i j = gat f1 (c + i) (c + j) := fun i j hi hj => by
    rw [dsw_t hq (by omega)]
    exact (e1 (c + i) (c + j) hi hj).symm
  have p := dtm_piv (n := z - c - 1) (r := q - c) (M := tmx f0 c) (N := tmx f (c + 1)) (t := fun i => tms f1 w c (c + i)) (by omega) (fun i h0 hi => by
    show MC (dsw (tmx f0 c) (q - c) i 0 + tms f1 w c (c + i) * tmx f0 c (q - c) 0) 0
    rw [d1 i 0 (by omega) (by omega), t0, Nat.add_zero]
    have k1 : MC (tms f1 w c (c + i) * gat f1 c c) (-(gat f1 (c + i) c)) := by
      refine mc_t (mc_m (mc_t (mc_e _) (mc_m (show MC (1000000007 - gat f1 (c + i) c) (-(gat f1 (c + i) c)) by unfold MC; omega) mc_r)) mc_r) ?_
      rw [Int.mul_assoc, Int.mul_comm w]
      have k2 := mc_m (mc_r (a := -(gat f1 (c + i) c))) hw
      rw [Int.mul_one] at k2
      exact k2
    refine mc_t (mc_a mc_r k1) ?_
    rw [show gat f1 (c + i) c + -(gat f1 (c + i) c) = 0 by omega]
    exact mc_r) (fun i j hi hj => by
    show MC (gat f (c + 1 + i) (c + 1 + j)) (dsw (tmx f0 c) (q - c) (i + 1) (j + 1) + tms f1 w c (c + (i + 1)) * tmx f0 c (q - c) (j + 1))
    rw [d1 (i + 1) (j + 1) (by omega) (by omega), tj (j + 1) (by omega), show c + (i + 1) = c + 1 + i by omega, show c + (j + 1) = c + 1 + j by omega]
    exact (h _ _ (by omega) (by omega)).1 (by unfold PVC; omega))
  rw [show z - c - 1 + 1 = z - c by omega, t0] at p
  exact p
theorem tms_y {i : Nat} {v : Int} (h : v = gat f1 i c * w % 1000000007) : MC (1000000007 - v) (tms f1 w c i) := by
  unfold tms
  rw [h, Int.sub_mul]
  unfold MC
  omega
/-- two rows have changed places, as far as column n -/
def swg (f : Nat → Int64) (a b n : Nat) : Nat → Int64 := fun k => if k % 32 < n then swf f a b k else f k
theorem swg_c {f0 : Nat → Int64} {a b n i j : Nat} (hj : j < n) (h32 : n ≤ 32) : gat (swg f0 a b n) i j = gat (swf f0 a b) i j := by
  show (swg f0 a b n (32 * i + j)).toInt = (swf f0 a b (32 * i + j)).toInt
  unfold swg
  rw [if_pos (by omega)]
theorem swg_i {f0 : Nat → Int64} {a b n : Nat} (h : SWI f0 f a b n) : ∀ k, k < 1024 → f k = swg f0 a b n k := h
theorem swg_s {f0 : Nat → Int64} {a b n m : Nat} (h : SWI f0 f a b m) (e : a = b) : ∀ k, k < 1024 → f k = swg f0 a b n k := fun k hk => by
  have q := h k hk
  unfold swg
  rw [swf_s e] at q ⊢
  rw [q]
  split <;> split <;> rfl
theorem grd_v {f0 : Nat → Int64} {a b n : Nat} (h : GRD f0) (ha : a < 32) (hb : b < 32) : GRD (swg f0 a b n) := fun k hk => by
  unfold swg
  split
  · exact grd_w h ha hb k hk
  · exact h k hk
/-- the reference's product behind a step -/
theorem pvj_p {f0 : Nat → Int64} {q : Nat} {u v D : Int} (h : PVJ (swg f0 q c z) f c z r c w) (hr : z ≤ r) (hz : z ≤ 32) (hcz : c < z) (hq : c ≤ q) (hqz : q < z) (hw : MC (gat (swg f0 q c z) c c * w) 1) (hu : MC (u * dtm (z - c) (tmx f0 c)) D) (hv : MC v (u * ((if q - c = 0 then 1 else -1) * gat (swg f0 q c z) c c))) : MC (v * dtm (z - c - 1) (tmx f (c + 1))) D := by
  have d := pvj_d h hr hz hcz hq hqz (fun i j _ hj => swg_c hj hz) hw
  refine mc_t (mc_m hv mc_r) ?_
  rw [Int.mul_assoc]
  exact mc_t (mc_m mc_r (mc_y d)) hu
theorem prd_1 {u v g : Int} {q c : Nat} (e : q = c) (h : v = u * g % 1000000007) : MC v (u * ((if q - c = 0 then 1 else -1) * g)) := by
  rw [if_pos (by omega), Int.one_mul, h]
  exact mc_e _
theorem prd_2 {u v x g : Int} {q c : Nat} (e : ¬ q = c) (hq : c ≤ q) (hx : x = (1000000007 - u) % 1000000007) (h : v = x * g % 1000000007) : MC v (u * ((if q - c = 0 then 1 else -1) * g)) := by
  rw [if_neg (by omega), h, show u * (-1 * g) = -u * g by rw [Int.neg_mul, Int.neg_mul, Int.one_mul, Int.mul_neg]]
  refine mc_t (mc_e _) (mc_m ?_ mc_r)
  rw [hx]
  unfold MC
  omega
theorem pvz_0 {f0 : Nat → Int64} {u D : Int} (hcz : c < z) (h : ∀ i : Nat, c ≤ i → i < z → gat f0 i c = 0) (hu : MC (u * dtm (z - c) (tmx f0 c)) D) : MC 0 D := by
  have a : MC (dtm (z - c) (tmx f0 c)) 0 := by
    rw [show z - c = z - c - 1 + 1 by omega]
    exact mc_cz (fun i hi => by
      show MC (gat f0 (c + i) (c + 0)) 0
      rw [Nat.add_zero, h (c + i) (by omega) (by omega)]
      exact mc_r)
  have b := mc_m (mc_r (a := u)) a
  rw [Int.mul_zero] at b
  exact mc_t (mc_y b) hu
/-- what a step leaves -/
def PVP (f0 f : Nat → Int64) (c z : Nat) (v : Int) : Prop := GRD f ∧ (0 ≤ v ∧ v ≤ 1000000007) ∧ MC (dtm (z - c) (tmx f0 c)) (v * dtm (z - c - 1) (tmx f (c + 1)))
theorem pvp_0 {f0 : Nat → Int64} (hg : GRD f) (hcz : c < z) (h : ∀ i : Nat, c ≤ i → i < z → gat f0 i c = 0) : PVP f0 f c z 0 := by
  refine ⟨hg, by omega, ?_⟩
  rw [Int.zero_mul, show z - c = z - c - 1 + 1 by omega]
  exact mc_cz (fun i hi => by
    show MC (gat f0 (c + i) (c + 0)) 0
    rw [Nat.add_zero, h (c + i) (by omega) (by omega)]
    exact mc_r)
theorem pvp_y {f0 : Nat → Int64} {q : Nat} {v : Int} (hg : GRD f) (h : PVJ f1 f c z r c w) (hr : z ≤ r) (hz : z ≤ 32) (hcz : c < z) (hq : c ≤ q) (hqz : q < z) (e1 : ∀ i j, i < 32 → j < z → gat f1 i j = gat (swf f0 q c) i j) (hw : MC (gat f1 c c * w) 1) (hv : 0 ≤ v ∧ v ≤ 1000000007) (hs : (q = c ∧ v = gat f1 c c) ∨ (q ≠ c ∧ v = 1000000007 - gat f1 c c)) : PVP f0 f c z v := by
  refine ⟨hg, hv, mc_t (pvj_d h hr hz hcz hq hqz e1 hw) (mc_m ?_ mc_r)⟩
  rcases hs with ⟨a, b⟩ | ⟨a, b⟩
  · rw [if_pos (by omega), Int.one_mul, b]
    exact mc_r
  · rw [if_neg (by omega), b]
    unfold MC
    omega
end PV
/-! the Laplacian -/
def jvq (g : GVW) (p i : Nat) : Int := (if ARE g 0 p = (i : Int) then 1 else 0) - (if ARE g 1 p = (i : Int) then 1 else 0)
def lpx (g : GVW) (m i j : Nat) : Int := sm (fun p => jvq g p i * jvq g p j) m
def LPX (g : GVW) (f : Nat → Int64) (m : Nat) : Prop := ∀ i j, i < 32 → j < 32 → MC (gat f i j) (lpx g m i j) ∧ -(1000000007 * (m : Int)) ≤ gat f i j ∧ gat f i j ≤ 1000000007 * (m : Int)
section LP
variable {g : GVW} {f : Nat → Int64} {m a b : Nat}
theorem jvq_v {p i : Nat} (h0 : ARE g 0 p = (a : Int)) (h1 : ARE g 1 p = (b : Int)) : jvq g p i = (if i = a then 1 else 0) - (if i = b then 1 else 0) := by
  unfold jvq
  rw [h0, h1]
  by_cases c : i = a <;> by_cases d : i = b
  · rw [if_pos (by omega), if_pos (by omega), if_pos c, if_pos d]
  · rw [if_pos (by omega), if_neg (by omega), if_pos c, if_neg d]
  · rw [if_neg (by omega), if_pos (by omega), if_neg c, if_pos d]
  · rw [if_neg (by omega), if_neg (by omega), if_neg c, if_neg d]
theorem lpx_n (h : LPX g f m) (hj : ∀ i : Nat, i < 32 → jvq g m i = 0) : LPX g f (m + 1) := fun i j hi hj2 => by
  obtain ⟨q1, q2, q3⟩ := h i j hi hj2
  refine ⟨?_, by omega, by omega⟩
  show MC (gat f i j) (lpx g m i j + jvq g m i * jvq g m j)
  rw [hj i hi, Int.zero_mul, Int.add_zero]
  exact q1
theorem lpx_0 (h : ∀ k, k < 1024 → (f k).toInt = 0) : LPX g f 0 := fun i j hi hj => by
  have e : gat f i j = 0 := h _ (by omega)
  rw [e]
  exact ⟨mc_r, by omega, by omega⟩
theorem lpx_s {z1 z2 z3 z4 : Int64} {n1 n2 n3 n4 : Nat} {d : Int} (h : LPX g f m) (h0 : ARE g 0 m = (a : Int)) (h1 : ARE g 1 m = (b : Int)) (ha : a < 32) (hb : b < 32) (hab : a ≠ b) (k1 : n1 = 32 * a + a) (k2 : n2 = 32 * b + b) (k3 : n3 = 32 * a + b) (k4 : n4 = 32 * b + a) (e1 : z1.toInt = (f n1).toInt + 1) (e2 : z2.toInt = (f n2).toInt + 1) (e3 : z3.toInt = (f n3).toInt + d) (e4 : z4.toInt = (f n4).toInt + d) (hd : MC d (-1)) (hd2 : -1000000007 ≤ d ∧ d ≤ 1000000007) : LPX g (vp_updL (vp_updL (vp_updL (vp_updL f n1 z1) n2 z2) n3 z3) n4 z4) (m + 1) := fun i j hi hj => by
  obtain ⟨q1, q2, q3⟩ := h i j hi hj
  show MC (vp_updL (vp_updL (vp_updL (vp_updL f n1 z1) n2 z2) n3 z3) n4 z4 (32 * i + j)).toInt (lpx g m i j + jvq g m i * jvq g m j) ∧ _ ≤ (vp_updL (vp_updL (vp_updL (vp_updL f n1 z1) n2 z2) n3 z3) n4 z4 (32 * i + j)).toInt ∧ (vp_updL (vp_updL (vp_updL (vp_updL f n1 z1) n2 z2) n3 z3) n4 z4 (32 * i + j)).toInt ≤ _
  have gij : gat f i j = (f (32 * i + j)).toInt := rfl
  rw [gij] at q1 q2 q3
  rw [jvq_v h0 h1, jvq_v h0 h1]
  by_cases c4 : 32 * i + j = n4
  · have ci : i = b := by omega
    have cj : j = a := by omega
    rw [c4] at q1 q2 q3
    rw [c4, vp_at, e4, if_neg (by omega), if_pos ci, if_pos cj, if_neg (by omega)]
    exact ⟨mc_a q1 hd, by omega, by omega⟩
  · rw [vp_ne c4]
    by_cases c3 : 32 * i + j = n3
    · have ci : i = a := by omega
      have cj : j = b := by omega
      rw [c3] at q1 q2 q3
      rw [c3, vp_at, e3, if_pos ci, if_neg (by omega), if_neg (by omega), if_pos cj]
      exact ⟨mc_a q1 hd, by omega, by omega⟩
    · rw [vp_ne c3]
      by_cases c2 : 32 * i + j = n2
      · have ci : i = b := by omega
        have cj : j = b := by omega
        rw [c2] at q1 q2 q3
        rw [c2, vp_at, e2, if_neg (by omega), if_pos ci, if_neg (by omega), if_pos cj]
        exact ⟨mc_a q1 (show MC 1 ((0 - 1) * (0 - 1)) from rfl), by omega, by omega⟩
      · rw [vp_ne c2]
        by_cases c1 : 32 * i + j = n1
        · have ci : i = a := by omega
          have cj : j = a := by omega
          rw [c1] at q1 q2 q3
          rw [c1, vp_at, e1, if_pos ci, if_neg (by omega), if_pos cj, if_neg (by omega)]
          exact ⟨mc_a q1 (show MC 1 ((1 - 0) * (1 - 0)) from rfl), by omega, by omega⟩
        · rw [vp_ne c1]
          have z : ((if i = a then (1 : Int) else 0) - (if i = b then 1 else 0)) * ((if j = a then 1 else 0) - (if j = b then 1 else 0)) = 0 := by
            by_cases ia : i = a
            · rw [if_neg (show ¬ j = a by omega), if_neg (show ¬ j = b by omega)]
              exact Int.mul_zero _
            · by_cases ib : i = b
              · rw [if_neg (show ¬ j = a by omega), if_neg (show ¬ j = b by omega)]
                exact Int.mul_zero _
              · rw [if_neg ia, if_neg ib]
                exact Int.zero_mul _
          rw [z, Int.add_zero]
          exact ⟨q1, by omega, by omega⟩
theorem jvq_s {p n : Nat} (hn : (g.2.2.2.2.2.2.1).toNat = n) (hN : NDQ g) (hp : p < 160) : sm (fun j => jvq g p j) n = 0 := by
  have one : ∀ x : Int, (0 ≤ x ∧ x < (n : Int)) → ∀ m : Nat, m ≤ n → sm (fun j => if x = (j : Int) then (1 : Int) else 0) m = if x < (m : Int) then 1 else 0 := fun x hx m => by
    induction m with
    | zero => intro _; exact (if_neg (by omega)).symm
    | succ m ih =>
      intro hm
      show sm (fun j => if x = (j : Int) then (1 : Int) else 0) m + (if x = (m : Int) then 1 else 0) = _
      rw [ih (by omega)]
      by_cases c : x = (m : Int)
      · rw [if_neg (by omega), if_pos c, if_pos (by omega)]; rfl
      · rw [if_neg c]
        by_cases d : x < (m : Int)
        · rw [if_pos d, if_pos (by omega)]; rfl
        · rw [if_neg d, if_neg (by omega)]; rfl
  have e : sm (fun j => jvq g p j) n = sm (fun j => if ARE g 0 p = (j : Int) then (1 : Int) else 0) n - sm (fun j => if ARE g 1 p = (j : Int) then (1 : Int) else 0) n := sm_sub n
  rw [e]
  by_cases c : (g.2.1 p).toInt = -1
  · rw [sm_0 n (fun k _ => if_neg (by rw [are_no c]; omega)), sm_0 n (fun k _ => if_neg (by rw [are_no c]; omega))]
    rfl
  · obtain ⟨a1, a2⟩ := hN p hp c
    rw [one _ (by rw [are_f hp rfl]; omega) n (Nat.le_refl _), one _ (by rw [are_t hp c (by decide)]; omega) n (Nat.le_refl _), if_pos (by rw [are_f hp rfl]; omega), if_pos (by rw [are_t hp c (by decide)]; omega)]
    rfl
theorem lpx_r {n i : Nat} (hn : (g.2.2.2.2.2.2.1).toNat = n) (hN : NDQ g) : ∀ m : Nat, m ≤ 160 → sm (lpx g m i) n = 0
  | 0, _ => sm_0 n (fun _ _ => rfl)
  | m + 1, hm => by
    have e : sm (lpx g (m + 1) i) n = sm (fun j => lpx g m i j + jvq g m i * jvq g m j) n := rfl
    rw [e, sm_add n]
    have e2 : sm (fun j => lpx g m i j) n = 0 := lpx_r hn hN m (by omega)
    have e3 : sm (fun j => jvq g m i * jvq g m j) n = 0 := by
      rw [dsm_k n, jvq_s hn hN (by omega), Int.mul_zero]
    rw [e2, e3]
    rfl
theorem lpx_y {i j : Nat} (m : Nat) : lpx g m i j = lpx g m j i := sm_eq m (fun p _ => Int.mul_comm _ _)
theorem jvq_0 {p i : Nat} (h : ARE g 0 p = ARE g 1 p) : jvq g p i = 0 := by
  unfold jvq
  rw [h]
  omega
theorem lpx_t {k : Nat} (h : ∀ q, k ≤ q → q < 160 → (g.2.1 q).toInt = -1) (hk : k ≤ 160) {i j : Nat} : lpx g 160 i j = lpx g k i j := by
  have e : ∀ m : Nat, k + m ≤ 160 → lpx g (k + m) i j = lpx g k i j := fun m => by
    induction m with
    | zero => intro _; rfl
    | succ m ih =>
      intro hm
      show lpx g (k + m) i j + jvq g (k + m) i * jvq g (k + m) j = _
      have z := h (k + m) (by omega) (by omega)
      rw [ih (by omega), jvq_0 (p := k + m) (i := i) (by rw [are_no z, are_no z]), Int.zero_mul, Int.add_zero]
  have e2 := e (160 - k) (by omega)
  rw [show k + (160 - k) = 160 by omega] at e2
  exact e2
/-- while the values are brought below the prime -/
def LPM (g : GVW) (f : Nat → Int64) (m : Nat) : Prop := ∀ k, k < 1024 → MC (f k).toInt (lpx g 160 (k / 32) (k % 32)) ∧ (k < m → 0 ≤ (f k).toInt ∧ (f k).toInt < 1000000007) ∧ -(1000000007 * 160) ≤ (f k).toInt ∧ (f k).toInt ≤ 1000000007 * 160
theorem lpm_0 {k : Nat} (h : LPX g f k) (hk : k ≤ 160) (hq : ∀ q, k ≤ q → q < 160 → (g.2.1 q).toInt = -1) : LPM g f 0 := fun n hn => by
  obtain ⟨a1, a2, a3⟩ := h (n / 32) (n % 32) (by omega) (by omega)
  have e : gat f (n / 32) (n % 32) = (f n).toInt := congrArg (fun z => (f z).toInt) (show 32 * (n / 32) + n % 32 = n by omega)
  rw [e] at a1 a2 a3
  rw [lpx_t hq hk]
  exact ⟨a1, fun z => by omega, by omega, by omega⟩
theorem lpm_s {m : Nat} {z : Int64} (h : LPM g f m) (hm : m < 1024) (hz : MC z.toInt (f m).toInt) (hr : 0 ≤ z.toInt ∧ z.toInt < 1000000007) : LPM g (vp_updL f m z) (m + 1) := fun k hk => by
  obtain ⟨a1, a2, a3⟩ := h k hk
  by_cases c : k = m
  · rw [c] at a1 ⊢
    rw [vp_at]
    exact ⟨mc_t hz a1, fun _ => hr, by omega, by omega⟩
  · rw [vp_ne c]
    exact ⟨a1, fun q => a2 (by omega), a3⟩
theorem lpm_w {m : Nat} (h : LPM g f m) (hm : 1024 ≤ m) : LPM g f 1024 := fun k hk => ⟨(h k hk).1, fun _ => (h k hk).2.1 (by omega), (h k hk).2.2⟩
theorem lpm_g (h : LPM g f 1024) : GRD f := fun k hk => (h k hk).2.1 hk
theorem lpm_t (h : LPM g f 1024) {c n : Nat} (hn : c + n ≤ 32) : MC (dtm n (tmx f c)) (dtm n (fun i j => lpx g 160 (c + i) (c + j))) := mc_d n (fun i j hi hj => by
  have q := (h (32 * (c + i) + (c + j)) (by omega)).1
  rw [show (32 * (c + i) + (c + j)) / 32 = c + i by omega, show (32 * (c + i) + (c + j)) % 32 = c + j by omega] at q
  exact q)
/-- the number of trees -/
def TRV (g : GVW) (z : Int) : Prop := (g.2.2.2.2.2.2.1 = 0 ∧ z = 0) ∨ (0 < g.2.2.2.2.2.2.1 ∧ (0 ≤ z ∧ z < 1000000007) ∧ MC z (dtm (g.2.2.2.2.2.2.1.toNat - 1) (lpx g 160)))
theorem trv_u {h : GVW} (q : GEW g h) {y z : Int} (a : TRV g y) (b : TRV h z) : y = z := by
  have en : g.2.2.2.2.2.2.1 = h.2.2.2.2.2.2.1 := q.2.2.2
  have el : lpx g 160 = lpx h 160 := by
    funext i j
    unfold lpx jvq
    rw [are_x q 0, are_x q 1]
  unfold TRV at a b
  rw [en, el] at a
  rcases a with ⟨a1, a2⟩ | ⟨a1, a2, a3⟩
  · rcases b with ⟨b1, b2⟩ | ⟨b1, b2, b3⟩
    · omega
    · omega
  · rcases b with ⟨b1, b2⟩ | ⟨b1, b2, b3⟩
    · omega
    · have e := mc_t a3 (mc_y b3)
      unfold MC at e
      omega
/-- the reference leaves the first node out -/
theorem trv_r {z : Int} (hN : NDQ g) (h1 : 0 < g.2.2.2.2.2.2.1) (h2 : 0 ≤ z ∧ z < 1000000007) (h3 : MC z (dtm (g.2.2.2.2.2.2.1.toNat - 1) (fun i j => lpx g 160 (1 + i) (1 + j)))) : TRV g z := by
  refine Or.inr ⟨h1, h2, mc_t h3 ?_⟩
  obtain ⟨n, hn⟩ : ∃ n, g.2.2.2.2.2.2.1.toNat = n + 1 := ⟨g.2.2.2.2.2.2.1.toNat - 1, by omega⟩
  have l := lap_m (n := n) (L := lpx g 160) (fun i _ => by rw [lpx_r hn hN 160 (Nat.le_refl _)]; exact mc_r) (fun c _ => by
    have e : sm (fun i => lpx g 160 i c) (n + 1) = sm (lpx g 160 c) (n + 1) := sm_eq (n + 1) (fun k _ => lpx_y 160)
    rw [e, lpx_r hn hN 160 (Nat.le_refl _)]
    exact mc_r)
  rw [hn, show n + 1 - 1 = n by omega]
  refine mc_t ?_ (mc_y l)
  exact mc_d n (fun i j _ _ => by rw [Nat.add_comm 1 i, Nat.add_comm 1 j]; exact mc_r)
end LP
theorem arz_q {s : GS} (hI : Inv s) {p : Nat} {x : Int32} (e : x = s.1 112 (bs s + p)) (h : x.toInt = 0) : ARE (gvZ s) 0 p = ARE (gvZ s) 1 p := by
  have k2 : (s.2.2.1 109 19).toInt = 160 * (s.2.2.1 109 18).toInt := hI.2.2.2.2.2.2.2.2.2.1
  have i18 := inv_F hI (z := s.2.2.1 109 18) 0 1 rfl rfl
  have eb : bs s = 160 * (s.2.2.1 109 18).toNatClampNeg := by
    show (s.2.2.1 109 19).toInt.toNat = 160 * (s.2.2.1 109 18).toInt.toNat
    have := i18.1
    omega
  have z := tg_no (g := (s.2.2.1 109 18).toNatClampNeg) (x := x) (by rw [e, eb]) h
  exact (are_no z).trans (are_no z).symm
def CNB (g : GVW) (s : GS) : Prop := (s.2.2.1 76 9).toInt = g.2.2.2.2.2.2.2 → TRV g (s.2.2.1 76 10).toInt
def CNG (g : GVW) (s : GS) : Prop := (s.2.2.1 76 9).toInt = g.2.2.2.2.2.2.2 ∧ TRV g (s.2.2.1 76 10).toInt
def CNC (s : GS) : Prop := CNB (shC s) s
theorem trv_e {g h : GVW} (q : GEW g h) {z : Int} (a : TRV g z) : TRV h z := by
  have en : g.2.2.2.2.2.2.1 = h.2.2.2.2.2.2.1 := q.2.2.2
  have el : lpx g 160 = lpx h 160 := by
    funext i j
    unfold lpx jvq
    rw [are_x q 0, are_x q 1]
  unfold TRV at a ⊢
  rw [en, el] at a
  exact a
end
