/-! THE K-TH ARC OF A NODE -/
theorem cn_eq {E F : Nat → Int} {v : Int} : ∀ n : Nat, (∀ j, j < n → E j = F j) → cn E v n = cn F v n
  | 0, _ => rfl
  | n + 1, h => by
    have i := cn_eq (v := v) n (fun j hj => h j (by omega))
    by_cases c : E n = v
    · rw [cn_hit c, cn_hit ((h n (by omega)).symm.trans c), i]
    · rw [cn_miss c, cn_miss (fun z => c ((h n (by omega)).trans z)), i]
/-! NEIGHBOURS ON BOTH SIDES -/
/-! FIGURES -/
theorem gvz_n {s : GS} (hI : Inv s) : (gvZ s).2.2.2.2.2.2.1 = (s.2.2.1 109 20).toInt := by
  have k : s.2.2.1 109 20 = s.1 110 (s.2.2.1 109 18).toNatClampNeg := hI.2.2.2.2.2.2.2.2.2.2
  rw [k]
  rfl
/-! PROGRAMS: tokens -/
def pgS (c : Int) : Prop := c = 59 ∨ c = 60 ∨ c = 61 ∨ c = 43 ∨ c = 45 ∨ c = 42 ∨ c = 40 ∨ c = 41
/-- the token of a program from a on: its place p, its end e, its kind k (0 none, 1 letter, 2 number, 3 sign, 4 no token, 5 too long), its value v -/
def PKN (T : Nat → Int32) (n a p e : Nat) (k v : Int) : Prop := tkS T n a p ∧
  ((p = n ∧ e = p ∧ k = 0) ∨
   (p < n ∧ tkL (T p) ∧ e = p + 1 ∧ k = 1 ∧ v = (T p).toInt - 97) ∨
   (p < n ∧ tkD (T p) ∧ tkG T n p e ∧ ((e - p ≤ 6 ∧ k = 2 ∧ v = tkN T p (e - p)) ∨ (6 < e - p ∧ k = 5))) ∨
   (p < n ∧ pgS (T p).toInt ∧ e = p + 1 ∧ k = 3 ∧ v = (T p).toInt) ∨
   (p < n ∧ ¬ tkL (T p) ∧ ¬ tkD (T p) ∧ ¬ pgS (T p).toInt ∧ e = p + 1 ∧ k = 4))
section PKN
variable {T U : Nat → Int32} {n a p e : Nat} {k v : Int}
theorem pkn_u {p2 e2 : Nat} {k2 v2 : Int} (h : PKN T n a p e k v) (g : PKN T n a p2 e2 k2 v2) : p = p2 ∧ e = e2 ∧ k = k2 ∧ ((k = 1 ∨ k = 2 ∨ k = 3) → v = v2) := by
  obtain ⟨hs, h⟩ := h
  obtain ⟨gs, g⟩ := g
  have ep := tkS_u hs gs
  subst ep
  refine ⟨rfl, ?_⟩
  rcases h with ⟨h1, h2, h3⟩ | ⟨h1, h2, h3, h4, h5⟩ | ⟨h1, h2, h3, h4⟩ | ⟨h1, h2, h3, h4, h5⟩ | ⟨h1, h2, h3, h4, h5, h6⟩ <;> rcases g with ⟨g1, g2, g3⟩ | ⟨g1, g2, g3, g4, g5⟩ | ⟨g1, g2, g3, g4⟩ | ⟨g1, g2, g3, g4, g5⟩ | ⟨g1, g2, g3, g4, g5, g6⟩
  · exact ⟨by omega, by omega, fun c => by omega⟩
  · omega
  · omega
  · omega
  · omega
  · omega
  · exact ⟨by omega, by omega, fun c => by omega⟩
  · unfold tkL at h2; unfold tkD at g2; omega
  · unfold tkL at h2; unfold pgS at g2; omega
  · exact absurd h2 g2
  · omega
  · unfold tkD at h2; unfold tkL at g2; omega
  · have ee := tkG_u h3 g3
    subst ee
    rcases h4 with ⟨a1, a2, a3⟩ | ⟨a1, a2⟩ <;> rcases g4 with ⟨b1, b2, b3⟩ | ⟨b1, b2⟩
    · exact ⟨rfl, by omega, fun _ => by rw [a3, b3]⟩
    · omega
    · omega
    · exact ⟨rfl, by omega, fun c => by omega⟩
  · unfold tkD at h2; unfold pgS at g2; omega
  · exact absurd h2 g3
  · omega
  · unfold pgS at h2; unfold tkL at g2; omega
  · unfold pgS at h2; unfold tkD at g2; omega
  · exact ⟨by omega, by omega, fun c => by omega⟩
  · exact absurd h2 g4
  · omega
  · exact absurd g2 h2
  · exact absurd g2 h3
  · exact absurd g2 h4
  · exact ⟨by omega, by omega, fun c => by omega⟩
theorem pkn_cg (hT : ∀ i, i < n → T i = U i) (h : PKN T n a p e k v) : PKN U n a p e k v := by
  obtain ⟨hs, h⟩ := h
  refine ⟨tkS_cg hT hs, ?_⟩
  rcases h with h | ⟨h1, h2, h3, h4, h5⟩ | ⟨h1, h2, h3, h4⟩ | ⟨h1, h2, h3, h4, h5⟩ | ⟨h1, h2, h3, h4, h5, h6⟩
  · exact Or.inl h
  · exact Or.inr (Or.inl ⟨h1, by rw [← hT p h1]; exact h2, h3, h4, by rw [← hT p h1]; exact h5⟩)
  · refine Or.inr (Or.inr (Or.inl ⟨h1, by rw [← hT p h1]; exact h2, tkG_cg hT h3, ?_⟩))
    rcases h4 with ⟨q1, q2, q3⟩ | h4
    · refine Or.inl ⟨q1, q2, ?_⟩
      have e1 := h3.1
      have e2 := h3.2.1
      rw [tkN_cg hT (e - p) (by omega)]
      exact q3
    · exact Or.inr h4
  · exact Or.inr (Or.inr (Or.inr (Or.inl ⟨h1, by rw [← hT p h1]; exact h2, h3, h4, by rw [← hT p h1]; exact h5⟩)))
  · exact Or.inr (Or.inr (Or.inr (Or.inr ⟨h1, by rw [← hT p h1]; exact h2, by rw [← hT p h1]; exact h3, by rw [← hT p h1]; exact h4, h5, h6⟩)))
theorem pkn_0 (hs : tkS T n a p) (h : p = n) (he : e = p) (hk : k = 0) : PKN T n a p e k v := ⟨hs, Or.inl ⟨h, he, hk⟩⟩
theorem pkn_1 (hs : tkS T n a p) (h : p < n) (hl : tkL (T p)) (he : e = p + 1) (hk : k = 1) (hv : v = (T p).toInt - 97) : PKN T n a p e k v := ⟨hs, Or.inr (Or.inl ⟨h, hl, he, hk, hv⟩)⟩
theorem pkn_2 (hs : tkS T n a p) (h : p < n) (hl : tkD (T p)) (hg : tkG T n p e ∧ ((e - p ≤ 6 ∧ k = 2 ∧ v = tkN T p (e - p)) ∨ (6 < e - p ∧ k = 5))) : PKN T n a p e k v := ⟨hs, Or.inr (Or.inr (Or.inl ⟨h, hl, hg.1, hg.2⟩))⟩
theorem pkn_3 (hs : tkS T n a p) (h : p < n) (hc : pgS (T p).toInt) (he : e = p + 1) (hk : k = 3) (hv : v = (T p).toInt) : PKN T n a p e k v := ⟨hs, Or.inr (Or.inr (Or.inr (Or.inl ⟨h, hc, he, hk, hv⟩)))⟩
theorem pkn_4 (hs : tkS T n a p) (h : p < n) (hl : ¬ tkL (T p)) (hd : ¬ tkD (T p)) (hc : ¬ pgS (T p).toInt) (he : e = p + 1) (hk : k = 4) : PKN T n a p e k v := ⟨hs, Or.inr (Or.inr (Or.inr (Or.inr ⟨h, hl, hd, hc, he, hk⟩)))⟩
/-- a number has been read -/
theorem rdp_i {q : Nat} {d y : Int} (h1 : q ≤ e) (h2 : e ≤ n) (hd : ∀ i, q ≤ i → i < e → tkD (T i)) (hn : e < n → ¬ tkD (T e)) (ed : d = (e : Int) - q) (hy : d ≤ 6 → y = tkN T q d.toNat) (hk : (d ≤ 6 ∧ k = 2) ∨ (6 < d ∧ k = 5)) (hv : v = y) : tkG T n q e ∧ ((e - q ≤ 6 ∧ k = 2 ∧ v = tkN T q (e - q)) ∨ (6 < e - q ∧ k = 5)) := by
  refine ⟨⟨h1, h2, hd, hn⟩, ?_⟩
  have en : d.toNat = e - q := by omega
  rcases hk with ⟨k1, k2⟩ | ⟨k1, k2⟩
  · refine Or.inl ⟨by omega, k2, ?_⟩
    rw [hv, hy k1, en]
  · exact Or.inr ⟨by omega, k2⟩
theorem pkn_k (h : PKN T n a p e k v) : 0 ≤ k ∧ k ≤ 5 := by
  rcases h.2 with ⟨h1, h2, h3⟩ | ⟨h1, h2, h3, h4, h5⟩ | ⟨h1, h2, h3, h4⟩ | ⟨h1, h2, h3, h4, h5⟩ | ⟨h1, h2, h3, h4, h5, h6⟩
  · omega
  · omega
  · rcases h4 with ⟨q1, q2, q3⟩ | ⟨q1, q2⟩ <;> omega
  · omega
  · omega
end PKN
/-! A READER OF PROGRAMS: what waits, what is written, what it does with a token -/
def pgT (c : Int) : Int := if c = 42 then 3 else if c = 43 ∨ c = 45 then 2 else if c = 60 ∨ c = 61 then 1 else 0
def pgN (v : Int) : Int := if v = 23 then 0 else if v = 13 then 1 else if v = 11 then 2 else if v = 3 then 3 else if v = 8 then 4 else if v = 17 then 5 else if v = 18 then 6 else if v = 12 then 7 else if v = 6 then 8 else -1
def pgL (k : Int) : List Int → List Int → List Int × List Int
  | [], Q => ([], Q)
  | w :: W, Q => if k ≤ pgT w then pgL k W ((1000100 + w) :: Q) else (w :: W, Q)
def pgU : List Int → List Int → List Int × List Int
  | [], Q => ([], Q)
  | w :: W, Q => if w = 2 then pgU W (1000226 :: Q) else (w :: W, Q)
def pgD : List Int → Int
  | [] => 0
  | w :: W => pgD W + (if w = 2 ∨ w = 40 then 1 else 0)
def pgK (j : Int) : List Int → Prop
  | [] => True
  | w :: _ => pgT w < j ∧ w ≠ 2
def pgW : List Int → Int
  | [] => 0
  | w :: _ => w
def pgR : List Int → List Int
  | [] => []
  | _ :: W => W
def pgF (k : Int) : Int := if k = 4 then 1 else if k = 5 then 4 else 2
/-- what a token (k, v) does where a factor is wanted -/
def pgX (k v : Int) (W Q : List Int) : Int × Int × List Int × List Int :=
  if k = 2 then (0, 0, (pgU W (v :: Q)).1, (pgU W (v :: Q)).2) else
  if k = 1 then (if pgN v < 0 then (5, 0, [], []) else (0, 0, (pgU W ((1000000 + pgN v) :: Q)).1, (pgU W ((1000000 + pgN v) :: Q)).2)) else
  if k = 3 ∧ (v = 45 ∨ v = 40) then (if 10 ≤ pgD W then (3, 0, [], []) else (0, 1, (if v = 45 then 2 else 40) :: W, Q)) else (pgF k, 0, [], [])
/-- .. and behind a factor -/
def pgY (fp k v : Int) (W Q : List Int) : Int × Int × List Int × List Int :=
  if k = 0 ∨ k = 3 ∧ v = 59 then (if (pgL 1 W Q).1 = [] ∧ (fp = 1 ↔ k = 3) then (-1, 0, [], (pgL 1 W Q).2) else (2, 0, [], [])) else
  if k = 3 ∧ 2 ≤ pgT v then (0, 1, v :: (pgL (pgT v) W Q).1, (pgL (pgT v) W Q).2) else
  if k = 3 ∧ pgT v = 1 then (if pgT (pgW (pgL 2 W Q).1) = 1 then (2, 0, [], []) else (0, 1, v :: (pgL 2 W Q).1, (pgL 2 W Q).2)) else
  if k = 3 ∧ v = 41 then (if pgW (pgL 1 W Q).1 = 40 then (0, 0, (pgU (pgR (pgL 1 W Q).1) (pgL 1 W Q).2).1, (pgU (pgR (pgL 1 W Q).1) (pgL 1 W Q).2).2) else (2, 0, [], [])) else (pgF k, 0, [], [])
def pgZ (fp k v b : Int) (W Q : List Int) : Int × Int × List Int × List Int := if b = 1 then pgX k v W Q else pgY fp k v W Q
theorem pgX_v {k v v2 : Int} {W Q : List Int} (h : (k = 1 ∨ k = 2 ∨ k = 3) → v = v2) : pgX k v W Q = pgX k v2 W Q := by
  by_cases q : k = 1 ∨ k = 2 ∨ k = 3
  · rw [h q]
  · unfold pgX
    rw [if_neg (by omega), if_neg (by omega), if_neg (by omega), if_neg (by omega), if_neg (by omega), if_neg (by omega)]
theorem pgY_v {fp k v v2 : Int} {W Q : List Int} (h : (k = 1 ∨ k = 2 ∨ k = 3) → v = v2) : pgY fp k v W Q = pgY fp k v2 W Q := by
  by_cases q : k = 1 ∨ k = 2 ∨ k = 3
  · rw [h q]
  · unfold pgY
    by_cases z : k = 0
    · rw [if_pos (Or.inl z), if_pos (Or.inl z)]
    · rw [if_neg (by omega), if_neg (by omega), if_neg (by omega), if_neg (by omega), if_neg (by omega), if_neg (by omega), if_neg (by omega), if_neg (by omega)]
theorem pgZ_v {fp k v v2 b : Int} {W Q : List Int} (h : (k = 1 ∨ k = 2 ∨ k = 3) → v = v2) : pgZ fp k v b W Q = pgZ fp k v2 b W Q := by
  unfold pgZ
  rw [pgX_v h, pgY_v h]
/-- how reading on ends: r = (fault or -2, its place, where it ends, what is written) -/
def OUN (T : Nat → Int32) (n : Nat) (fp : Int) : Nat → Nat → Int → List Int → List Int → Int × Int × Nat × List Int → Prop
  | 0, _, _, _, _, _ => False
  | m + 1, a, b, W, Q, r => ∃ p e k v, PKN T n a p e k v ∧ (((pgZ fp k v b W Q).1 = 0 ∧ OUN T n fp m e (pgZ fp k v b W Q).2.1 (pgZ fp k v b W Q).2.2.1 (pgZ fp k v b W Q).2.2.2 r) ∨ (0 < (pgZ fp k v b W Q).1 ∧ r = ((pgZ fp k v b W Q).1, (p : Int), 0, [])) ∨ ((pgZ fp k v b W Q).1 < 0 ∧ r = (-2, 0, e, (pgZ fp k v b W Q).2.2.2)))
def OUT (T : Nat → Int32) (n : Nat) (fp : Int) (a : Nat) (b : Int) (W Q : List Int) (r : Int × Int × Nat × List Int) : Prop := ∃ m, OUN T n fp m a b W Q r
section OUT
variable {T U : Nat → Int32} {n : Nat} {fp : Int}
theorem oun_u : ∀ (m m2 : Nat) {a : Nat} {b : Int} {W Q : List Int} {r r2 : Int × Int × Nat × List Int}, OUN T n fp m a b W Q r → OUN T n fp m2 a b W Q r2 → r = r2
  | 0, _, _, _, _, _, _, _, h, _ => (show False from h).elim
  | _ + 1, 0, _, _, _, _, _, _, _, h => (show False from h).elim
  | m + 1, m2 + 1, a, b, W, Q, r, r2, ⟨p, e, k, v, h1, h2⟩, ⟨p2, e2, k2, v2, g1, g2⟩ => by
    obtain ⟨u1, u2, u3, u4⟩ := pkn_u h1 g1
    subst u1 u2 u3
    rw [← pgZ_v (fp := fp) (b := b) (W := W) (Q := Q) u4] at g2
    rcases h2 with ⟨x, h⟩ | ⟨x, h⟩ | ⟨x, h⟩ <;> rcases g2 with ⟨y, g⟩ | ⟨y, g⟩ | ⟨y, g⟩
    · exact oun_u m m2 h g
    · omega
    · omega
    · omega
    · rw [h, g]
    · omega
    · omega
    · omega
    · rw [h, g]
theorem out_u {a : Nat} {b : Int} {W Q : List Int} {r r2 : Int × Int × Nat × List Int} (h : OUT T n fp a b W Q r) (g : OUT T n fp a b W Q r2) : r = r2 := by
  obtain ⟨m, h⟩ := h
  obtain ⟨m2, g⟩ := g
  exact oun_u m m2 h g
theorem oun_cg (hT : ∀ i, i < n → T i = U i) : ∀ (m : Nat) {a : Nat} {b : Int} {W Q : List Int} {r : Int × Int × Nat × List Int}, OUN T n fp m a b W Q r → OUN U n fp m a b W Q r
  | 0, _, _, _, _, _, h => (show False from h).elim
  | m + 1, _, _, _, _, _, ⟨p, e, k, v, h1, h2⟩ => by
    refine ⟨p, e, k, v, pkn_cg hT h1, ?_⟩
    rcases h2 with ⟨x, h⟩ | h2
    · exact Or.inl ⟨x, oun_cg hT m h⟩
    · exact Or.inr h2
theorem out_cg (hT : ∀ i, i < n → T i = U i) {a : Nat} {b : Int} {W Q : List Int} {r : Int × Int × Nat × List Int} (h : OUT T n fp a b W Q r) : OUT U n fp a b W Q r := h.imp fun m h => oun_cg hT m h
variable {a p e : Nat} {k v b b2 f : Int} {W Q W2 Q2 : List Int} {r : Int × Int × Nat × List Int}
theorem out_go (hk : PKN T n a p e k v) (h0 : pgZ fp k v b W Q = (0, b2, W2, Q2)) (h : OUT T n fp e b2 W2 Q2 r) : OUT T n fp a b W Q r := by
  obtain ⟨m, h⟩ := h
  refine ⟨m + 1, p, e, k, v, hk, Or.inl ?_⟩
  rw [h0]
  exact ⟨rfl, h⟩
theorem out_f (hk : PKN T n a p e k v) (h0 : pgZ fp k v b W Q = (f, b2, W2, Q2)) (hf : 0 < f) : OUT T n fp a b W Q (f, (p : Int), 0, []) := by
  refine ⟨1, p, e, k, v, hk, Or.inr (Or.inl ?_)⟩
  rw [h0]
  exact ⟨hf, rfl⟩
theorem out_d (hk : PKN T n a p e k v) (h0 : pgZ fp k v b W Q = (-1, b2, W2, Q2)) : OUT T n fp a b W Q (-2, 0, e, Q2) := by
  refine ⟨1, p, e, k, v, hk, Or.inr (Or.inr ?_)⟩
  rw [h0]
  exact ⟨(by decide : (-1 : Int) < 0), rfl⟩
end OUT
section PG
variable {fp k v j : Int} {W Q W2 Q2 : List Int} {w : Int}
theorem pgF_p : 0 < pgF k := by unfold pgF; split <;> (try split) <;> omega
/-- a factor is wanted -/
theorem pz_2 (hk : k = 2) : pgZ fp k v 1 W Q = (0, 0, (pgU W (v :: Q)).1, (pgU W (v :: Q)).2) := by
  unfold pgZ pgX
  rw [if_pos rfl, if_pos hk]
theorem pz_1 (hk : k = 1) (hn : 0 ≤ pgN v) : pgZ fp k v 1 W Q = (0, 0, (pgU W ((1000000 + pgN v) :: Q)).1, (pgU W ((1000000 + pgN v) :: Q)).2) := by
  unfold pgZ pgX
  rw [if_pos rfl, if_neg (by omega), if_pos hk, if_neg (by omega)]
theorem pz_1x (hk : k = 1) (hn : pgN v < 0) : pgZ fp k v 1 W Q = (5, 0, [], []) := by
  unfold pgZ pgX
  rw [if_pos rfl, if_neg (by omega), if_pos hk, if_pos hn]
theorem pz_m (hk : k = 3) (hv : v = 45) (hd : pgD W < 10) : pgZ fp k v 1 W Q = (0, 1, 2 :: W, Q) := by
  unfold pgZ pgX
  rw [if_pos rfl, if_neg (by omega), if_neg (by omega), if_pos ⟨hk, Or.inl hv⟩, if_neg (by omega), if_pos hv]
theorem pz_o (hk : k = 3) (hv : v = 40) (hd : pgD W < 10) : pgZ fp k v 1 W Q = (0, 1, 40 :: W, Q) := by
  unfold pgZ pgX
  rw [if_pos rfl, if_neg (by omega), if_neg (by omega), if_pos ⟨hk, Or.inr hv⟩, if_neg (by omega), if_neg (by omega)]
theorem pz_x3 (hk : k = 3) (hv : v = 45 ∨ v = 40) (hd : 10 ≤ pgD W) : pgZ fp k v 1 W Q = (3, 0, [], []) := by
  unfold pgZ pgX
  rw [if_pos rfl, if_neg (by omega), if_neg (by omega), if_pos ⟨hk, hv⟩, if_pos hd]
theorem pz_x (h1 : k ≠ 1) (h2 : k ≠ 2) (h3 : ¬ (k = 3 ∧ (v = 45 ∨ v = 40))) : pgZ fp k v 1 W Q = (pgF k, 0, [], []) := by
  unfold pgZ pgX
  rw [if_pos rfl, if_neg h2, if_neg h1, if_neg h3]
/-- behind a factor -/
theorem pz_op (hk : k = 3) (hv : 2 ≤ pgT v) (h5 : v ≠ 59) (hl : pgL (pgT v) W Q = (W2, Q2)) : pgZ fp k v 0 W Q = (0, 1, v :: W2, Q2) := by
  unfold pgZ pgY
  rw [if_neg (by decide), if_neg (by omega), if_pos ⟨hk, hv⟩, hl]
  try rfl
theorem pz_rl (hk : k = 3) (hv : pgT v = 1) (h5 : v ≠ 59) (hl : pgL 2 W Q = (W2, Q2)) (ht : pgT (pgW W2) ≠ 1) : pgZ fp k v 0 W Q = (0, 1, v :: W2, Q2) := by
  unfold pgZ pgY
  rw [if_neg (by decide), if_neg (by omega), if_neg (by omega), if_pos ⟨hk, hv⟩, hl]
  exact if_neg ht
theorem pz_cl (hk : k = 3) (hv : v = 41) (hl : pgL 1 W Q = (40 :: W2, Q2)) : pgZ fp k v 0 W Q = (0, 0, (pgU W2 Q2).1, (pgU W2 Q2).2) := by
  have h0 : pgT v = 0 := by rw [hv]; rfl
  unfold pgZ pgY
  rw [if_neg (by decide), if_neg (by omega), if_neg (by omega), if_neg (by omega), if_pos ⟨hk, hv⟩, hl]
  exact if_pos rfl
theorem pz_dn (hk : (k = 3 ∧ v = 59 ∧ fp = 1) ∨ (k = 0 ∧ fp = 0)) (hl : pgL 1 W Q = ([], Q2)) : pgZ fp k v 0 W Q = (-1, 0, [], Q2) := by
  unfold pgZ pgY
  rw [if_neg (by decide), if_pos (by omega), hl]
  exact if_pos ⟨rfl, by omega⟩
/-- nothing that can go on: what it says -/
theorem pz_no (h1 : ¬ (k = 3 ∧ 2 ≤ pgT v)) (h2 : k = 3 → pgT v = 1 → pgT (pgW (pgL 2 W Q).1) = 1) (h3 : ¬ (k = 3 ∧ v = 41 ∧ pgW (pgL 1 W Q).1 = 40)) (h4 : ¬ ((pgL 1 W Q).1 = [] ∧ (k = 0 ∧ fp ≠ 1 ∨ k = 3 ∧ v = 59 ∧ fp = 1))) : pgZ fp k v 0 W Q = (pgF k, 0, [], []) := by
  unfold pgZ pgY
  rw [if_neg (by decide)]
  by_cases c0 : k = 0 ∨ k = 3 ∧ v = 59
  · have e2 : pgF k = 2 := by unfold pgF; rw [if_neg (by omega), if_neg (by omega)]
    have hn : ¬ ((pgL 1 W Q).1 = [] ∧ (fp = 1 ↔ k = 3)) := fun q => h4 ⟨q.1, by have q2 := q.2; omega⟩
    rw [if_pos c0, if_neg hn, e2]
  · rw [if_neg c0, if_neg h1]
    by_cases c1 : k = 3 ∧ pgT v = 1
    · have e2 : pgF k = 2 := by unfold pgF; rw [if_neg (by omega), if_neg (by omega)]
      rw [if_pos c1, if_pos (h2 c1.1 c1.2), e2]
    · rw [if_neg c1]
      by_cases c2 : k = 3 ∧ v = 41
      · have e2 : pgF k = 2 := by unfold pgF; rw [if_neg (by omega), if_neg (by omega)]
        have hn : ¬ pgW (pgL 1 W Q).1 = 40 := fun q => h3 ⟨c2.1, c2.2, q⟩
        rw [if_pos c2, if_neg hn, e2]
      · rw [if_neg c2]
/-- settling -/
theorem pgL_k (h : pgK j W) : pgL j W Q = (W, Q) := by
  cases W with
  | nil => rfl
  | cons w W =>
    have h1 : pgT w < j ∧ w ≠ 2 := h
    exact if_neg (by omega)
theorem pgU_k (h : pgK j W) : pgU W Q = (W, Q) := by
  cases W with
  | nil => rfl
  | cons w W =>
    have h1 : pgT w < j ∧ w ≠ 2 := h
    exact if_neg h1.2
theorem pgL_l (i : Int) (hij : i ≤ j) : ∀ (W Q : List Int), pgL i W Q = pgL i (pgL j W Q).1 (pgL j W Q).2
  | [], _ => rfl
  | w :: W, Q => by
    by_cases c : j ≤ pgT w
    · have e1 : pgL j (w :: W) Q = pgL j W ((1000100 + w) :: Q) := if_pos c
      have e2 : pgL i (w :: W) Q = pgL i W ((1000100 + w) :: Q) := if_pos (by omega)
      rw [e1, e2]
      exact pgL_l i hij W _
    · have e1 : pgL j (w :: W) Q = (w :: W, Q) := if_neg c
      rw [e1]
theorem pgL_s (hij : j ≤ pgT w) (h : pgK j W) : pgL j (w :: W) Q = (W, (1000100 + w) :: Q) := by
  have e : pgL j (w :: W) Q = pgL j W ((1000100 + w) :: Q) := if_pos hij
  rw [e]
  exact pgL_k h
theorem pgK_le {i : Int} (hij : j ≤ i) (h : pgK j W) : pgK i W := by
  cases W with
  | nil => exact trivial
  | cons w W =>
    have h1 : pgT w < j ∧ w ≠ 2 := h
    exact ⟨Int.lt_of_lt_of_le h1.1 hij, h1.2⟩
theorem pgK_c (h1 : pgT w < j) (h2 : w ≠ 2) : pgK j (w :: W) := ⟨h1, h2⟩
/-- what settles by i and then by a smaller j -/
theorem pgL_2 {i : Int} (hij : j ≤ i) {W3 Q3 : List Int} (h : pgL i W2 Q2 = (W3, Q3)) : pgL j W2 Q2 = pgL j W3 Q3 := by
  have e := pgL_l j hij W2 Q2
  rw [h] at e
  exact e
theorem pgD_b : ∀ (W : List Int), 0 ≤ pgD W ∧ pgD W ≤ (W.length : Int)
  | [] => ⟨Int.le_refl _, Int.le_refl _⟩
  | w :: W => by
    have h := pgD_b W
    have e : pgD (w :: W) = pgD W + (if w = 2 ∨ w = 40 then 1 else 0) := rfl
    have l : ((w :: W).length : Int) = (W.length : Int) + 1 := by rw [List.length_cons]; omega
    rw [e, l]
    by_cases c : w = 2 ∨ w = 40
    · rw [if_pos c]; omega
    · rw [if_neg c]; omega
theorem pgD_1 (h : w = 2 ∨ w = 40) : pgD (w :: W) = pgD W + 1 := by
  show pgD W + (if w = 2 ∨ w = 40 then 1 else 0) = _
  rw [if_pos h]
theorem pgD_0 (h : ¬ (w = 2 ∨ w = 40)) : pgD (w :: W) = pgD W := by
  show pgD W + (if w = 2 ∨ w = 40 then 1 else 0) = _
  rw [if_neg h]; omega
theorem pgT_b : 0 ≤ pgT v ∧ pgT v ≤ 3 := by unfold pgT; split <;> (try split) <;> (try split) <;> omega
theorem pgT_3 : 3 ≤ pgT v ↔ v = 42 := by
  constructor
  · intro h; unfold pgT at h; split at h <;> (try split at h) <;> (try split at h) <;> omega
  · intro h; subst h; decide
theorem pgT_2 : 2 ≤ pgT v ↔ v = 42 ∨ v = 43 ∨ v = 45 := by
  constructor
  · intro h; unfold pgT at h; split at h <;> (try split at h) <;> (try split at h) <;> omega
  · intro h; rcases h with h | h | h <;> (subst h; decide)
theorem pgT_1 : pgT v = 1 ↔ v = 60 ∨ v = 61 := by
  constructor
  · intro h; unfold pgT at h; split at h <;> (try split at h) <;> (try split at h) <;> omega
  · intro h; rcases h with h | h <;> (subst h; decide)
theorem pgW_1 (h : pgK 1 W) : pgT (pgW W) ≠ 1 := by
  cases W with
  | nil => exact (by decide : pgT 0 ≠ 1)
  | cons w W =>
    have h1 : pgT w < 1 ∧ w ≠ 2 := h
    have e : pgT (pgW (w :: W)) = pgT w := rfl
    omega
end PG
/-! THE CLASS'S PARSER -/
/-- the latest token, which began behind a -/
def PKA (T : Nat → Int32) (n : Nat) (s : GS) (a : Nat) : Prop := PKN T n a (s.2.2.1 46 4).toInt.toNat (s.2.2.1 46 2).toInt.toNat (s.2.2.1 46 3).toInt (s.2.2.1 46 5).toInt
def drl (r : Nat → Int32) : Nat → List Int
  | 0 => []
  | k + 1 => (r k).toInt :: drl r k
def DRF (s : GS) : List Int := drl (s.1 104) (CDL s)
/-- where the latest token does not stand for what is read: nothing goes on -/
def NXT (i : Int) (k v : Int) : Prop := ¬ (k = 3 ∧ i ≤ pgT v)
def BLT (t : GS) : Int × Int × Nat × List Int := ((t.2.2.1 46 6).toInt, (t.2.2.1 46 7).toInt, 0, [])
/-- a factor -/
def PZF (T : Nat → Int32) (n : Nat) (s t : GS) (R d : Int) : Prop := ∀ (fp : Int) (a : Nat) (W : List Int), PKA T n s a → pgD W = d →
  (R ≠ 0 → ∃ a2, PKA T n t a2 ∧ ∀ r, OUT T n fp a2 0 (pgU W (DRF t)).1 (pgU W (DRF t)).2 r → OUT T n fp a 1 W (DRF s) r) ∧ (R = 0 → OUT T n fp a 1 W (DRF s) (BLT t))
/-- what is read so far, where what waits is settled by j -/
def PZI (j : Int) (T : Nat → Int32) (n : Nat) (s t : GS) (d : Int) (N : List Int → List Int → Prop) : Prop := ∀ (fp : Int) (a : Nat) (W : List Int), PKA T n s a → pgD W = d → pgK j W → ∃ a2 W2 Q2, PKA T n t a2 ∧ pgL j W2 Q2 = (W, DRF t) ∧ N W2 Q2 ∧ ∀ r, OUT T n fp a2 0 W2 Q2 r → OUT T n fp a 1 W (DRF s) r
def PZX (j : Int) (T : Nat → Int32) (n : Nat) (s t : GS) (d : Int) : Prop := ∀ (fp : Int) (a : Nat) (W : List Int), PKA T n s a → pgD W = d → pgK j W → OUT T n fp a 1 W (DRF s) (BLT t)
def NX3 (t : GS) (_ _ : List Int) : Prop := NXT 3 (t.2.2.1 46 3).toInt (t.2.2.1 46 5).toInt
def NX2 (t : GS) (_ _ : List Int) : Prop := NXT 2 (t.2.2.1 46 3).toInt (t.2.2.1 46 5).toInt
def NX1 (t : GS) (W2 Q2 : List Int) : Prop := NXT 2 (t.2.2.1 46 3).toInt (t.2.2.1 46 5).toInt ∧ ((t.2.2.1 46 3).toInt = 3 → pgT (t.2.2.1 46 5).toInt = 1 → pgT (pgW (pgL 2 W2 Q2).1) = 1)
def PZ3 (T : Nat → Int32) (n : Nat) (s t : GS) (R d : Int) : Prop := (R ≠ 0 → PZI 3 T n s t d (NX3 t)) ∧ (R = 0 → PZX 3 T n s t d)
def PZ2 (T : Nat → Int32) (n : Nat) (s t : GS) (R d : Int) : Prop := (R ≠ 0 → PZI 2 T n s t d (NX2 t)) ∧ (R = 0 → PZX 2 T n s t d)
def PZ1 (T : Nat → Int32) (n : Nat) (s t : GS) (R d : Int) : Prop := (R ≠ 0 → PZI 1 T n s t d (NX1 t)) ∧ (R = 0 → PZX 1 T n s t d)
def NX0 (_ _ : List Int) : Prop := True
/-- the same token -/
def SMT (s t : GS) : Prop := t.2.2.1 46 2 = s.2.2.1 46 2 ∧ t.2.2.1 46 3 = s.2.2.1 46 3 ∧ t.2.2.1 46 4 = s.2.2.1 46 4 ∧ t.2.2.1 46 5 = s.2.2.1 46 5
/-- the fault is as it was -/
def BSM (s t : GS) : Prop := t.2.2.1 46 6 = s.2.2.1 46 6 ∧ t.2.2.1 46 7 = s.2.2.1 46 7
theorem bsm_fr {s t : GS} {L : FM} (hF : Fr L s t) (hk : (qF L.2.2.1 46 6 && qF L.2.2.1 46 7) = true) : BSM s t := by
  rw [Bool.and_eq_true] at hk
  exact ⟨hF.2.2.1 46 6 hk.1, hF.2.2.1 46 7 hk.2⟩
theorem bsm_t {s t u : GS} (h : BSM s t) (g : BSM t u) : BSM s u := ⟨g.1.trans h.1, g.2.trans h.2⟩
theorem smt_fr {s t : GS} {L : FM} (hF : Fr L s t) (hk : (qF L.2.2.1 46 2 && qF L.2.2.1 46 3 && qF L.2.2.1 46 4 && qF L.2.2.1 46 5) = true) : SMT s t := by
  simp only [Bool.and_eq_true] at hk
  exact ⟨hF.2.2.1 46 2 hk.1.1.1, hF.2.2.1 46 3 hk.1.1.2, hF.2.2.1 46 4 hk.1.2, hF.2.2.1 46 5 hk.2⟩
theorem pka_s {T : Nat → Int32} {n a : Nat} {s t : GS} (h : SMT s t) (g : PKA T n s a) : PKA T n t a := by
  unfold PKA at g ⊢
  rw [h.1, h.2.1, h.2.2.1, h.2.2.2]
  exact g
theorem drl_u {r : Nat → Int32} {j : Nat} {c : Int32} : ∀ k, k ≤ j → drl (upd r j c) k = drl r k
  | 0, _ => rfl
  | k + 1, h => by
    show (upd r j c k).toInt :: drl (upd r j c) k = (r k).toInt :: drl r k
    rw [ug_ne (by omega), drl_u k (by omega)]
theorem drl_cg {r q : Nat → Int32} : ∀ k, (∀ i, i < k → r i = q i) → drl r k = drl q k
  | 0, _ => rfl
  | k + 1, h => by
    show (r k).toInt :: drl r k = (q k).toInt :: drl q k
    rw [h k (by omega), drl_cg k (fun i hi => h i (by omega))]
theorem drl_n {r : Nat → Int32} : ∀ k, (drl r k).length = k
  | 0 => rfl
  | k + 1 => by
    show ((r k).toInt :: drl r k).length = k + 1
    rw [List.length_cons, drl_n k]
theorem drf_e {s t : GS} {c : Int32} (h : t.1 104 = upd (s.1 104) (s.2.2.1 102 4).toNatClampNeg c) (hl : (t.2.2.1 102 4).toInt = (s.2.2.1 102 4).toInt + 1) (h0 : 0 ≤ (s.2.2.1 102 4).toInt) : DRF t = c.toInt :: DRF s := by
  have e : CDL t = CDL s + 1 := by unfold CDL; omega
  have e2 : (s.2.2.1 102 4).toNatClampNeg = CDL s := rfl
  unfold DRF
  rw [e, h, e2]
  show (upd (s.1 104) (CDL s) c (CDL s)).toInt :: drl (upd (s.1 104) (CDL s) c) (CDL s) = _
  rw [ug_at, drl_u _ (Nat.le_refl _)]
theorem drf_s {s t : GS} (h1 : t.1 104 = s.1 104) (h2 : t.2.2.1 102 4 = s.2.2.1 102 4) : DRF t = DRF s := by
  unfold DRF CDL
  rw [h1, h2]
section PZ
variable {T : Nat → Int32} {n : Nat} {s t u v w x : GS} {R R2 d f : Int}
theorem blt_i {p : Int} (h6 : (t.2.2.1 46 6).toInt = f) (h7 : (t.2.2.1 46 7).toInt = p) (h4 : 0 ≤ p) : BLT t = (f, ((p.toNat : Nat) : Int), 0, []) := by
  unfold BLT
  rw [h6, h7, show ((p.toNat : Nat) : Int) = p by omega]
theorem pzf_t (e1 : u.1 47 = s.1 47) (e2 : u.2.2.1 46 1 = s.2.2.1 46 1) (h : PZF (u.1 47) (u.2.2.1 46 1).toInt.toNat v t R d) : PZF (s.1 47) (s.2.2.1 46 1).toInt.toNat v t R d := by
  rw [← e1, ← e2]; exact h
theorem pz3_t (e1 : u.1 47 = s.1 47) (e2 : u.2.2.1 46 1 = s.2.2.1 46 1) (h : PZ3 (u.1 47) (u.2.2.1 46 1).toInt.toNat v t R d) : PZ3 (s.1 47) (s.2.2.1 46 1).toInt.toNat v t R d := by
  rw [← e1, ← e2]; exact h
theorem pz2_t (e1 : u.1 47 = s.1 47) (e2 : u.2.2.1 46 1 = s.2.2.1 46 1) (h : PZ2 (u.1 47) (u.2.2.1 46 1).toInt.toNat v t R d) : PZ2 (s.1 47) (s.2.2.1 46 1).toInt.toNat v t R d := by
  rw [← e1, ← e2]; exact h
theorem pz1_t (e1 : u.1 47 = s.1 47) (e2 : u.2.2.1 46 1 = s.2.2.1 46 1) (h : PZ1 (u.1 47) (u.2.2.1 46 1).toInt.toNat v t R d) : PZ1 (s.1 47) (s.2.2.1 46 1).toInt.toNat v t R d := by
  rw [← e1, ← e2]; exact h
theorem pka_t {a : Nat} (e1 : u.1 47 = s.1 47) (e2 : u.2.2.1 46 1 = s.2.2.1 46 1) (h : PKA (u.1 47) (u.2.2.1 46 1).toInt.toNat t a) : PKA (s.1 47) (s.2.2.1 46 1).toInt.toNat t a := by
  rw [← e1, ← e2]; exact h
/-- factors: an atom; what can't be there -/
theorem pka_l {a : Nat} (h : PKA T n s a) (hk : (s.2.2.1 46 3).toInt = 1) : 0 ≤ (s.2.2.1 46 5).toInt ∧ (s.2.2.1 46 5).toInt ≤ 25 := by
  rcases h.2 with ⟨h1, h2, h3⟩ | ⟨h1, h2, h3, h4, h5⟩ | ⟨h1, h2, h3, h4⟩ | ⟨h1, h2, h3, h4, h5⟩ | ⟨h1, h2, h3, h4, h5, h6⟩
  · omega
  · have := h2.1; have := h2.2; omega
  · rcases h4 with ⟨q1, q2, q3⟩ | ⟨q1, q2⟩ <;> omega
  · omega
  · omega
theorem pka_n (e1 : u.1 47 = s.1 47) (e2 : u.2.2.1 46 1 = s.2.2.1 46 1) (e3 : u.2.2.1 46 2 = w.2.2.1 46 2) (h : PKN (u.1 47) (u.2.2.1 46 1).toInt.toNat (u.2.2.1 46 2).toInt.toNat (t.2.2.1 46 4).toInt.toNat (t.2.2.1 46 2).toInt.toNat (t.2.2.1 46 3).toInt (t.2.2.1 46 5).toInt) : PKA (s.1 47) (s.2.2.1 46 1).toInt.toNat t (w.2.2.1 46 2).toInt.toNat := by
  rw [← e1, ← e2, ← e3]; exact h
theorem zf_at (hR : R ≠ 0) (hp : PKA T n t (s.2.2.1 46 2).toInt.toNat) (hz : ∀ a, PKA T n s a → ∀ fp W, pgZ fp (s.2.2.1 46 3).toInt (s.2.2.1 46 5).toInt 1 W (DRF s) = (0, 0, (pgU W (DRF t)).1, (pgU W (DRF t)).2)) : PZF T n s t R d :=
  fun fp a W hk _ => ⟨fun _ => ⟨_, hp, fun _ h => out_go hk (hz a hk fp W) h⟩, fun h => absurd h hR⟩
theorem zf_x (hR : R = 0) (hz : ∀ a, PKA T n s a → ∀ fp W, pgD W = d → pgZ fp (s.2.2.1 46 3).toInt (s.2.2.1 46 5).toInt 1 W (DRF s) = (f, 0, [], [])) (hf : 0 < f) (hb : BLT t = (f, (((s.2.2.1 46 4).toInt.toNat : Nat) : Int), 0, [])) : PZF T n s t R d :=
  fun fp a W hk hd => ⟨fun h => absurd hR h, fun _ => by rw [hb]; exact out_f hk (hz a hk fp W hd) hf⟩
/-- a minus -/
theorem zf_m (hk : (s.2.2.1 46 3).toInt = 3) (hv : (s.2.2.1 46 5).toInt = 45) (h10 : d < 10) (hu : PKA T n u (s.2.2.1 46 2).toInt.toNat) (eu : DRF u = DRF s) (h : PZF T n u v R2 (d + 1)) (hR2 : R2 ≠ 0) (hR : R ≠ 0) (hd : DRF t = 1000226 :: DRF v) (hp : SMT v t) : PZF T n s t R d :=
  fun fp a W hk' hdw => ⟨fun _ => by
    obtain ⟨a2, p2, g⟩ := (h fp _ (2 :: W) hu (by rw [pgD_1 (Or.inl rfl), hdw])).1 hR2
    refine ⟨a2, pka_s hp p2, fun r hr => ?_⟩
    refine out_go hk' (pz_m hk hv (by omega)) ?_
    rw [← eu]
    refine g r ?_
    have e : pgU (2 :: W) (DRF v) = pgU W (1000226 :: DRF v) := if_pos rfl
    rw [e, ← hd]
    exact hr, fun h0 => absurd h0 hR⟩
theorem zf_mx (hk : (s.2.2.1 46 3).toInt = 3) (hv : (s.2.2.1 46 5).toInt = 45) (h10 : d < 10) (hu : PKA T n u (s.2.2.1 46 2).toInt.toNat) (eu : DRF u = DRF s) (h : PZF T n u v R2 (d + 1)) (hR2 : R2 = 0) (hR : R = 0) : PZF T n s v R d :=
  fun fp a W hk' hdw => ⟨fun h0 => absurd hR h0, fun _ => by
    refine out_go hk' (pz_m hk hv (by omega)) ?_
    rw [← eu]
    exact (h fp _ (2 :: W) hu (by rw [pgD_1 (Or.inl rfl), hdw])).2 hR2⟩
theorem k40 {W : List Int} : pgK 1 (40 :: W) := ⟨by decide, by decide⟩
/-- brackets -/
theorem zf_o (hk : (s.2.2.1 46 3).toInt = 3) (hv : (s.2.2.1 46 5).toInt = 40) (h10 : d < 10) (hu : PKA T n u (s.2.2.1 46 2).toInt.toNat) (eu : DRF u = DRF s) (h : PZ1 T n u v R2 (d + 1)) (hR2 : R2 ≠ 0) (hR : R ≠ 0) (h3 : (v.2.2.1 46 3).toInt = 3) (h5 : (v.2.2.1 46 5).toInt = 41) (hp : PKA T n t (v.2.2.1 46 2).toInt.toNat) (hd : DRF t = DRF v) : PZF T n s t R d :=
  fun fp a W hk' hdw => ⟨fun _ => by
    obtain ⟨a2, W2, Q2, p2, hl, -, g⟩ := h.1 hR2 fp _ (40 :: W) hu (by rw [pgD_1 (Or.inr rfl), hdw]) k40
    refine ⟨_, hp, fun r hr => ?_⟩
    refine out_go hk' (pz_o hk hv (by omega)) ?_
    rw [← eu]
    refine g r (out_go p2 (pz_cl h3 h5 hl) ?_)
    rw [hd] at hr
    exact hr, fun h0 => absurd h0 hR⟩
theorem zf_ox (hk : (s.2.2.1 46 3).toInt = 3) (hv : (s.2.2.1 46 5).toInt = 40) (h10 : d < 10) (hu : PKA T n u (s.2.2.1 46 2).toInt.toNat) (eu : DRF u = DRF s) (h : PZ1 T n u v R2 (d + 1)) (hR2 : R2 = 0) (hR : R = 0) : PZF T n s v R d :=
  fun fp a W hk' hdw => ⟨fun h0 => absurd hR h0, fun _ => by
    refine out_go hk' (pz_o hk hv (by omega)) ?_
    rw [← eu]
    exact h.2 hR2 fp _ (40 :: W) hu (by rw [pgD_1 (Or.inr rfl), hdw]) k40⟩
theorem zf_oy (hk : (s.2.2.1 46 3).toInt = 3) (hv : (s.2.2.1 46 5).toInt = 40) (h10 : d < 10) (hu : PKA T n u (s.2.2.1 46 2).toInt.toNat) (eu : DRF u = DRF s) (h : PZ1 T n u v R2 (d + 1)) (hR2 : R2 ≠ 0) (hR : R = 0) (hn : ¬ ((v.2.2.1 46 3).toInt = 3 ∧ (v.2.2.1 46 5).toInt = 41)) (hb : BLT t = (pgF (v.2.2.1 46 3).toInt, (((v.2.2.1 46 4).toInt.toNat : Nat) : Int), 0, [])) : PZF T n s t R d :=
  fun fp a W hk' hdw => ⟨fun h0 => absurd hR h0, fun _ => by
    obtain ⟨a2, W2, Q2, p2, hl, hx, g⟩ := h.1 hR2 fp _ (40 :: W) hu (by rw [pgD_1 (Or.inr rfl), hdw]) k40
    refine out_go hk' (pz_o hk hv (by omega)) ?_
    rw [← eu, hb]
    refine g _ (out_f p2 (pz_no hx.1 hx.2 (fun q => hn ⟨q.1, q.2.1⟩) (fun q => ?_)) pgF_p)
    have q1 := q.1
    rw [hl] at q1
    cases q1⟩
/-- what a level's reader knows -/
theorem zi_f (h : PZF T n s t R d) (hR : R ≠ 0) : PZI 3 T n s t d NX0 := fun fp a W hk hd hK => by
  obtain ⟨a2, p2, g⟩ := (h fp a W hk hd).1 hR
  rw [pgU_k hK] at g
  exact ⟨a2, W, DRF t, p2, pgL_k hK, trivial, g⟩
theorem zi_n {j : Int} {N : List Int → List Int → Prop} (h : PZI j T n s t d NX0) (hn : ∀ W Q, N W Q) : PZI j T n s t d N := fun fp a W hk hd hK => by
  obtain ⟨a2, W2, Q2, p2, hl, -, g⟩ := h fp a W hk hd hK
  exact ⟨a2, W2, Q2, p2, hl, hn _ _, g⟩
theorem zx_f (h : PZF T n s t R d) (hR : R = 0) : PZX 3 T n s t d := fun fp a W hk hd _ => (h fp a W hk hd).2 hR
/-- one factor more -/
theorem zi_s3 {c : Int} (h : PZI 3 T n s u d NX0) (h3 : (u.2.2.1 46 3).toInt = 3) (h5 : (u.2.2.1 46 5).toInt = 42) (hw : PKA T n w (u.2.2.1 46 2).toInt.toNat) (ew : DRF w = DRF u) (g : PZF T n w x R d) (hR : R ≠ 0) (hc : c = 1000142) (ht : DRF t = c :: DRF x) (hp : SMT x t) : PZI 3 T n s t d NX0 := fun fp a W hk hd hK => by
  obtain ⟨a2, W2, Q2, p2, hl, -, g0⟩ := h fp a W hk hd hK
  obtain ⟨a3, p3, g3⟩ := (g fp _ (42 :: W) hw (by rw [pgD_0 (by decide)]; exact hd)).1 hR
  have eu : pgU (42 :: W) (DRF x) = (42 :: W, DRF x) := if_neg (by decide)
  rw [eu] at g3
  refine ⟨a3, 42 :: W, DRF x, pka_s hp p3, ?_, trivial, fun r hr => g0 r (out_go p2 (pz_op (W2 := W) (Q2 := DRF u) h3 (by rw [h5]; decide) (by omega) (by rw [h5]; exact hl)) ?_)⟩
  · rw [pgL_s (by decide) hK, ht, hc]
    rfl
  · rw [h5, ← ew]
    exact g3 r hr
theorem zx_s3 (h : PZI 3 T n s u d NX0) (h3 : (u.2.2.1 46 3).toInt = 3) (h5 : (u.2.2.1 46 5).toInt = 42) (hw : PKA T n w (u.2.2.1 46 2).toInt.toNat) (ew : DRF w = DRF u) (g : PZF T n w x R d) (hR : R = 0) : PZX 3 T n s x d := fun fp a W hk hd hK => by
  obtain ⟨a2, W2, Q2, p2, hl, -, g0⟩ := h fp a W hk hd hK
  refine g0 _ (out_go p2 (pz_op (W2 := W) (Q2 := DRF u) h3 (by rw [h5]; decide) (by omega) (by rw [h5]; exact hl)) ?_)
  rw [h5, ← ew]
  exact (g fp _ (42 :: W) hw (by rw [pgD_0 (by decide)]; exact hd)).2 hR
/-- sums -/
theorem zi_m {j : Int} {N M : List Int → List Int → Prop} (h : PZI j T n s t d N) (hm : ∀ W Q, N W Q → M W Q) : PZI j T n s t d M := fun fp a W hk hd hK => by
  obtain ⟨a2, W2, Q2, p2, hl, hx, g⟩ := h fp a W hk hd hK
  exact ⟨a2, W2, Q2, p2, hl, hm _ _ hx, g⟩
theorem zi_32 {N : List Int → List Int → Prop} (h : PZI 3 T n s t d N) : PZI 2 T n s t d N := fun fp a W hk hd hK => by
  obtain ⟨a2, W2, Q2, p2, hl, hx, g⟩ := h fp a W hk hd (pgK_le (by decide) hK)
  refine ⟨a2, W2, Q2, p2, ?_, hx, g⟩
  rw [pgL_2 (by decide) hl]
  exact pgL_k hK
theorem zx_32 (h : PZX 3 T n s t d) : PZX 2 T n s t d := fun fp a W hk hd hK => h fp a W hk hd (pgK_le (by decide) hK)
theorem zi_s2 {c y : Int} {N : List Int → List Int → Prop} (h : PZI 2 T n s u d N) (h3 : (u.2.2.1 46 3).toInt = 3) (h5 : (u.2.2.1 46 5).toInt = y) (hy : y = 43 ∨ y = 45) (hw : PKA T n w (u.2.2.1 46 2).toInt.toNat) (ew : DRF w = DRF u) (g : PZI 3 T n w x d (NX3 x)) (hc : c = 1000100 + y) (ht : DRF t = c :: DRF x) (hp : SMT x t) : PZI 2 T n s t d (NX3 t) := fun fp a W hk hd hK => by
  have y2 : pgT y = 2 := by rcases hy with hy | hy <;> (subst hy; decide)
  obtain ⟨a2, W2, Q2, p2, hl, -, g0⟩ := h fp a W hk hd hK
  obtain ⟨a3, W3, Q3, p3, hl3, hx3, g3⟩ := g fp _ (y :: W) hw (by rw [pgD_0 (by omega)]; exact hd) (pgK_c (by omega) (by omega))
  refine ⟨a3, W3, Q3, pka_s hp p3, ?_, ?_, fun r hr => g0 r (out_go p2 (pz_op (W2 := W) (Q2 := DRF u) h3 (by rw [h5, y2]; decide) (by omega) (by rw [h5, y2]; exact hl)) ?_)⟩
  · rw [pgL_2 (by decide) hl3, pgL_s (by omega) hK, ht, hc]
  · show NXT 3 (t.2.2.1 46 3).toInt (t.2.2.1 46 5).toInt
    rw [hp.2.1, hp.2.2.2]; exact hx3
  · rw [h5, ← ew]
    exact g3 r hr
theorem zx_s2 {y : Int} {N : List Int → List Int → Prop} (h : PZI 2 T n s u d N) (h3 : (u.2.2.1 46 3).toInt = 3) (h5 : (u.2.2.1 46 5).toInt = y) (hy : y = 43 ∨ y = 45) (hw : PKA T n w (u.2.2.1 46 2).toInt.toNat) (ew : DRF w = DRF u) (g : PZX 3 T n w x d) : PZX 2 T n s x d := fun fp a W hk hd hK => by
  have y2 : pgT y = 2 := by rcases hy with hy | hy <;> (subst hy; decide)
  obtain ⟨a2, W2, Q2, p2, hl, -, g0⟩ := h fp a W hk hd hK
  refine g0 _ (out_go p2 (pz_op (W2 := W) (Q2 := DRF u) h3 (by rw [h5, y2]; decide) (by omega) (by rw [h5, y2]; exact hl)) ?_)
  rw [h5, ← ew]
  exact g fp _ (y :: W) hw (by rw [pgD_0 (by omega)]; exact hd) (pgK_c (by omega) (by omega))
/-- expressions -/
theorem zi_21 (h : PZI 2 T n s t d (NX2 t)) (hn : (t.2.2.1 46 3).toInt = 3 → (t.2.2.1 46 5).toInt ≠ 60 ∧ (t.2.2.1 46 5).toInt ≠ 61) : PZI 1 T n s t d (NX1 t) := fun fp a W hk hd hK => by
  obtain ⟨a2, W2, Q2, p2, hl, hx, g⟩ := h fp a W hk hd (pgK_le (by decide) hK)
  refine ⟨a2, W2, Q2, p2, ?_, ⟨hx, fun q1 q2 => ?_⟩, g⟩
  · rw [pgL_2 (by decide) hl]
    exact pgL_k hK
  · have q3 := hn q1
    have q4 := pgT_1.mp q2
    omega
theorem zx_21 (h : PZX 2 T n s t d) : PZX 1 T n s t d := fun fp a W hk hd hK => h fp a W hk hd (pgK_le (by decide) hK)
theorem zi_r {c y : Int} {N : List Int → List Int → Prop} (h : PZI 2 T n s u d N) (h3 : (u.2.2.1 46 3).toInt = 3) (h5 : (u.2.2.1 46 5).toInt = y) (hy : y = 60 ∨ y = 61) (hw : PKA T n w (u.2.2.1 46 2).toInt.toNat) (ew : DRF w = DRF u) (g : PZI 2 T n w x d (NX2 x)) (hc : c = 1000100 + y) (ht : DRF t = c :: DRF x) (hp : SMT x t) : PZI 1 T n s t d (NX1 t) := fun fp a W hk hd hK => by
  have y1 : pgT y = 1 := by rcases hy with hy | hy <;> (subst hy; decide)
  obtain ⟨a2, W2, Q2, p2, hl, -, g0⟩ := h fp a W hk hd (pgK_le (by decide) hK)
  obtain ⟨a3, W3, Q3, p3, hl3, hx, g3⟩ := g fp _ (y :: W) hw (by rw [pgD_0 (by omega)]; exact hd) (pgK_c (by omega) (by omega))
  refine ⟨a3, W3, Q3, pka_s hp p3, ?_, ⟨?_, fun _ _ => ?_⟩, fun r hr => g0 r (out_go p2 (pz_rl (W2 := W) (Q2 := DRF u) h3 (by rw [h5]; exact y1) (by omega) hl (pgW_1 hK)) ?_)⟩
  · rw [pgL_2 (by decide) hl3, pgL_s (by omega) hK, ht, hc]
  · show NXT 2 (t.2.2.1 46 3).toInt (t.2.2.1 46 5).toInt
    rw [hp.2.1, hp.2.2.2]; exact hx
  · rw [hl3]; exact y1
  · rw [h5, ← ew]
    exact g3 r hr
theorem zx_r {y : Int} {N : List Int → List Int → Prop} (h : PZI 2 T n s u d N) (h3 : (u.2.2.1 46 3).toInt = 3) (h5 : (u.2.2.1 46 5).toInt = y) (hy : y = 60 ∨ y = 61) (hw : PKA T n w (u.2.2.1 46 2).toInt.toNat) (ew : DRF w = DRF u) (g : PZX 2 T n w x d) : PZX 1 T n s x d := fun fp a W hk hd hK => by
  have y1 : pgT y = 1 := by rcases hy with hy | hy <;> (subst hy; decide)
  obtain ⟨a2, W2, Q2, p2, hl, -, g0⟩ := h fp a W hk hd (pgK_le (by decide) hK)
  refine g0 _ (out_go p2 (pz_rl (W2 := W) (Q2 := DRF u) h3 (by rw [h5]; exact y1) (by omega) hl (pgW_1 hK)) ?_)
  rw [h5, ← ew]
  exact g fp _ (y :: W) hw (by rw [pgD_0 (by omega)]; exact hd) (pgK_c (by omega) (by omega))
/-! how a program ends: z the answer, f the fault's number, p its place, Q1, Q2 what is written -/
def PGO (T : Nat → Int32) (n : Nat) (z f p : Int) (Q1 Q2 : List Int) : Prop :=
  (z = 0 ∧ n ≤ 120 ∧ ∃ e e2, OUT T n 1 0 1 [] [] (-2, 0, e, Q1) ∧ OUT T n 0 e 1 [] Q1 (-2, 0, e2, Q2)) ∨
  (z = -4 ∧ f ≠ -2 ∧ ((120 < n ∧ f = 2 ∧ p = 120) ∨ (n ≤ 120 ∧ (OUT T n 1 0 1 [] [] (f, p, 0, []) ∨ ∃ e R1, OUT T n 1 0 1 [] [] (-2, 0, e, R1) ∧ OUT T n 0 e 1 [] R1 (f, p, 0, [])))))
theorem r4_u {f f2 p p2 : Int} {e e2 : Nat} {Q Q2 : List Int} (h : ((f, p, e, Q) : Int × Int × Nat × List Int) = (f2, p2, e2, Q2)) : f = f2 ∧ p = p2 ∧ e = e2 ∧ Q = Q2 := by
  injection h with h1 h2
  injection h2 with h2 h3
  injection h3 with h3 h4
  exact ⟨h1, h2, h3, h4⟩
theorem pgo_u {U : Nat → Int32} {z f p z2 f2 p2 : Int} {Q1 Q2 R1 R2 : List Int} (hT : ∀ i, i < n → T i = U i) (h : PGO T n z f p Q1 Q2) (g : PGO U n z2 f2 p2 R1 R2) : z = z2 ∧ (z = 0 → Q1 = R1 ∧ Q2 = R2) ∧ (z ≠ 0 → f = f2 ∧ p = p2) := by
  rcases h with ⟨h1, h2, e, e2, h3, h4⟩ | ⟨h1, h2, h3⟩ <;> rcases g with ⟨g1, g2, e', e2', g3, g4⟩ | ⟨g1, g2, g3⟩
  · obtain ⟨-, -, u3, u4⟩ := r4_u (out_u (out_cg hT h3) g3)
    subst u3 u4
    obtain ⟨-, -, -, u8⟩ := r4_u (out_u (out_cg hT h4) g4)
    exact ⟨by omega, fun _ => ⟨rfl, u8⟩, fun q => absurd h1 q⟩
  · exfalso
    rcases g3 with ⟨q, -⟩ | ⟨-, g3 | ⟨e', R', g3, g4⟩⟩
    · omega
    · exact g2 (r4_u (out_u (out_cg hT h3) g3)).1.symm
    · obtain ⟨-, -, u3, u4⟩ := r4_u (out_u (out_cg hT h3) g3)
      subst u3 u4
      exact g2 (r4_u (out_u (out_cg hT h4) g4)).1.symm
  · exfalso
    rcases h3 with ⟨q, -⟩ | ⟨-, h3 | ⟨e, R', h3, h4⟩⟩
    · omega
    · exact h2 (r4_u (out_u (out_cg hT h3) g3)).1
    · obtain ⟨-, -, u3, u4⟩ := r4_u (out_u (out_cg hT h3) g3)
      subst u3 u4
      exact h2 (r4_u (out_u (out_cg hT h4) g4)).1
  · refine ⟨by omega, fun q => by omega, fun _ => ?_⟩
    rcases h3 with ⟨a1, a2, a3⟩ | ⟨a1, a2⟩ <;> rcases g3 with ⟨b1, b2, b3⟩ | ⟨b1, b2⟩
    · omega
    · omega
    · omega
    · rcases a2 with a2 | ⟨e, Ra, a2, a3⟩ <;> rcases b2 with b2 | ⟨e', Rb, b2, b3⟩
      · obtain ⟨u1, u2, -, -⟩ := r4_u (out_u (out_cg hT a2) b2)
        exact ⟨u1, u2⟩
      · exact absurd (r4_u (out_u (out_cg hT a2) b2)).1 h2
      · exact absurd (r4_u (out_u (out_cg hT a2) b2)).1.symm g2
      · obtain ⟨-, -, u3, u4⟩ := r4_u (out_u (out_cg hT a2) b2)
        subst u3 u4
        obtain ⟨u1, u2, -, -⟩ := r4_u (out_u (out_cg hT a3) b3)
        exact ⟨u1, u2⟩
/-- the class's adopt: what the parts say -/
theorem ad_x1 (h : PZ1 T n u t R 0) (hR : R = 0) (hu : PKA T n u 0) (eu : DRF u = []) : OUT T n 1 0 1 [] [] (BLT t) := by
  have g := h.2 hR 1 0 [] hu rfl trivial
  rw [eu] at g
  exact g
theorem ad_ok {fp : Int} {a : Nat} {Q : List Int} (h : PZ1 T n u v R 0) (hR : R ≠ 0) (hu : PKA T n u a) (eu : DRF u = Q) (hk : ((v.2.2.1 46 3).toInt = 3 ∧ (v.2.2.1 46 5).toInt = 59 ∧ fp = 1) ∨ ((v.2.2.1 46 3).toInt = 0 ∧ fp = 0)) : OUT T n fp a 1 [] Q (-2, 0, (v.2.2.1 46 2).toInt.toNat, DRF v) := by
  obtain ⟨a2, W2, Q2, p2, hl, -, g⟩ := h.1 hR fp a [] hu rfl trivial
  rw [eu] at g
  exact g _ (out_d p2 (pz_dn hk hl))
theorem ad_no {fp : Int} {a : Nat} {Q : List Int} (h : PZ1 T n u v R 0) (hR : R ≠ 0) (hu : PKA T n u a) (eu : DRF u = Q) (hk : ¬ ((v.2.2.1 46 3).toInt = 0 ∧ fp ≠ 1 ∨ (v.2.2.1 46 3).toInt = 3 ∧ (v.2.2.1 46 5).toInt = 59 ∧ fp = 1)) (hb : BLT t = (pgF (v.2.2.1 46 3).toInt, (((v.2.2.1 46 4).toInt.toNat : Nat) : Int), 0, [])) : OUT T n fp a 1 [] Q (BLT t) := by
  obtain ⟨a2, W2, Q2, p2, hl, hx, g⟩ := h.1 hR fp a [] hu rfl trivial
  rw [eu] at g
  rw [hb]
  refine g _ (out_f p2 (pz_no hx.1 hx.2 (fun q => ?_) (fun q => hk q.2)) pgF_p)
  have q1 := q.2.2
  rw [hl] at q1
  have q2 : (0 : Int) = 40 := q1
  omega
theorem ad_x {fp : Int} {a : Nat} {Q : List Int} (h : PZ1 T n u v R 0) (hR : R = 0) (hu : PKA T n u a) (eu : DRF u = Q) : OUT T n fp a 1 [] Q (BLT v) := by
  have g := h.2 hR fp a [] hu rfl trivial
  rw [eu] at g
  exact g
/-- the code that is taken over -/
def CPQ (t : GS) (Q1 Q2 : List Int) : Prop := drl (t.1 103) (t.2.2.1 102 1).toInt.toNat = Q1 ∧ drl (t.1 103) (t.2.2.1 102 2).toInt.toNat = Q2
def SCQ (s t : GS) : Prop := t.1 103 = s.1 103 ∧ t.2.2.1 102 1 = s.2.2.1 102 1 ∧ t.2.2.1 102 2 = s.2.2.1 102 2
def PAD (T : Nat → Int32) (n : Nat) (s t : GS) (R : Int) : Prop := (R ≠ 0 → ∃ Q1 Q2, PGO T n 0 0 0 Q1 Q2 ∧ CPQ t Q1 Q2) ∧ (R = 0 → PGO T n (-4) (t.2.2.1 46 6).toInt (t.2.2.1 46 7).toInt [] [] ∧ SCQ s t)
def PGP (T : Nat → Int32) (n : Nat) (s t : GS) (z : Int) : Prop := (z = 0 ∧ ∃ Q1 Q2, PGO T n 0 0 0 Q1 Q2 ∧ CPQ t Q1 Q2) ∨ (z = -4 ∧ PGO T n (-4) (t.2.2.1 46 6).toInt (t.2.2.1 46 7).toInt [] [] ∧ SCQ s t)
theorem scq_fr {L : FM} (hF : Fr L s t) (hk : (qI L.1 103 && qF L.2.2.1 102 1 && qF L.2.2.1 102 2) = true) : SCQ s t := by
  simp only [Bool.and_eq_true] at hk
  exact ⟨hF.1 103 hk.1.1, hF.2.2.1 102 1 hk.1.2, hF.2.2.1 102 2 hk.2⟩
def PRC (s : GS) : Prop := 0 < (s.2.2.1 102 1).toInt ∧ (s.2.2.1 102 1).toInt < (s.2.2.1 102 2).toInt
theorem pv_lt {s t : GS} (h : PCV s t 1) : CDL s < CDL t := by
  have k := h.2.2 (CDL s) 0 (Nat.le_refl _) (by rw [Nat.sub_self]; rfl)
  by_cases c : CDL s < CDL t
  · exact c
  · rw [show CDL t - CDL s = 0 by omega] at k
    have k2 : some 0 = some (0 + 1) := k
    injection k2 with k3
    omega
theorem prc_i {s u v t : GS} (h0 : CDL s = 0) (p1 : PCV s u 1) (p2 : PCV u v 1) (hx : (t.2.2.1 102 1).toInt.toNat = CDL u) (hy : (t.2.2.1 102 2).toInt.toNat = CDL v) : PRC t := by
  have a := pv_lt p1
  have b := pv_lt p2
  exact ⟨by omega, by omega⟩
theorem cpq_i (p2 : PCV u v 1) (hx : (t.2.2.1 102 1).toInt.toNat = CDL u) (hy : (t.2.2.1 102 2).toInt.toNat = CDL v) (hcp : ∀ k : Nat, k < CDL v → t.1 103 k = v.1 104 k) : CPQ t (DRF u) (DRF v) := by
  refine ⟨?_, ?_⟩
  · rw [hx]
    exact drl_cg _ (fun i hi => (hcp i (by have := p2.1; omega)).trans (p2.2.1 i hi))
  · rw [hy]
    exact drl_cg _ hcp
theorem pka_0 {a : Nat} (e1 : u.1 47 = s.1 47) (e2 : u.2.2.1 46 1 = s.2.2.1 46 1) (e3 : (u.2.2.1 46 2).toInt.toNat = a) (h : PKN (u.1 47) (u.2.2.1 46 1).toInt.toNat (u.2.2.1 46 2).toInt.toNat (t.2.2.1 46 4).toInt.toNat (t.2.2.1 46 2).toInt.toNat (t.2.2.1 46 3).toInt (t.2.2.1 46 5).toInt) : PKA (s.1 47) (s.2.2.1 46 1).toInt.toNat t a := by
  rw [← e1, ← e2, ← e3]; exact h
theorem drf_0 (h : Int32.ofInt 0 = s.2.2.1 102 4) : DRF s = [] := by
  have e0 : CDL s = 0 := by unfold CDL; rw [← h]; rfl
  unfold DRF
  rw [e0]; rfl
theorem ad_f0 (hn : 120 < n) (h6 : (t.2.2.1 46 6).toInt = 2) (h7 : (t.2.2.1 46 7).toInt = 120) : PGO T n (-4) (t.2.2.1 46 6).toInt (t.2.2.1 46 7).toInt [] [] := Or.inr ⟨rfl, by omega, Or.inl ⟨hn, h6, h7⟩⟩
theorem ad_f1 (hn : n ≤ 120) (hf : -1 ≤ (t.2.2.1 46 6).toInt) (h : OUT T n 1 0 1 [] [] (BLT t)) : PGO T n (-4) (t.2.2.1 46 6).toInt (t.2.2.1 46 7).toInt [] [] := Or.inr ⟨rfl, by omega, Or.inr ⟨hn, Or.inl h⟩⟩
theorem ad_f2 {e : Nat} {R1 : List Int} (hn : n ≤ 120) (hf : -1 ≤ (t.2.2.1 46 6).toInt) (h1 : OUT T n 1 0 1 [] [] (-2, 0, e, R1)) (h : OUT T n 0 e 1 [] R1 (BLT t)) : PGO T n (-4) (t.2.2.1 46 6).toInt (t.2.2.1 46 7).toInt [] [] := Or.inr ⟨rfl, by omega, Or.inr ⟨hn, Or.inr ⟨e, R1, h1, h⟩⟩⟩
end PZ

/-! String.indexOf, in full -/
def ZIX (x c z : Int32) : Prop := (z.toInt = -1 ∧ ∀ i : Nat, i < zn x → zby x.toNatClampNeg i ≠ c.toInt) ∨ (0 ≤ z.toInt ∧ z.toInt < (zn x : Int) ∧ zby x.toNatClampNeg z.toInt.toNat = c.toInt)
theorem i2b_t : ∀ n : Nat, n < 256 → (Int32.ofInt (n : Int)).toInt8.toInt32.toInt = (if n < 128 then (n : Int) else (n : Int) - 256) := by decide +kernel
theorem i2b_v {c : Int32} (h0 : 0 ≤ c.toInt) (h1 : c.toInt ≤ 255) : c.toInt8.toInt32.toInt = if c.toInt < 128 then c.toInt else c.toInt - 256 := by
  have h := i2b_t c.toInt.toNat (by omega)
  rw [show ((c.toInt.toNat : Nat) : Int) = c.toInt by omega, Int32.ofInt_toInt] at h
  rw [h]
  by_cases q : c.toInt < 128
  · rw [if_pos q, if_pos (by omega)]
  · rw [if_neg q, if_neg (by omega)]
theorem zby_b {k j : Nat} (hk : k < 7) (hj : j < 10) : 0 ≤ zby k j ∧ zby k j ≤ 127 := (by decide : ∀ k, k < 7 → ∀ j, j < 10 → 0 ≤ zby k j ∧ zby k j ≤ 127) k hk j hj
theorem zb_eq {c y z : Int32} {b : Int} (hc : 0 ≤ c.toInt ∧ c.toInt ≤ 255) (hb : 0 ≤ b ∧ b ≤ 127) (hy : y = c.toInt8.toInt32) (hz : z.toInt = b) : z.toInt = y.toInt ↔ b = c.toInt := by
  rw [hy, i2b_v hc.1 hc.2, hz]
  by_cases q : c.toInt < 128
  · rw [if_pos q]
  · rw [if_neg q]; omega
section ZM
variable {Z : AmZ} {d : Nat} {ws : va_W} {X : AmX} {x : Int32}
theorem f_436 {c : Int32} (hd : 1 ≤ d) : GC Z d 436 [.int c] ws 0 0 (fun v u => ∃ z : Int32, v = some (.int z) ∧ u = ws ∧ (z.toInt ≠ 0 → 0 ≤ c.toInt ∧ c.toInt ≤ 255) ∧ (z.toInt = 0 → c.toInt < 0 ∨ 255 < c.toInt)) X := by
  intro post xp hP hX
  refine g_enter2 (k := 436) (N := 300) (by omega) rfl (Nat.le_of_ble_eq_true rfl) ?_
  have c255 : (Int32.ofInt 255).toInt = 255 := by decide
  refine g_iload_n 1 (gd rfl) rfl rfl ?_
  refine g_if_lt 4 15 (gd rfl) rfl rfl (fun h1 => ?_) (fun h1 => ?_)
  · refine g_iconst 0 16 (gd rfl) rfl rfl ?_
    exact g_ireturn (gd rfl) rfl rfl (hP _ _ ⟨_, rfl, rfl, fun h => absurd rfl h, fun _ => Or.inl (by omega)⟩)
  refine g_iload_n 5 (gd rfl) rfl rfl ?_
  refine g_sipush 255 8 (gd rfl) rfl rfl ?_
  refine g_cmp_gt 11 15 (gd rfl) rfl rfl (fun h2 => ?_) (fun h2 => ?_)
  · refine g_iconst 0 16 (gd rfl) rfl rfl ?_
    exact g_ireturn (gd rfl) rfl rfl (hP _ _ ⟨_, rfl, rfl, fun h => absurd rfl h, fun _ => Or.inr (by omega)⟩)
  refine g_iconst 1 12 (gd rfl) rfl rfl ?_
  refine g_goto 16 (gd rfl) rfl ?_
  exact g_ireturn (gd rfl) rfl rfl (hP _ _ ⟨_, rfl, rfl, fun _ => ⟨by omega, by omega⟩, fun h => absurd h (by decide)⟩)
theorem f_438 {c a b : Int32} (hx : In x 0 6) (hc : 0 ≤ c.toInt ∧ c.toInt ≤ 255) (ha : a.toInt = 0) (hb : b.toInt = (zn x : Int)) (hd : 1 ≤ d) : GC Z d 438 [.ref (zp Z x), .int c, .int a, .int b] ws 0 0 (fun v u => ∃ z : Int32, v = some (.int z) ∧ u = ws ∧ In z (-1) (zn x - 1) ∧ ZIX x c z) X := by
  intro post xp hP hX
  have h9 := zn_9 hx
  have cm1 : (Int32.ofInt (-1)).toInt = -1 := by decide
  have ctz : ∀ (y y4 : Int32), (∀ i : Nat, (i : Int) < y.toInt → zby x.toNatClampNeg i ≠ c.toInt) → 0 ≤ y.toInt → b.toInt ≤ y.toInt → GG Z (d - 1) 438 post (gx xp) (41 + 0 * 40) 7 (fun j => xlook j [(0, .ref (zp Z x)), (3, .int b), (4, .int y4), (5, .int y)]) [] ws 0 0 := by
    intro y y4 hy h0 hm
    refine gg_w (M := 41) (by omega) ?_
    refine g_iload 9 (gd rfl) rfl rfl ?_
    refine g_iload_n 10 (gd rfl) rfl rfl ?_
    refine g_cmp_ge 13 31 (gd rfl) rfl rfl (fun _ => ?_) (fun c1 => absurd c1 (by omega))
    refine g_iconst (-1) 32 (gd rfl) rfl rfl ?_
    exact g_ireturn (gd rfl) rfl rfl (hP _ _ ⟨_, rfl, rfl, ⟨by decide, by omega⟩, Or.inl ⟨rfl, fun i hi => hy i (by omega)⟩⟩)
  have ct : ∀ (k : Nat) (y y4 : Int32), y4 = c.toInt8.toInt32 → (∀ i : Nat, (i : Int) < y.toInt → zby x.toNatClampNeg i ≠ c.toInt) → 0 ≤ y.toInt → b.toInt - y.toInt < (k : Int) → GG Z (d - 1) 438 post (gx xp) (41 + k * 40) 7 (fun j => xlook j [(0, .ref (zp Z x)), (3, .int b), (4, .int y4), (5, .int y)]) [] ws 0 0 := by
    intro k
    induction k with
    | zero =>
      intro y y4 h4 hy h0 hm
      exact ctz y y4 hy h0 (by omega)
    | succ k ih =>
      intro y y4 h4 hy h0 hm
      refine gg_w (M := 41 + k * 40 + 40) (by omega) ?_
      refine g_iload 9 (gd rfl) rfl rfl ?_
      refine g_iload_n 10 (gd rfl) rfl rfl ?_
      refine g_cmp_ge 13 31 (gd rfl) rfl rfl (fun c1 => ?_) (fun c1 => ?_)
      · refine g_iconst (-1) 32 (gd rfl) rfl rfl ?_
        exact g_ireturn (gd rfl) rfl rfl (hP _ _ ⟨_, rfl, rfl, ⟨by decide, by omega⟩, Or.inl ⟨rfl, fun i hi => hy i (by omega)⟩⟩)
      refine g_aload_n 14 (gd rfl) rfl rfl ?_
      refine g_iload 16 (gd rfl) rfl rfl ?_
      refine g_baloadZ 17 (gd rfl) rfl hx h0 (by omega) (fun z e => ?_)
      refine g_iload 19 (gd rfl) rfl rfl ?_
      have hq : z.toInt = zby x.toNatClampNeg y.toNatClampNeg := congrArg Int32.toInt e
      have hn : y.toNatClampNeg = y.toInt.toNat := rfl
      have hbb : 0 ≤ zby x.toNatClampNeg y.toNatClampNeg ∧ zby x.toNatClampNeg y.toNatClampNeg ≤ 127 := zby_b (z_7 hx) (by omega)
      have hiff := zb_eq hc hbb h4 hq
      refine g_cmp_ne 22 25 (gd rfl) rfl rfl (fun c2 => ?_) (fun c2 => ?_)
      · refine g_iinc 28 (gd rfl) rfl rfl (Nat.le_of_ble_eq_true rfl) (fun z2 e2 => ?_)
        refine g_goto 7 (gd rfl) rfl ?_
        have t2 : z2.toInt = y.toInt + 1 := t_add e2 (⟨h0, (by omega : y.toInt ≤ 100)⟩ : In y 0 100) (in_c 1 rfl) rfl
        refine gg_w (by omega) (gg_f (gf_cons rfl (gf_cons rfl (gf_cons rfl (gf_cons rfl gf_nil)))) (ih z2 y4 h4 (fun i hi => ?_) (by omega) (by omega)))
        by_cases q : (i : Int) < y.toInt
        · exact hy i q
        · rw [show i = y.toNatClampNeg by omega]
          exact fun h => c2 (hiff.mpr h)
      · refine g_iload 24 (gd rfl) rfl rfl ?_
        exact g_ireturn (gd rfl) rfl rfl (hP _ _ ⟨y, rfl, rfl, ⟨by omega, by omega⟩, Or.inr ⟨h0, by omega, by rw [← hn]; exact hiff.mp c2⟩⟩)
  refine g_enter2 (k := 438) (N := 9000) (by omega) rfl (Nat.le_of_ble_eq_true rfl) ?_
  refine gg_w (M := 41 + 11 * 40 + 10) (by omega) ?_
  refine g_iload_n 1 (gd rfl) rfl rfl ?_
  refine g_i2b 2 (gd rfl) rfl (fun z e => ?_)
  refine g_istore 4 (gd rfl) rfl (Nat.le_of_ble_eq_true rfl) ?_
  refine g_iload_n 5 (gd rfl) rfl rfl ?_
  refine g_istore 7 (gd rfl) rfl (Nat.le_of_ble_eq_true rfl) ?_
  exact gg_w (by omega) (gg_f (gf_cons rfl (gf_cons rfl (gf_cons rfl (gf_cons rfl gf_nil)))) (ct 11 a z e (fun i hi => by omega) (by omega) (by omega)))
theorem f_437 {c b : Int32} (hx : In x 0 6) (hb : b.toInt = (zn x : Int)) (hd : 2 ≤ d) : GC Z d 437 [.ref (zp Z x), .int c, .int (Int32.ofInt 0), .int b] ws 0 0 (fun v u => ∃ z : Int32, v = some (.int z) ∧ u = ws ∧ In z (-1) (zn x - 1) ∧ ZIX x c z) X := by
  intro post xp hP hX
  have h9 := zn_9 hx
  have cm1 : (Int32.ofInt (-1)).toInt = -1 := by decide
  have e0 : (Int32.ofInt 0).toInt = 0 := by decide
  refine g_enter2 (k := 437) (N := 300) (by omega) rfl (Nat.le_of_ble_eq_true rfl) ?_
  refine g_iload_n 1 (gd rfl) rfl rfl ?_
  refine g_calls (As := [.int c]) (r := []) 4 (gd rfl) rfl rfl rfl rfl rfl (Nat.le_of_ble_eq_true rfl) (Nat.zero_le _) (Nat.zero_le _) (f_436 (by omega)) (fun v u h => ?_)
  obtain ⟨z, rfl, rfl, hz1, hz0⟩ := h
  show GG _ _ _ _ _ _ _ _ [.int z] _ _ _
  refine g_if_ne 7 9 (gd rfl) rfl rfl (fun q1 => ?_) (fun q0 => ?_)
  rotate_left
  · refine g_iconst (-1) 8 (gd rfl) rfl rfl ?_
    have hw := hz0 (by omega)
    exact g_ireturn (gd rfl) rfl rfl (hP _ _ ⟨_, rfl, rfl, ⟨by decide, by omega⟩, Or.inl ⟨rfl, fun i hi => by have hq := zby_b (z_7 hx) (show i < 10 by omega); omega⟩⟩)
  have hc := hz1 (by omega)
  refine g_iload_n 10 (gd rfl) rfl rfl ?_
  refine g_iconst 0 11 (gd rfl) rfl rfl ?_
  refine g_calls (As := [.int (Int32.ofInt 0), .int (Int32.ofInt 0)]) (r := []) 14 (gd rfl) rfl rfl rfl rfl rfl (Nat.le_of_ble_eq_true rfl) (Nat.zero_le _) (Nat.zero_le _) (k_422z (by omega)) (fun v u h => ?_)
  obtain ⟨z2, rfl, rfl, hz2⟩ := h
  show GG _ _ _ _ _ _ _ _ [.int z2] _ _ _
  refine g_istore_n 15 (gd rfl) rfl (Nat.le_of_ble_eq_true rfl) ?_
  refine g_iload_n 16 (gd rfl) rfl rfl ?_
  refine g_aload_n 17 (gd rfl) rfl rfl ?_
  refine g_alenZ 18 (gd rfl) rfl hx (fun z3 e3 ez => ?_)
  refine g_calls (As := [.int b, .int z3]) (r := []) 21 (gd rfl) rfl rfl rfl rfl rfl (Nat.le_of_ble_eq_true rfl) (Nat.zero_le _) (Nat.zero_le _) (k_424z (by omega)) (fun v u h => ?_)
  obtain ⟨z4, rfl, rfl, hz4⟩ := h
  show GG _ _ _ _ _ _ _ _ [.int z4] _ _ _
  refine g_istore_n 22 (gd rfl) rfl (Nat.le_of_ble_eq_true rfl) ?_
  refine g_iload_n 23 (gd rfl) rfl rfl ?_
  refine g_iload_n 24 (gd rfl) rfl rfl ?_
  refine g_cmp_lt 27 29 (gd rfl) rfl rfl (fun q2 => ?_) (fun q3 => ?_)
  rotate_left
  · refine g_iconst (-1) 28 (gd rfl) rfl rfl ?_
    exact g_ireturn (gd rfl) rfl rfl (hP _ _ ⟨_, rfl, rfl, ⟨by decide, by omega⟩, Or.inl ⟨rfl, fun i hi => by exfalso; omega⟩⟩)
  refine g_aload_n 30 (gd rfl) rfl rfl ?_
  refine g_iload_n 31 (gd rfl) rfl rfl ?_
  refine g_iload_n 32 (gd rfl) rfl rfl ?_
  refine g_iload_n 33 (gd rfl) rfl rfl ?_
  refine g_calls (As := [.ref (zp Z x), .int c, .int z2, .int z4]) (r := []) 36 (gd rfl) rfl rfl rfl rfl rfl (Nat.le_of_ble_eq_true rfl) (Nat.zero_le _) (Nat.zero_le _) (f_438 hx hc (by omega) (by omega) (by omega)) (fun v u h => ?_)
  obtain ⟨z5, rfl, rfl, hz5, hz6⟩ := h
  show GG _ _ _ _ _ _ _ _ [.int z5] _ _ _
  exact g_ireturn (gd rfl) rfl rfl (hP _ _ ⟨z5, rfl, rfl, hz5, hz6⟩)
theorem f_431 {c : Int32} (hx : In x 0 6) (hd : 3 ≤ d) : GC Z d 431 [.ref (zq Z x), .int c, .int (Int32.ofInt 0)] ws 0 0 (fun v u => ∃ z : Int32, v = some (.int z) ∧ u = ws ∧ In z (-1) (zn x - 1) ∧ ZIX x c z) X := by
  intro post xp hP hX
  refine g_enter2 (k := 431) (N := 300) (by omega) rfl (Nat.le_of_ble_eq_true rfl) ?_
  refine g_aload_n 1 (gd rfl) rfl rfl ?_
  refine g_callS (As := []) (r := []) (x := x) 4 (gd rfl) rfl rfl rfl zm_433 rfl rfl rfl hx (Nat.le_of_ble_eq_true rfl) (k_433 hx (by omega)) (fun e u h => h) (fun v u h => ?_)
  obtain ⟨rfl, rfl⟩ := h
  show GG _ _ _ _ _ _ _ _ [.int (Int32.ofInt 1)] _ _ _
  refine g_if_eq 7 23 (gd rfl) rfl rfl (fun c => absurd c (by decide)) (fun _ => ?_)
  refine g_aload_n 8 (gd rfl) rfl rfl ?_
  refine g_getVA 11 (gd rfl) rfl hx rfl ?_
  refine g_iload_n 12 (gd rfl) rfl rfl ?_
  refine g_iload_n 13 (gd rfl) rfl rfl ?_
  refine g_aload_n 14 (gd rfl) rfl rfl ?_
  refine g_callS (As := []) (r := [.int (Int32.ofInt 0), .int c, .ref (zp Z x)]) (x := x) 17 (gd rfl) rfl rfl rfl zm_427 rfl rfl rfl hx (Nat.le_of_ble_eq_true rfl) (k_427 hx (by omega)) (fun e u h => h) (fun v u h => ?_)
  obtain ⟨z, rfl, rfl, hz⟩ := h
  show GG _ _ _ _ _ _ _ _ [.int z, .int (Int32.ofInt 0), .int c, .ref (zp Z x)] _ _ _
  refine g_calls (As := [.ref (zp Z x), .int c, .int (Int32.ofInt 0), .int z]) (r := []) 20 (gd rfl) rfl rfl rfl rfl rfl (Nat.le_of_ble_eq_true rfl) (Nat.zero_le _) (Nat.zero_le _) (f_437 hx hz (by omega)) (fun v u h => ?_)
  obtain ⟨z5, rfl, rfl, hz5, hz6⟩ := h
  show GG _ _ _ _ _ _ _ _ [.int z5] _ _ _
  refine g_goto 36 (gd rfl) rfl ?_
  exact g_ireturn (gd rfl) rfl rfl (hP _ _ ⟨z5, rfl, rfl, hz5, hz6⟩)
theorem f_430 {c : Int32} (hx : In x 0 6) (hd : 4 ≤ d) : GC Z d 430 [.ref (zq Z x), .int c] ws 0 0 (fun v u => ∃ z : Int32, v = some (.int z) ∧ u = ws ∧ In z (-1) (zn x - 1) ∧ ZIX x c z) X := by
  intro post xp hP hX
  refine g_enter2 (k := 430) (N := 300) (by omega) rfl (Nat.le_of_ble_eq_true rfl) ?_
  refine g_aload_n 1 (gd rfl) rfl rfl ?_
  refine g_iload_n 2 (gd rfl) rfl rfl ?_
  refine g_iconst 0 3 (gd rfl) rfl rfl ?_
  refine g_callS (As := [.int c, .int (Int32.ofInt 0)]) (r := []) (x := x) 6 (gd rfl) rfl rfl rfl zm_431 rfl rfl rfl hx (Nat.le_of_ble_eq_true rfl) (f_431 hx (by omega)) (fun e u h => h) (fun v u h => ?_)
  obtain ⟨z5, rfl, rfl, hz5, hz6⟩ := h
  show GG _ _ _ _ _ _ _ _ [.int z5] _ _ _
  exact g_ireturn (gd rfl) rfl rfl (hP _ _ ⟨z5, rfl, rfl, hz5, hz6⟩)
end ZM
theorem pg_c {x z : Int32} (hz : z = (x.toUInt32 % 65536).toInt32) (h : In x 0 65535) : z = x := by
  have e : z.toBitVec.toNat = x.toBitVec.toNat % 65536 := by rw [hz]; rfl
  have hl : z.toBitVec.toNat < 65536 := by rw [e]; exact Nat.mod_lt _ (by decide)
  have e2 : z.toInt = (z.toBitVec.toNat : Int) := BitVec.toInt_eq_toNat_of_lt (by omega)
  have q : x.toInt = _ := BitVec.toInt_eq_toNat_cond x.toBitVec
  have b := x.toBitVec.isLt
  obtain ⟨h1, h2⟩ := h
  have r : x.toInt = (x.toBitVec.toNat : Int) := by
    split at q
    · exact q
    · exfalso; rw [q] at h1; omega
  exact i_eq.mpr (by omega)
theorem pg_z {v x z : Int32} (e1 : x = Int32.ofInt 97 + v) (e2 : z = (x.toUInt32 % 65536).toInt32) (h : 0 ≤ v.toInt ∧ v.toInt ≤ 25) : z.toInt = 97 + v.toInt := by
  have h1 : x.toInt = 97 + v.toInt := t_add e1 (in_c 97 rfl) (⟨h.1, h.2⟩ : In v 0 25) rfl
  rw [pg_c e2 ⟨by omega, by omega⟩]
  exact h1
/-- the signs of a program -/
theorem zix_0 {c z : Int32} (h : ZIX (Int32.ofInt 0) c z) : (0 ≤ z.toInt → c.toInt = 60 ∨ c.toInt = 61 ∨ c.toInt = 43 ∨ c.toInt = 45 ∨ c.toInt = 42 ∨ c.toInt = 40 ∨ c.toInt = 41) ∧ (z.toInt < 0 → c.toInt ≠ 60 ∧ c.toInt ≠ 61 ∧ c.toInt ≠ 43 ∧ c.toInt ≠ 45 ∧ c.toInt ≠ 42 ∧ c.toInt ≠ 40 ∧ c.toInt ≠ 41) := by
  have hn : zn (Int32.ofInt 0) = 7 := by decide
  have hv : ∀ i, i < 7 → zby 0 i = [60, 61, 43, 45, 42, 40, 41].getD i 0 := by decide
  unfold ZIX at h
  rw [hn, show (Int32.ofInt 0).toNatClampNeg = 0 from rfl] at h
  rcases h with ⟨h1, h2⟩ | ⟨h1, h2, h3⟩
  · refine ⟨fun q => by omega, fun _ => ?_⟩
    have a0 := h2 0 (by omega); have a1 := h2 1 (by omega); have a2 := h2 2 (by omega); have a3 := h2 3 (by omega); have a4 := h2 4 (by omega); have a5 := h2 5 (by omega); have a6 := h2 6 (by omega)
    rw [hv 0 (by omega)] at a0; rw [hv 1 (by omega)] at a1; rw [hv 2 (by omega)] at a2; rw [hv 3 (by omega)] at a3; rw [hv 4 (by omega)] at a4; rw [hv 5 (by omega)] at a5; rw [hv 6 (by omega)] at a6
    exact ⟨Ne.symm a0, Ne.symm a1, Ne.symm a2, Ne.symm a3, Ne.symm a4, Ne.symm a5, Ne.symm a6⟩
  · refine ⟨fun _ => ?_, fun q => by omega⟩
    rw [← h3, hv _ (by omega)]
    exact (by decide : ∀ i, i < 7 → (([60, 61, 43, 45, 42, 40, 41].getD i 0 : Int) = 60 ∨ ([60, 61, 43, 45, 42, 40, 41].getD i 0 : Int) = 61 ∨ ([60, 61, 43, 45, 42, 40, 41].getD i 0 : Int) = 43 ∨ ([60, 61, 43, 45, 42, 40, 41].getD i 0 : Int) = 45 ∨ ([60, 61, 43, 45, 42, 40, 41].getD i 0 : Int) = 42 ∨ ([60, 61, 43, 45, 42, 40, 41].getD i 0 : Int) = 40 ∨ ([60, 61, 43, 45, 42, 40, 41].getD i 0 : Int) = 41)) z.toInt.toNat (by omega)
/-- the names of a program -/
theorem zix_6 {c z : Int32} {v : Int} (h : ZIX (Int32.ofInt 6) c z) (hc : c.toInt = 97 + v) : z.toInt = pgN v := by
  have hn : zn (Int32.ofInt 6) = 9 := by decide
  have hv : ∀ i, i < 9 → zby 6 i = [120, 110, 108, 100, 105, 114, 115, 109, 103].getD i 0 := by decide
  unfold ZIX at h
  rw [hn, show (Int32.ofInt 6).toNatClampNeg = 6 from rfl] at h
  rcases h with ⟨h1, h2⟩ | ⟨h1, h2, h3⟩
  · have a0 := h2 0 (by omega); have a1 := h2 1 (by omega); have a2 := h2 2 (by omega); have a3 := h2 3 (by omega); have a4 := h2 4 (by omega); have a5 := h2 5 (by omega); have a6 := h2 6 (by omega); have a7 := h2 7 (by omega); have a8 := h2 8 (by omega)
    rw [hv 0 (by omega)] at a0; rw [hv 1 (by omega)] at a1; rw [hv 2 (by omega)] at a2; rw [hv 3 (by omega)] at a3; rw [hv 4 (by omega)] at a4; rw [hv 5 (by omega)] at a5; rw [hv 6 (by omega)] at a6; rw [hv 7 (by omega)] at a7; rw [hv 8 (by omega)] at a8
    have b0 : (120 : Int) ≠ c.toInt := a0; have b1 : (110 : Int) ≠ c.toInt := a1; have b2 : (108 : Int) ≠ c.toInt := a2; have b3 : (100 : Int) ≠ c.toInt := a3; have b4 : (105 : Int) ≠ c.toInt := a4; have b5 : (114 : Int) ≠ c.toInt := a5; have b6 : (115 : Int) ≠ c.toInt := a6; have b7 : (109 : Int) ≠ c.toInt := a7; have b8 : (103 : Int) ≠ c.toInt := a8
    unfold pgN
    rw [if_neg (by omega), if_neg (by omega), if_neg (by omega), if_neg (by omega), if_neg (by omega), if_neg (by omega), if_neg (by omega), if_neg (by omega), if_neg (by omega), h1]
  · have h4 : v = [120, 110, 108, 100, 105, 114, 115, 109, 103].getD z.toInt.toNat 0 - 97 := by
      rw [← hv _ (by omega), h3]; omega
    have h5 := (by decide : ∀ i : Nat, i < 9 → (i : Int) = pgN ([120, 110, 108, 100, 105, 114, 115, 109, 103].getD i 0 - 97)) z.toInt.toNat (by omega)
    rw [← h4] at h5
    omega
/-! THE REFERENCE'S READER OF PROGRAMS -/
def rcd (w v : Int) : Int := if w = 0 then v else if w = 1 then 1000000 + v else if w = 2 then 1000226 else 1000100 + w
def dql (a b : Nat → Int32) : Nat → List Int
  | 0 => []
  | k + 1 => rcd (a k).toInt (b k).toInt :: dql a b k
def RWL (s : GS) : List Int := drl (s.1 190) (s.2.2.1 109 111).toInt.toNat
def RQL (s : GS) : List Int := dql (s.1 187) (s.1 188) (s.2.2.1 109 109).toInt.toNat
def DPR (s : GS) : Prop := (s.2.2.1 109 112).toInt = pgD (RWL s)
theorem rcd_0 {v : Int} : rcd 0 v = v := if_pos rfl
theorem rcd_1 {v : Int} : rcd 1 v = 1000000 + v := rfl
theorem rcd_2 {v : Int} : rcd 2 v = 1000226 := rfl
theorem rcd_w {w v : Int} (h : 3 ≤ w) : rcd w v = 1000100 + w := by
  unfold rcd
  rw [if_neg (by omega), if_neg (by omega), if_neg (by omega)]
theorem dql_u {a b : Nat → Int32} {j : Nat} {c d : Int32} : ∀ k, k ≤ j → dql (upd a j c) (upd b j d) k = dql a b k
  | 0, _ => rfl
  | k + 1, h => by
    show rcd (upd a j c k).toInt (upd b j d k).toInt :: dql (upd a j c) (upd b j d) k = rcd (a k).toInt (b k).toInt :: dql a b k
    rw [ug_ne (by omega), ug_ne (by omega), dql_u k (by omega)]
theorem dql_cg {a b a2 b2 : Nat → Int32} : ∀ k, (∀ i, i < k → a i = a2 i ∧ b i = b2 i) → dql a b k = dql a2 b2 k
  | 0, _ => rfl
  | k + 1, h => by
    show rcd (a k).toInt (b k).toInt :: dql a b k = rcd (a2 k).toInt (b2 k).toInt :: dql a2 b2 k
    rw [(h k (by omega)).1, (h k (by omega)).2, dql_cg k (fun i hi => h i (by omega))]
section RL
variable {s t u : GS}
theorem rql_a {c d : Int32} (h1 : t.1 187 = upd (s.1 187) (s.2.2.1 109 109).toNatClampNeg c) (h2 : t.1 188 = upd (s.1 188) (s.2.2.1 109 109).toNatClampNeg d) (hl : (t.2.2.1 109 109).toInt = (s.2.2.1 109 109).toInt + 1) (h0 : 0 ≤ (s.2.2.1 109 109).toInt) : RQL t = rcd c.toInt d.toInt :: RQL s := by
  have e2 : (s.2.2.1 109 109).toNatClampNeg = (s.2.2.1 109 109).toInt.toNat := rfl
  unfold RQL
  rw [show (t.2.2.1 109 109).toInt.toNat = (s.2.2.1 109 109).toInt.toNat + 1 by omega, h1, h2, e2]
  show rcd (upd (s.1 187) (s.2.2.1 109 109).toInt.toNat c (s.2.2.1 109 109).toInt.toNat).toInt (upd (s.1 188) (s.2.2.1 109 109).toInt.toNat d (s.2.2.1 109 109).toInt.toNat).toInt :: dql _ _ (s.2.2.1 109 109).toInt.toNat = _
  rw [ug_at, ug_at, dql_u _ (Nat.le_refl _)]
theorem rql_s (h1 : t.1 187 = s.1 187) (h2 : t.1 188 = s.1 188) (h3 : t.2.2.1 109 109 = s.2.2.1 109 109) : RQL t = RQL s := by
  unfold RQL
  rw [h1, h2, h3]
theorem rwl_s (h1 : t.1 190 = s.1 190) (h2 : t.2.2.1 109 111 = s.2.2.1 109 111) : RWL t = RWL s := by
  unfold RWL
  rw [h1, h2]
theorem rwl_h {c : Int32} (h1 : t.1 190 = upd (s.1 190) (s.2.2.1 109 111).toNatClampNeg c) (hl : (t.2.2.1 109 111).toInt = (s.2.2.1 109 111).toInt + 1) (h0 : 0 ≤ (s.2.2.1 109 111).toInt) : RWL t = c.toInt :: RWL s := by
  have e2 : (s.2.2.1 109 111).toNatClampNeg = (s.2.2.1 109 111).toInt.toNat := rfl
  unfold RWL
  rw [show (t.2.2.1 109 111).toInt.toNat = (s.2.2.1 109 111).toInt.toNat + 1 by omega, h1, e2]
  show (upd (s.1 190) (s.2.2.1 109 111).toInt.toNat c (s.2.2.1 109 111).toInt.toNat).toInt :: drl _ (s.2.2.1 109 111).toInt.toNat = _
  rw [ug_at, drl_u _ (Nat.le_refl _)]
theorem rwl_d (h1 : t.1 190 = s.1 190) (hl : (t.2.2.1 109 111).toInt = (s.2.2.1 109 111).toInt - 1) (h0 : 1 ≤ (s.2.2.1 109 111).toInt) : RWL s = (s.1 190 (t.2.2.1 109 111).toNatClampNeg).toInt :: RWL t := by
  unfold RWL
  rw [show (s.2.2.1 109 111).toInt.toNat = (t.2.2.1 109 111).toInt.toNat + 1 by omega, h1]
  rfl
theorem top_v {k z : Int32} (h1 : k.toInt = (s.2.2.1 109 111).toInt - 1) (h0 : 0 ≤ k.toInt) (ez : z = s.1 190 k.toNatClampNeg) : pgW (RWL s) = z.toInt := by
  unfold RWL
  rw [show (s.2.2.1 109 111).toInt.toNat = k.toInt.toNat + 1 by omega, ez]
  rfl
theorem top_0 (h : (s.2.2.1 109 111).toInt ≤ 0) : RWL s = [] := by
  unfold RWL
  rw [show (s.2.2.1 109 111).toInt.toNat = 0 by omega]
  rfl
theorem top_e (h : RWL s = []) (h0 : 0 ≤ (s.2.2.1 109 111).toInt) : (s.2.2.1 109 111).toInt = 0 := by
  have h1 := drl_n (r := s.1 190) (s.2.2.1 109 111).toInt.toNat
  unfold RWL at h
  rw [h] at h1
  have h2 : 0 = (s.2.2.1 109 111).toInt.toNat := h1
  omega
theorem dpr_b (hd : DPR s) (hw : In (s.2.2.1 109 111) 0 200) : 0 ≤ (s.2.2.1 109 112).toInt ∧ (s.2.2.1 109 112).toInt ≤ 200 := by
  have h1 := pgD_b (RWL s)
  have h2 := drl_n (r := s.1 190) (s.2.2.1 109 111).toInt.toNat
  have h3 : (RWL s).length = (s.2.2.1 109 111).toInt.toNat := h2
  unfold DPR at hd
  unfold In at hw
  omega
theorem dpr_1 {z x : Int32} {w : Int} (hd : DPR s) (hw : In (s.2.2.1 109 111) 0 200) (hR : RWL t = w :: RWL s) (ha : w = 2 ∨ w = 40) (e : z = x + Int32.ofInt 1) (ex : x = s.2.2.1 109 112) (et : z = t.2.2.1 109 112) : DPR t := by
  have hb := dpr_b hd hw
  rw [← ex] at hb
  have h1 : z.toInt = x.toInt + 1 := t_add e (⟨hb.1, hb.2⟩ : In x 0 200) (in_c 1 rfl) rfl
  unfold DPR at hd ⊢
  rw [← et, h1, ex, hd, hR, pgD_1 ha]
theorem dpr_0 {z x : Int32} {w : Int} (hd : DPR s) (hw : In (s.2.2.1 109 111) 0 200) (hR : RWL t = w :: RWL s) (ha : ¬ (w = 2 ∨ w = 40)) (e : z = x + Int32.ofInt 0) (ex : x = s.2.2.1 109 112) (et : z = t.2.2.1 109 112) : DPR t := by
  have hb := dpr_b hd hw
  rw [← ex] at hb
  have h1 : z.toInt = x.toInt + 0 := t_add e (⟨hb.1, hb.2⟩ : In x 0 200) (in_c 0 rfl) rfl
  unfold DPR at hd ⊢
  rw [← et, h1, ex, hd, hR, pgD_0 ha, Int.add_zero]
theorem dpq_1 {z x : Int32} {w : Int} (hd : DPR s) (hw : In (s.2.2.1 109 111) 0 200) (hR : RWL s = w :: RWL t) (ha : w = 2 ∨ w = 40) (e : z = x - Int32.ofInt 1) (ex : x = s.2.2.1 109 112) (et : z = t.2.2.1 109 112) : DPR t := by
  have hb := dpr_b hd hw
  rw [← ex] at hb
  have h1 : z.toInt = x.toInt - 1 := t_sub e (⟨hb.1, hb.2⟩ : In x 0 200) (in_c 1 rfl) rfl
  unfold DPR at hd ⊢
  rw [hR, pgD_1 ha, ← ex] at hd
  rw [← et]
  omega
theorem dpq_0 {z x : Int32} {w : Int} (hd : DPR s) (hw : In (s.2.2.1 109 111) 0 200) (hR : RWL s = w :: RWL t) (ha : ¬ (w = 2 ∨ w = 40)) (e : z = x - Int32.ofInt 0) (ex : x = s.2.2.1 109 112) (et : z = t.2.2.1 109 112) : DPR t := by
  have hb := dpr_b hd hw
  rw [← ex] at hb
  have h1 : z.toInt = x.toInt - 0 := t_sub e (⟨hb.1, hb.2⟩ : In x 0 200) (in_c 0 rfl) rfl
  unfold DPR at hd ⊢
  rw [hR, pgD_0 ha, ← ex] at hd
  rw [← et]
  omega
theorem dpr_s (hd : DPR s) (h1 : RWL t = RWL s) (h2 : t.2.2.1 109 112 = s.2.2.1 109 112) : DPR t := by
  unfold DPR at hd ⊢
  rw [h1, h2]
  exact hd
theorem pgT_o (w : Int) : (w = 42 ∧ pgT w = 3) ∨ ((w = 43 ∨ w = 45) ∧ pgT w = 2) ∨ ((w = 60 ∨ w = 61) ∧ pgT w = 1) ∨ (w ≠ 42 ∧ w ≠ 43 ∧ w ≠ 45 ∧ w ≠ 60 ∧ w ≠ 61 ∧ pgT w = 0) := by
  unfold pgT
  by_cases h1 : w = 42
  · rw [if_pos h1]; exact Or.inl ⟨h1, rfl⟩
  · rw [if_neg h1]
    by_cases h2 : w = 43 ∨ w = 45
    · rw [if_pos h2]; exact Or.inr (Or.inl ⟨h2, rfl⟩)
    · rw [if_neg h2]
      by_cases h3 : w = 60 ∨ w = 61
      · rw [if_pos h3]; exact Or.inr (Or.inr (Or.inl ⟨h3, rfl⟩))
      · rw [if_neg h3]; exact Or.inr (Or.inr (Or.inr ⟨h1, by omega, by omega, by omega, by omega, rfl⟩))
theorem pgN_o (v : Int) : (v = 23 ∧ pgN v = 0) ∨ (v = 13 ∧ pgN v = 1) ∨ (v = 11 ∧ pgN v = 2) ∨ (v = 3 ∧ pgN v = 3) ∨ (v = 8 ∧ pgN v = 4) ∨ (v = 17 ∧ pgN v = 5) ∨ (v = 18 ∧ pgN v = 6) ∨ (v = 12 ∧ pgN v = 7) ∨ (v = 6 ∧ pgN v = 8) ∨ (v ≠ 23 ∧ v ≠ 13 ∧ v ≠ 11 ∧ v ≠ 3 ∧ v ≠ 8 ∧ v ≠ 17 ∧ v ≠ 18 ∧ v ≠ 12 ∧ v ≠ 6 ∧ pgN v = -1) := by
  by_cases h1 : v = 23
  · subst h1; exact Or.inl ⟨rfl, rfl⟩
  by_cases h2 : v = 13
  · subst h2; exact Or.inr (Or.inl ⟨rfl, rfl⟩)
  by_cases h3 : v = 11
  · subst h3; exact Or.inr (Or.inr (Or.inl ⟨rfl, rfl⟩))
  by_cases h4 : v = 3
  · subst h4; exact Or.inr (Or.inr (Or.inr (Or.inl ⟨rfl, rfl⟩)))
  by_cases h5 : v = 8
  · subst h5; exact Or.inr (Or.inr (Or.inr (Or.inr (Or.inl ⟨rfl, rfl⟩))))
  by_cases h6 : v = 17
  · subst h6; exact Or.inr (Or.inr (Or.inr (Or.inr (Or.inr (Or.inl ⟨rfl, rfl⟩)))))
  by_cases h7 : v = 18
  · subst h7; exact Or.inr (Or.inr (Or.inr (Or.inr (Or.inr (Or.inr (Or.inl ⟨rfl, rfl⟩))))))
  by_cases h8 : v = 12
  · subst h8; exact Or.inr (Or.inr (Or.inr (Or.inr (Or.inr (Or.inr (Or.inr (Or.inl ⟨rfl, rfl⟩)))))))
  by_cases h9 : v = 6
  · subst h9; exact Or.inr (Or.inr (Or.inr (Or.inr (Or.inr (Or.inr (Or.inr (Or.inr (Or.inl ⟨rfl, rfl⟩))))))))
  refine Or.inr (Or.inr (Or.inr (Or.inr (Or.inr (Or.inr (Or.inr (Or.inr (Or.inr ⟨h1, h2, h3, h4, h5, h6, h7, h8, h9, ?_⟩))))))))
  unfold pgN
  rw [if_neg h1, if_neg h2, if_neg h3, if_neg h4, if_neg h5, if_neg h6, if_neg h7, if_neg h8, if_neg h9]
/-- settle and turn -/
theorem sl_st {x w : Int} {R : List Int × List Int} (h : pgL x (RWL u) (RQL u) = R) (hw : RWL u = w :: RWL t) (hx : x ≤ pgT w) (hq : RQL t = (1000100 + w) :: RQL u) : pgL x (RWL t) (RQL t) = R := by
  have e : pgL x (w :: RWL t) (RQL u) = pgL x (RWL t) ((1000100 + w) :: RQL u) := if_pos hx
  rw [← h, hw, e, hq]
theorem sl_en {x : Int} {W Q : List Int} (h : pgT (pgW W) < x) : pgL x W Q = (W, Q) := by
  cases W with
  | nil => rfl
  | cons w W =>
    have h1 : pgT w < x := h
    exact if_neg (by omega)
theorem tu_st {R : List Int × List Int} (h : pgU (RWL u) (RQL u) = R) (hw : RWL u = 2 :: RWL t) (hq : RQL t = 1000226 :: RQL u) : pgU (RWL t) (RQL t) = R := by
  have e : pgU (2 :: RWL t) (RQL u) = pgU (RWL t) (1000226 :: RQL u) := if_pos rfl
  rw [← h, hw, e, hq]
theorem tu_en {W Q : List Int} (h : pgW W ≠ 2) : pgU W Q = (W, Q) := by
  cases W with
  | nil => rfl
  | cons w W =>
    have h1 : w ≠ 2 := h
    exact if_neg h1
/-- the token that was read -/
theorem tkN_6 {T : Nat → Int32} {a k : Nat} (hk : k ≤ 6) (h : ∀ i, a ≤ i → i < a + k → tkD (T i)) : 0 ≤ tkN T a k ∧ tkN T a k ≤ 999999 := by
  have b := tkN_b k h
  have p : (10 : Int) ^ k ≤ 1000000 := (by decide : ∀ k, k ≤ 6 → (10 : Int) ^ k ≤ 1000000) k hk
  omega
def NPV (t : GS) (k v : Int) : Prop := (k = 0 ∧ (t.2.2.1 109 28).toInt = 0) ∨ (k = 1 ∧ (t.2.2.1 109 28).toInt = 1 ∧ (t.2.2.1 109 30).toInt = v + 97) ∨ (k = 2 ∧ (t.2.2.1 109 28).toInt = 2 ∧ (t.2.2.2.1 109 31).toInt = v ∧ 0 ≤ v ∧ v ≤ 999999) ∨ (k = 3 ∧ (t.2.2.1 109 28).toInt = 3 ∧ (t.2.2.1 109 30).toInt = v)
def NPK (s t : GS) (k v : Int) : Prop := (k = 4 ∧ FBL s t 1 (t.2.2.1 109 29).toInt) ∨ (k = 5 ∧ FBL s t 4 (t.2.2.1 109 29).toInt) ∨ (FSM s t ∧ NPV t k v)
theorem npk_f {k v : Int} (h : NPK s t k v) (h0 : (s.2.2.1 109 23).toInt = 0) : ((t.2.2.1 109 23).toInt ≠ 0 → (t.2.2.1 109 23).toInt = pgF k ∧ (t.2.2.1 109 24).toInt = (t.2.2.1 109 29).toInt ∧ 4 ≤ k) ∧ ((t.2.2.1 109 23).toInt = 0 → NPV t k v) := by
  rcases h with ⟨h1, h2⟩ | ⟨h1, h2⟩ | ⟨h1, h2⟩
  · have h3 := h2.1 h0
    refine ⟨fun _ => ⟨?_, h3.2, by omega⟩, fun q => by omega⟩
    rw [h3.1, h1]; rfl
  · have h3 := h2.1 h0
    refine ⟨fun _ => ⟨?_, h3.2, by omega⟩, fun q => by omega⟩
    rw [h3.1, h1]; rfl
  · refine ⟨fun q => ?_, fun _ => h2⟩
    rw [h1.1] at q
    exact absurd h0 q
/-- what factor makes of it -/
def OKX (x : Int × Int × List Int × List Int) (s t : GS) (b : Int) : Prop := (x.1 = 0 ∧ (t.2.2.1 109 23).toInt = 0 ∧ x.2.1 = b ∧ x.2.2.1 = RWL t ∧ x.2.2.2 = RQL t ∧ DPR t) ∨ (0 < x.1 ∧ (t.2.2.1 109 23).toInt = x.1 ∧ (t.2.2.1 109 24).toInt = (s.2.2.1 109 29).toInt)
def FAC (s t : GS) (R : Int) : Prop := (s.2.2.1 109 23).toInt = 0 → DPR s → ∀ k v, NPV s k v → (R ≠ 0 → OKX (pgX k v (RWL s) (RQL s)) s t 0) ∧ (R = 0 → OKX (pgX k v (RWL s) (RQL s)) s t 1)
/-- .. and behindFactor -/
def BOK (x : Int × Int × List Int × List Int) (s t : GS) (R : Int) : Prop := (x.1 = 0 ∧ (t.2.2.1 109 23).toInt = 0 ∧ ((x.2.1 = 1 ∧ R = 0) ∨ (x.2.1 = 0 ∧ R = 1)) ∧ x.2.2.1 = RWL t ∧ x.2.2.2 = RQL t ∧ DPR t) ∨ (0 < x.1 ∧ (t.2.2.1 109 23).toInt = x.1 ∧ (t.2.2.1 109 24).toInt = (s.2.2.1 109 29).toInt) ∨ (x.1 < 0 ∧ (t.2.2.1 109 23).toInt = 0 ∧ R = 2 ∧ x.2.2.2 = RQL t)
def BEH (s t : GS) (fp R : Int) : Prop := (s.2.2.1 109 23).toInt = 0 → DPR s → ∀ k v, NPV s k v → BOK (pgY fp k v (RWL s) (RQL s)) s t R
theorem npv_0 {k v : Int} (h : NPV s k v) (ht : (s.2.2.1 109 28).toInt = 0) : k = 0 := by
  rcases h with h | h | h | h
  · exact h.1
  · have := h.2.1; omega
  · have := h.2.1; omega
  · have := h.2.1; omega
theorem npv_1 {k v : Int} (h : NPV s k v) (ht : (s.2.2.1 109 28).toInt = 1) : k = 1 ∧ (s.2.2.1 109 30).toInt = v + 97 := by
  rcases h with h | h | h | h
  · have := h.2; omega
  · exact ⟨h.1, h.2.2⟩
  · have := h.2.1; omega
  · have := h.2.1; omega
theorem npv_2 {k v : Int} (h : NPV s k v) (ht : (s.2.2.1 109 28).toInt = 2) : k = 2 ∧ (s.2.2.2.1 109 31).toInt = v ∧ 0 ≤ v ∧ v ≤ 999999 := by
  rcases h with h | h | h | h
  · have := h.2; omega
  · have := h.2.1; omega
  · exact ⟨h.1, h.2.2⟩
  · have := h.2.1; omega
theorem npv_3 {k v : Int} (h : NPV s k v) (ht : (s.2.2.1 109 28).toInt = 3) : k = 3 ∧ (s.2.2.1 109 30).toInt = v := by
  rcases h with h | h | h | h
  · have := h.2; omega
  · have := h.2.1; omega
  · have := h.2.1; omega
  · exact ⟨h.1, h.2.2⟩
theorem npv_n {k v : Int} (h : NPV s k v) : (k = 0 ∧ (s.2.2.1 109 28).toInt = 0) ∨ (k = 1 ∧ (s.2.2.1 109 28).toInt = 1) ∨ (k = 2 ∧ (s.2.2.1 109 28).toInt = 2) ∨ (k = 3 ∧ (s.2.2.1 109 28).toInt = 3 ∧ (s.2.2.1 109 30).toInt = v) := by
  rcases h with h | h | h | h
  · exact Or.inl h
  · exact Or.inr (Or.inl ⟨h.1, h.2.1⟩)
  · exact Or.inr (Or.inr (Or.inl ⟨h.1, h.2.1⟩))
  · exact Or.inr (Or.inr (Or.inr h))
section FC
variable {k v b : Int} {W Q : List Int}
theorem px_2 (hk : k = 2) : pgX k v W Q = (0, 0, (pgU W (v :: Q)).1, (pgU W (v :: Q)).2) := by unfold pgX; rw [if_pos hk]
theorem px_1 (hk : k = 1) (hn : 0 ≤ pgN v) : pgX k v W Q = (0, 0, (pgU W ((1000000 + pgN v) :: Q)).1, (pgU W ((1000000 + pgN v) :: Q)).2) := by unfold pgX; rw [if_neg (by omega), if_pos hk, if_neg (by omega)]
theorem px_1x (hk : k = 1) (hn : pgN v < 0) : pgX k v W Q = (5, 0, [], []) := by unfold pgX; rw [if_neg (by omega), if_pos hk, if_pos hn]
theorem px_h {w : Int} (hk : k = 3) (hv : (v = 45 ∧ w = 2) ∨ (v = 40 ∧ w = 40)) (hd : pgD W < 10) : pgX k v W Q = (0, 1, w :: W, Q) := by
  unfold pgX
  rw [if_neg (by omega), if_neg (by omega), if_pos ⟨hk, by omega⟩, if_neg (by omega)]
  rcases hv with ⟨h1, h2⟩ | ⟨h1, h2⟩
  · rw [if_pos h1, h2]
  · rw [if_neg (by omega), h2]
theorem px_3 (hk : k = 3) (hv : v = 45 ∨ v = 40) (hd : 10 ≤ pgD W) : pgX k v W Q = (3, 0, [], []) := by unfold pgX; rw [if_neg (by omega), if_neg (by omega), if_pos ⟨hk, hv⟩, if_pos hd]
theorem px_x (h1 : k ≠ 1) (h2 : k ≠ 2) (h3 : ¬ (k = 3 ∧ (v = 45 ∨ v = 40))) (h4 : k ≠ 4) (h5 : k ≠ 5) : pgX k v W Q = (2, 0, [], []) := by
  unfold pgX
  rw [if_neg h2, if_neg h1, if_neg h3]
  unfold pgF
  rw [if_neg h4, if_neg h5]
/-- the ways of factor -/
theorem fac_f {f : Int} (hx : pgX k v (RWL s) (RQL s) = (f, 0, [], [])) (hf : 0 < f) (h1 : (t.2.2.1 109 23).toInt = f) (h2 : (t.2.2.1 109 24).toInt = (s.2.2.1 109 29).toInt) : OKX (pgX k v (RWL s) (RQL s)) s t b := by
  rw [hx]
  exact Or.inr ⟨hf, h1, h2⟩
theorem fac_u {c : Int} (hx : pgX k v (RWL s) (RQL s) = (0, 0, (pgU (RWL s) (c :: RQL s)).1, (pgU (RWL s) (c :: RQL s)).2)) (hu : pgU (RWL u) (RQL u) = (RWL t, RQL t)) (h1 : RWL u = RWL s) (h2 : RQL u = c :: RQL s) (h0 : (t.2.2.1 109 23).toInt = 0) (hd : DPR t) : OKX (pgX k v (RWL s) (RQL s)) s t 0 := by
  rw [h1, h2] at hu
  rw [hx, hu]
  exact Or.inl ⟨rfl, h0, rfl, rfl, rfl, hd⟩
theorem fac_h {w : Int} (hx : pgX k v (RWL s) (RQL s) = (0, 1, w :: RWL s, RQL s)) (h1 : RWL t = w :: RWL s) (h2 : RQL t = RQL s) (h0 : (t.2.2.1 109 23).toInt = 0) (hd : DPR t) : OKX (pgX k v (RWL s) (RQL s)) s t 1 := by
  rw [hx]
  exact Or.inl ⟨rfl, h0, rfl, h1.symm, h2.symm, hd⟩
end FC
section BF
variable {fp k v : Int}
theorem py_z {W Q : List Int} : pgY fp k v W Q = pgZ fp k v 0 W Q := (if_neg (by decide)).symm
theorem pz_45 {b : Int} {W Q : List Int} (h4 : 4 ≤ k) (h5 : k ≤ 5) : pgZ fp k v b W Q = (pgF k, 0, [], []) := by
  unfold pgZ
  by_cases c : b = 1
  · rw [if_pos c]
    unfold pgX
    rw [if_neg (by omega), if_neg (by omega), if_neg (by omega)]
  · rw [if_neg c]
    unfold pgY
    rw [if_neg (by omega), if_neg (by omega), if_neg (by omega), if_neg (by omega)]
theorem bok_f {f R : Int} (hx : pgZ fp k v 0 (RWL s) (RQL s) = (f, 0, [], [])) (hf : 0 < f) (h1 : (t.2.2.1 109 23).toInt = f) (h2 : (t.2.2.1 109 24).toInt = (s.2.2.1 109 29).toInt) : BOK (pgY fp k v (RWL s) (RQL s)) s t R := by
  rw [py_z, hx]
  exact Or.inr (Or.inl ⟨hf, h1, h2⟩)
theorem bok_d (hk : (k = 3 ∧ v = 59 ∧ fp = 1) ∨ (k = 0 ∧ fp = 0)) (hl : pgL 1 (RWL s) (RQL s) = (RWL t, RQL t)) (hw : (t.2.2.1 109 111).toInt ≤ 0) (h0 : (t.2.2.1 109 23).toInt = 0) : BOK (pgY fp k v (RWL s) (RQL s)) s t 2 := by
  rw [top_0 hw] at hl
  rw [py_z, pz_dn hk hl]
  exact Or.inr (Or.inr ⟨by show (-1 : Int) < 0; decide, h0, rfl, rfl⟩)
theorem bok_g {R b : Int} {W Q : List Int} (hx : pgZ fp k v 0 (RWL s) (RQL s) = (0, b, W, Q)) (hR : (b = 1 ∧ R = 0) ∨ (b = 0 ∧ R = 1)) (h0 : (t.2.2.1 109 23).toInt = 0) (h1 : RWL t = W) (h2 : RQL t = Q) (hd : DPR t) : BOK (pgY fp k v (RWL s) (RQL s)) s t R := by
  rw [py_z, hx]
  exact Or.inl ⟨rfl, h0, hR, h1.symm, h2.symm, hd⟩
theorem bo_a (hk : k = 0 ∨ k = 3 ∧ v = 59) (hl : pgL 1 (RWL s) (RQL s) = (RWL u, RQL u)) (hn : 0 < (u.2.2.1 109 111).toInt ∨ ¬ (k = 0 ∧ fp ≠ 1 ∨ k = 3 ∧ fp = 1)) : pgZ fp k v 0 (RWL s) (RQL s) = (2, 0, [], []) := by
  have hT := pgT_o v
  have e : pgF k = 2 := by unfold pgF; rw [if_neg (by omega), if_neg (by omega)]
  rw [← e]
  refine pz_no (fun q => by omega) (fun q1 q2 => by omega) (fun q => by omega) (fun q => ?_)
  rcases hn with hn | hn
  · have q1 := q.1
    rw [hl] at q1
    have q2 := top_e q1 (by omega)
    omega
  · have q2 := q.2
    omega
theorem bo_r (hk : k = 3) (hv : pgT v = 1) (hl : pgL 2 (RWL s) (RQL s) = (RWL u, RQL u)) (ht : pgT (pgW (RWL u)) = 1) : pgZ fp k v 0 (RWL s) (RQL s) = (2, 0, [], []) := by
  have hT := pgT_o v
  have e : pgF k = 2 := by unfold pgF; rw [if_neg (by omega), if_neg (by omega)]
  rw [← e]
  refine pz_no (fun q => by omega) (fun _ _ => ?_) (fun q => by omega) (fun q => ?_)
  · rw [hl]; exact ht
  · have q2 := q.2
    omega
theorem bo_c (hk : k = 3) (hv : v = 41) (hl : pgL 1 (RWL s) (RQL s) = (RWL u, RQL u)) (ht : pgW (RWL u) ≠ 40) : pgZ fp k v 0 (RWL s) (RQL s) = (2, 0, [], []) := by
  have hT := pgT_o v
  have e : pgF k = 2 := by unfold pgF; rw [if_neg (by omega), if_neg (by omega)]
  rw [← e]
  refine pz_no (fun q => by omega) (fun _ _ => by omega) (fun q => ?_) (fun q => ?_)
  · have q1 := q.2.2
    rw [hl] at q1
    exact ht q1
  · have q2 := q.2
    omega
theorem bo_e (hk : k = 1 ∨ k = 2 ∨ (k = 3 ∧ pgT v = 0 ∧ v ≠ 59 ∧ v ≠ 41)) : pgZ fp k v 0 (RWL s) (RQL s) = (2, 0, [], []) := by
  have e : pgF k = 2 := by unfold pgF; rw [if_neg (by omega), if_neg (by omega)]
  rw [← e]
  refine pz_no (fun q => by omega) (fun _ _ => by omega) (fun q => by omega) (fun q => ?_)
  have q2 := q.2
  omega
theorem bo_cl {w : GS} (hk : k = 3) (hv : v = 41) (hl : pgL 1 (RWL s) (RQL s) = (RWL u, RQL u)) (ht : pgW (RWL u) = 40) {x : Int} (hd : RWL u = x :: RWL w) (hq : RQL w = RQL u) (hu : pgU (RWL w) (RQL w) = (RWL t, RQL t)) : pgZ fp k v 0 (RWL s) (RQL s) = (0, 0, RWL t, RQL t) := by
  rw [hd] at ht
  have hx : x = 40 := ht
  rw [hd, hx] at hl
  rw [pz_cl hk hv hl]
  rw [hq] at hu
  rw [hu]
end BF
/-- the reference's loop: b, a factor is wanted; m, it goes on -/
def EXI (T : Nat → Int32) (n : Nat) (fp : Int) (a0 : Nat) (Q0 : List Int) (t : GS) (b m : Int) : Prop := ((t.2.2.1 109 23).toInt ≠ 0 → OUT T n fp a0 1 [] Q0 ((t.2.2.1 109 23).toInt, (t.2.2.1 109 24).toInt, 0, [])) ∧ ((t.2.2.1 109 23).toInt = 0 → m ≠ 0 → DPR t ∧ ∀ r, OUT T n fp (t.2.2.1 109 27).toInt.toNat (if b = 0 then 0 else 1) (RWL t) (RQL t) r → OUT T n fp a0 1 [] Q0 r) ∧ ((t.2.2.1 109 23).toInt = 0 → m = 0 → OUT T n fp a0 1 [] Q0 (-2, 0, (t.2.2.1 109 27).toInt.toNat, RQL t))
theorem tup4 {X : Int × Int × List Int × List Int} {a : Int} (h : X.1 = a) : X = (a, X.2.1, X.2.2.1, X.2.2.2) := by
  subst h
  rfl
section EX
variable {T : Nat → Int32} {n a0 : Nat} {fp k v b b2 m m2 R : Int} {Q0 : List Int} {w v2 : GS}
theorem ex_0 (h0 : (t.2.2.1 109 23).toInt = 0) (ha : (t.2.2.1 109 27).toInt.toNat = a0) (hw : (t.2.2.1 109 111).toInt ≤ 0) (hd : (t.2.2.1 109 112).toInt = 0) (hq : RQL t = Q0) (hb : b ≠ 0) (hm : m ≠ 0) : EXI T n fp a0 Q0 t b m := by
  refine ⟨fun q => absurd h0 q, fun _ _ => ⟨?_, fun r hr => ?_⟩, fun _ q => absurd q hm⟩
  · unfold DPR
    rw [top_0 hw, hd]; rfl
  · rw [ha, if_neg hb, top_0 hw, hq] at hr
    exact hr
theorem ex_f (g : EXI T n fp a0 Q0 u b m) (hm : m ≠ 0) (hu : (u.2.2.1 109 23).toInt = 0) (hk : PKN T n (u.2.2.1 109 27).toInt.toNat (t.2.2.1 109 29).toInt.toNat (t.2.2.1 109 27).toInt.toNat k v) (hn : NPK u t k v) (ht : (t.2.2.1 109 23).toInt ≠ 0) (hp : 0 ≤ (t.2.2.1 109 29).toInt) : EXI T n fp a0 Q0 t b2 m2 := by
  refine ⟨fun _ => ?_, fun q => absurd q ht, fun q => absurd q ht⟩
  obtain ⟨h1, h2, h3⟩ := (npk_f hn hu).1 ht
  have g1 := (g.2.1 hu hm).2 _ (out_f hk (pz_45 h3 (pkn_k hk).2) pgF_p)
  rw [h1, h2, show (t.2.2.1 109 29).toInt = (((t.2.2.1 109 29).toInt.toNat : Nat) : Int) by omega]
  exact g1
/-- what stays while a token is read -/
def SRD (u w : GS) : Prop := RWL w = RWL u ∧ RQL w = RQL u ∧ w.2.2.1 109 112 = u.2.2.1 109 112
theorem srd_fr {L : FM} (hF : Fr L u w) (hk : (qI L.1 187 && qI L.1 188 && qI L.1 190 && qF L.2.2.1 109 109 && qF L.2.2.1 109 111 && qF L.2.2.1 109 112) = true) : SRD u w := by
  simp only [Bool.and_eq_true] at hk
  obtain ⟨⟨⟨⟨⟨h1, h2⟩, h3⟩, h4⟩, h5⟩, h6⟩ := hk
  exact ⟨rwl_s (hF.1 190 h3) (hF.2.2.1 109 111 h5), rql_s (hF.1 187 h1) (hF.1 188 h2) (hF.2.2.1 109 109 h4), hF.2.2.1 109 112 h6⟩
theorem ex_w (g : EXI T n fp a0 Q0 u b m) (hm : m ≠ 0) (hb : b ≠ 0) (hu : (u.2.2.1 109 23).toInt = 0) (hk : PKN T n (u.2.2.1 109 27).toInt.toNat (w.2.2.1 109 29).toInt.toNat (w.2.2.1 109 27).toInt.toNat k v) (hn : NPK u w k v) (hw : (w.2.2.1 109 23).toInt = 0) (hs : SRD u w) (f : FAC w t R) (h1 : R ≠ 0 → b2 = 0) (h2 : R = 0 → b2 ≠ 0) (ha : t.2.2.1 109 27 = w.2.2.1 109 27) (hp : 0 ≤ (w.2.2.1 109 29).toInt) (hm2 : m2 ≠ 0) : EXI T n fp a0 Q0 t b2 m2 := by
  obtain ⟨gd, g⟩ := g.2.1 hu hm
  rw [if_neg hb] at g
  have fv := f hw (dpr_s gd hs.1 hs.2.2) k v ((npk_f hn hu).2 hw)
  rw [hs.1, hs.2.1] at fv
  have ez : pgZ fp k v 1 (RWL u) (RQL u) = pgX k v (RWL u) (RQL u) := if_pos rfl
  have fw : OKX (pgX k v (RWL u) (RQL u)) w t (if b2 = 0 then 0 else 1) := by
    by_cases c : R = 0
    · rw [if_neg (h2 c)]; exact fv.2 c
    · rw [if_pos (h1 c)]; exact fv.1 c
  rcases fw with ⟨x1, x2, x3, x4, x5, x6⟩ | ⟨x1, x2, x3⟩
  · refine ⟨fun q => absurd x2 q, fun _ _ => ⟨x6, fun r hr => g r ?_⟩, fun _ q => absurd q hm2⟩
    refine out_go (b2 := (pgX k v (RWL u) (RQL u)).2.1) (W2 := (pgX k v (RWL u) (RQL u)).2.2.1) (Q2 := (pgX k v (RWL u) (RQL u)).2.2.2) hk (ez.trans (tup4 x1)) ?_
    rw [x3, x4, x5, ← ha]
    exact hr
  · refine ⟨fun _ => ?_, fun q => by omega, fun q => by omega⟩
    rw [x2, x3, show (w.2.2.1 109 29).toInt = (((w.2.2.1 109 29).toInt.toNat : Nat) : Int) by omega]
    exact g _ (out_f (b2 := (pgX k v (RWL u) (RQL u)).2.1) (W2 := (pgX k v (RWL u) (RQL u)).2.2.1) (Q2 := (pgX k v (RWL u) (RQL u)).2.2.2) hk (ez.trans (tup4 rfl)) x1)
theorem ex_b (g : EXI T n fp a0 Q0 u b m) (hm : m ≠ 0) (hb : b = 0) (hu : (u.2.2.1 109 23).toInt = 0) (hk : PKN T n (u.2.2.1 109 27).toInt.toNat (w.2.2.1 109 29).toInt.toNat (w.2.2.1 109 27).toInt.toNat k v) (hn : NPK u w k v) (hw : (w.2.2.1 109 23).toInt = 0) (hs : SRD u w) (f : BEH w t fp R) (h0 : R = 0 → b2 ≠ 0 ∧ m2 ≠ 0) (h1 : R = 1 → b2 = 0 ∧ m2 ≠ 0) (h2 : R = 2 → m2 = 0) (ha : t.2.2.1 109 27 = w.2.2.1 109 27) (hp : 0 ≤ (w.2.2.1 109 29).toInt) : EXI T n fp a0 Q0 t b2 m2 := by
  obtain ⟨gd, g⟩ := g.2.1 hu hm
  rw [if_pos hb] at g
  have fv := f hw (dpr_s gd hs.1 hs.2.2) k v ((npk_f hn hu).2 hw)
  rw [hs.1, hs.2.1, py_z] at fv
  rcases fv with ⟨x1, x2, x3, x4, x5, x6⟩ | ⟨x1, x2, x3⟩ | ⟨x1, x2, x3, x4⟩
  · have x7 : (pgZ fp k v 0 (RWL u) (RQL u)).2.1 = (if b2 = 0 then 0 else 1) ∧ m2 ≠ 0 := by
      rcases x3 with ⟨y1, y2⟩ | ⟨y1, y2⟩
      · obtain ⟨y3, y4⟩ := h0 y2
        rw [if_neg y3]; exact ⟨y1, y4⟩
      · obtain ⟨y3, y4⟩ := h1 y2
        rw [if_pos y3]; exact ⟨y1, y4⟩
    refine ⟨fun q => absurd x2 q, fun _ _ => ⟨x6, fun r hr => g r ?_⟩, fun _ q => absurd q x7.2⟩
    refine out_go (b2 := (pgZ fp k v 0 (RWL u) (RQL u)).2.1) (W2 := (pgZ fp k v 0 (RWL u) (RQL u)).2.2.1) (Q2 := (pgZ fp k v 0 (RWL u) (RQL u)).2.2.2) hk (tup4 x1) ?_
    rw [x7.1, x4, x5, ← ha]
    exact hr
  · refine ⟨fun _ => ?_, fun q => by omega, fun q => by omega⟩
    rw [x2, x3, show (w.2.2.1 109 29).toInt = (((w.2.2.1 109 29).toInt.toNat : Nat) : Int) by omega]
    exact g _ (out_f (b2 := (pgZ fp k v 0 (RWL u) (RQL u)).2.1) (W2 := (pgZ fp k v 0 (RWL u) (RQL u)).2.2.1) (Q2 := (pgZ fp k v 0 (RWL u) (RQL u)).2.2.2) hk (tup4 rfl) x1)
  · refine ⟨fun q => absurd x2 q, fun _ q => absurd (h2 x3) q, fun _ _ => ?_⟩
    rw [ha, ← x4]
    refine g _ ⟨1, _, _, k, v, hk, Or.inr (Or.inr ⟨x1, rfl⟩)⟩
/-- how an expression ends -/
def EXZ (T : Nat → Int32) (n : Nat) (fp : Int) (s t : GS) : Prop := ((t.2.2.1 109 23).toInt ≠ 0 → OUT T n fp (s.2.2.1 109 27).toInt.toNat 1 [] (RQL s) ((t.2.2.1 109 23).toInt, (t.2.2.1 109 24).toInt, 0, [])) ∧ ((t.2.2.1 109 23).toInt = 0 → OUT T n fp (s.2.2.1 109 27).toInt.toNat 1 [] (RQL s) (-2, 0, (t.2.2.1 109 27).toInt.toNat, RQL t))
theorem ex_e (g : EXI T n fp (s.2.2.1 109 27).toInt.toNat (RQL s) t b m) (h : m = 0 ∨ (t.2.2.1 109 23).toInt ≠ 0) : EXZ T n fp s t := by
  refine ⟨g.1, fun q => g.2.2 q ?_⟩
  rcases h with h | h
  · exact h
  · exact absurd q h
theorem exp_t (e1 : u.1 125 = s.1 125) (e2 : u.2.2.1 109 22 = s.2.2.1 109 22) (h : EXZ (u.1 125) (u.2.2.1 109 22).toInt.toNat fp w t) : EXZ (s.1 125) (s.2.2.1 109 22).toInt.toNat fp w t := by
  rw [← e1, ← e2]; exact h
/-- the program that is taken over -/
def RPP (t : GS) (Q1 Q2 : List Int) : Prop := dql (t.1 184) (t.1 185) (t.1 186 1).toInt.toNat = Q1 ∧ dql (t.1 184) (t.1 185) (t.1 186 2).toInt.toNat = Q2
def SRQ (s t : GS) : Prop := t.1 184 = s.1 184 ∧ t.1 185 = s.1 185 ∧ t.1 186 = s.1 186
def PGQ (T : Nat → Int32) (n : Nat) (s t : GS) (z : Int) : Prop := (z = 0 ∧ (t.2.2.1 109 23).toInt = 0 ∧ ∃ Q1 Q2, PGO T n 0 0 0 Q1 Q2 ∧ RPP t Q1 Q2) ∨ (z = -4 ∧ PGO T n (-4) (t.2.2.1 109 23).toInt (t.2.2.1 109 24).toInt [] [] ∧ SRQ s t ∧ 0 < (t.2.2.1 109 23).toInt)
theorem srq_fr {L : FM} (hF : Fr L s t) (hk : (qI L.1 184 && qI L.1 185 && qI L.1 186) = true) : SRQ s t := by
  simp only [Bool.and_eq_true] at hk
  exact ⟨hF.1 184 hk.1.1, hF.1 185 hk.1.2, hF.1 186 hk.2⟩
theorem pgq_0 (hn : 120 < n) (h1 : (t.2.2.1 109 23).toInt = 2) (h2 : (t.2.2.1 109 24).toInt = 120) : PGO T n (-4) (t.2.2.1 109 23).toInt (t.2.2.1 109 24).toInt [] [] := Or.inr ⟨rfl, by omega, Or.inl ⟨hn, h1, h2⟩⟩
theorem pgq_1 (hn : n ≤ 120) (h0 : 0 < (t.2.2.1 109 23).toInt) (ha : (u.2.2.1 109 27).toInt.toNat = 0) (hq : RQL u = []) (h : EXZ T n 1 u w) (e1 : t.2.2.1 109 23 = w.2.2.1 109 23) (e2 : t.2.2.1 109 24 = w.2.2.1 109 24) : PGO T n (-4) (t.2.2.1 109 23).toInt (t.2.2.1 109 24).toInt [] [] := by
  have h1 := h.1 (by rw [← e1]; omega)
  rw [ha, hq, ← e1, ← e2] at h1
  exact Or.inr ⟨rfl, by omega, Or.inr ⟨hn, Or.inl h1⟩⟩
theorem pgq_2 {x : GS} (hn : n ≤ 120) (h0 : 0 < (t.2.2.1 109 23).toInt) (ha : (u.2.2.1 109 27).toInt.toNat = 0) (hq : RQL u = []) (h : EXZ T n 1 u w) (hw : (w.2.2.1 109 23).toInt = 0) (ea : (x.2.2.1 109 27) = w.2.2.1 109 27) (eq : RQL x = RQL w) (g : EXZ T n 0 x v2) (e1 : t.2.2.1 109 23 = v2.2.2.1 109 23) (e2 : t.2.2.1 109 24 = v2.2.2.1 109 24) : PGO T n (-4) (t.2.2.1 109 23).toInt (t.2.2.1 109 24).toInt [] [] := by
  have h1 := h.2 hw
  rw [ha, hq] at h1
  have g1 := g.1 (by rw [← e1]; omega)
  rw [ea, eq, ← e1, ← e2] at g1
  exact Or.inr ⟨rfl, by omega, Or.inr ⟨hn, Or.inr ⟨_, _, h1, g1⟩⟩⟩
theorem pgq_3 {x : GS} (hn : n ≤ 120) (ha : (u.2.2.1 109 27).toInt.toNat = 0) (hq : RQL u = []) (h : EXZ T n 1 u w) (hw : (w.2.2.1 109 23).toInt = 0) (ea : (x.2.2.1 109 27) = w.2.2.1 109 27) (eq : RQL x = RQL w) (g : EXZ T n 0 x v2) (hv : (v2.2.2.1 109 23).toInt = 0) : PGO T n 0 0 0 (RQL w) (RQL v2) := by
  have h1 := h.2 hw
  rw [ha, hq] at h1
  have g1 := g.2 hv
  rw [ea, eq] at g1
  exact Or.inl ⟨rfl, hn, _, _, h1, g1⟩
theorem rql_0 (h : Int32.ofInt 0 = s.2.2.1 109 109) : RQL s = [] := by
  unfold RQL
  rw [← h]
  rfl
/-- the draft of a good program -/
def PG8 (T : Nat → Int32) (n : Nat) (t : GS) : Prop := (t.2.2.1 109 23).toInt = 0 ∧ ∃ Q1 Q2, PGO T n 0 0 0 Q1 Q2 ∧ dql (t.1 187) (t.1 188) (t.1 189 1).toInt.toNat = Q1 ∧ dql (t.1 187) (t.1 188) (t.1 189 2).toInt.toNat = Q2
theorem pg8_s {a c : Nat} {x y : Int32} (h : PG8 T n s) : PG8 T n (sI (sI s 184 a x) 185 c y) := by
  obtain ⟨h0, Q1, Q2, h1, h2, h3⟩ := h
  have e1 : (sI (sI s 184 a x) 185 c y).1 187 = s.1 187 := (sI_p rfl).trans (sI_p rfl)
  have e2 : (sI (sI s 184 a x) 185 c y).1 188 = s.1 188 := (sI_p rfl).trans (sI_p rfl)
  have e3 : (sI (sI s 184 a x) 185 c y).1 189 = s.1 189 := (sI_p rfl).trans (sI_p rfl)
  exact ⟨h0, Q1, Q2, h1, by rw [e1, e2, e3]; exact h2, by rw [e1, e2, e3]; exact h3⟩
theorem pg8_i {a c : Int32} (hp : PGO T n 0 0 0 (RQL s) (RQL t)) (pq : PQ (sI s 189 (Int32.ofInt 1).toNatClampNeg a) t) (hr : t.1 189 = (sI s 189 (Int32.ofInt 1).toNatClampNeg a).1 189) (ha : a = s.2.2.1 109 109) (hc : c = t.2.2.1 109 109) (h0 : (t.2.2.1 109 23).toInt = 0) : PG8 T n (sI t 189 (Int32.ofInt 2).toNatClampNeg c) := by
  have e1 : (sI t 189 (Int32.ofInt 2).toNatClampNeg c).1 187 = t.1 187 := sI_p rfl
  have e2 : (sI t 189 (Int32.ofInt 2).toNatClampNeg c).1 188 = t.1 188 := sI_p rfl
  have e3 : (sI t 189 (Int32.ofInt 2).toNatClampNeg c).1 189 1 = a := by
    rw [sI_q, ug_ne (by decide), hr, sI_q]
    exact ug_at
  have e4 : (sI t 189 (Int32.ofInt 2).toNatClampNeg c).1 189 2 = c := by
    rw [sI_q]
    exact ug_at
  refine ⟨h0, RQL s, RQL t, hp, ?_, ?_⟩
  · rw [e1, e2, e3, ha]
    refine dql_cg _ (fun i hi => ?_)
    have q := pq.2 i (by show (i : Int) < (s.2.2.1 109 109).toInt; omega)
    rw [sI_p rfl, sI_p rfl] at q
    exact q
  · rw [e1, e2, e4, hc]
    rfl
theorem pg8_e {y z w1 w2 : Int32} (h : PG8 T n s) (hq : QQ s) (hc : ∀ k : Nat, (k : Int) < y.toInt → s.1 184 k = s.1 187 k ∧ s.1 185 k = s.1 188 k) (ez : z = s.2.2.1 109 109) (hy : z.toInt ≤ y.toInt) (e1 : w1 = s.1 189 (Int32.ofInt 1).toNatClampNeg) (e2 : w2 = s.1 189 (Int32.ofInt 2).toNatClampNeg) : PGQ T n u (sI (sI s 186 (Int32.ofInt 1).toNatClampNeg w1) 186 (Int32.ofInt 2).toNatClampNeg w2) 0 := by
  obtain ⟨h0, Q1, Q2, h1, h2, h3⟩ := h
  obtain ⟨q1, q2, q3, -, -⟩ := hq
  have f1 : (sI (sI s 186 (Int32.ofInt 1).toNatClampNeg w1) 186 (Int32.ofInt 2).toNatClampNeg w2).1 184 = s.1 184 := (sI_p rfl).trans (sI_p rfl)
  have f2 : (sI (sI s 186 (Int32.ofInt 1).toNatClampNeg w1) 186 (Int32.ofInt 2).toNatClampNeg w2).1 185 = s.1 185 := (sI_p rfl).trans (sI_p rfl)
  have f3 : (sI (sI s 186 (Int32.ofInt 1).toNatClampNeg w1) 186 (Int32.ofInt 2).toNatClampNeg w2).1 186 1 = w1 := by
    rw [sI_q, ug_ne (by decide), sI_q]
    exact ug_at
  have f4 : (sI (sI s 186 (Int32.ofInt 1).toNatClampNeg w1) 186 (Int32.ofInt 2).toNatClampNeg w2).1 186 2 = w2 := by
    rw [sI_q]
    exact ug_at
  have g1 : w1 = s.1 189 1 := e1
  have g2 : w2 = s.1 189 2 := e2
  refine Or.inl ⟨rfl, h0, Q1, Q2, h1, ?_, ?_⟩
  · rw [f1, f2, f3, g1, ← h2]
    refine dql_cg _ (fun i hi => hc i ?_)
    rw [ez] at hy
    omega
  · rw [f1, f2, f4, g2, ← h3]
    refine dql_cg _ (fun i hi => hc i ?_)
    rw [q3] at hi
    rw [ez] at hy
    omega
end EX
end RL

/-! each row that is written is one of its kind -/
def OKR (w v : Int32) : Prop := w.toInt ≠ 126 ∧ (w.toInt = 0 → 0 ≤ v.toInt ∧ v.toInt < 1000000) ∧ (w.toInt = 1 → 0 ≤ v.toInt ∧ v.toInt ≤ 8) ∧ 0 ≤ w.toInt
def QOK (s : GS) : Prop := ∀ i : Nat, (i : Int) < (s.2.2.1 109 109).toInt → OKR (s.1 187 i) (s.1 188 i)
def POK (s : GS) : Prop := ∀ i : Nat, (i : Int) < (s.1 186 2).toInt → OKR (s.1 184 i) (s.1 185 i)
section QOK
variable {s t : GS} {w v : Int32} {L : FM}
theorem okr_b (h : 2 < w.toInt) (h2 : w.toInt ≠ 126) : OKR w v := ⟨h2, fun e => by omega, fun e => by omega, by omega⟩
theorem okr_2 (h : w.toInt = 2) : OKR w v := ⟨by omega, fun e => by omega, fun e => by omega, by omega⟩
theorem okr_0 (h : w.toInt = 0) (h1 : 0 ≤ v.toInt) (h2 : v.toInt ≤ 999999) : OKR w v := ⟨by omega, fun _ => ⟨h1, by omega⟩, fun e => by omega, by omega⟩
theorem okr_1 (h : w.toInt = 1) (h1 : 0 ≤ v.toInt) (h2 : v.toInt ≤ 8) : OKR w v := ⟨by omega, fun e => by omega, fun _ => ⟨h1, h2⟩, by omega⟩
theorem qok_fr (h : QOK s) (hF : Fr L s t) (hk : (qI L.1 187 && qI L.1 188 && qF L.2.2.1 109 109) = true) : QOK t := by
  simp only [Bool.and_eq_true] at hk
  unfold QOK at h ⊢
  rw [hF.1 187 hk.1.1, hF.1 188 hk.1.2, hF.2.2.1 109 109 hk.2]
  exact h
theorem qok_0 (h : (s.2.2.1 109 109).toInt = 0) : QOK s := fun i hi => by omega
theorem qok_a (h : QOK s) (h1 : t.1 187 = upd (s.1 187) (s.2.2.1 109 109).toNatClampNeg w) (h2 : t.1 188 = upd (s.1 188) (s.2.2.1 109 109).toNatClampNeg v) (hl : (t.2.2.1 109 109).toInt = (s.2.2.1 109 109).toInt + 1) (h0 : 0 ≤ (s.2.2.1 109 109).toInt) (ho : OKR w v) : QOK t := by
  intro i hi
  rw [h1, h2]
  have e : (s.2.2.1 109 109).toNatClampNeg = (s.2.2.1 109 109).toInt.toNat := rfl
  by_cases c : i = (s.2.2.1 109 109).toNatClampNeg
  · rw [c, ug_at, ug_at]; exact ho
  · rw [ug_ne c, ug_ne c]; exact h i (by omega)
theorem pok_e {y w1 w2 : Int32} (h : QOK s) (hc : ∀ k : Nat, (k : Int) < y.toInt → s.1 184 k = s.1 187 k ∧ s.1 185 k = s.1 188 k) (h2 : s.1 189 2 = s.2.2.1 109 109) (hy : (s.2.2.1 109 109).toInt ≤ y.toInt) (e2 : w2 = s.1 189 (Int32.ofInt 2).toNatClampNeg) : POK (sI (sI s 186 (Int32.ofInt 1).toNatClampNeg w1) 186 (Int32.ofInt 2).toNatClampNeg w2) := by
  intro i hi
  have e : (sI (sI s 186 (Int32.ofInt 1).toNatClampNeg w1) 186 (Int32.ofInt 2).toNatClampNeg w2).1 186 2 = w2 := by
    rw [sI_q]
    exact ug_at
  rw [e, e2, show (Int32.ofInt 2).toNatClampNeg = 2 from rfl, h2] at hi
  have k := hc i (by omega)
  rw [sI_p rfl, sI_p rfl, sI_p rfl, sI_p rfl, k.1, k.2]
  exact h i hi
end QOK
/-! PROGRAMS RUN -/
def clp (v : Int) : Int := if 1000000000000 < v then 1000000000000 else if v < -1000000000000 then -1000000000000 else v
def BD (v : Int) : Prop := -1000000000000 ≤ v ∧ v ≤ 1000000000000
theorem clp_o (v : Int) : (1000000000000 < v → clp v = 1000000000000) ∧ (v < -1000000000000 → clp v = -1000000000000) ∧ (-1000000000000 ≤ v → v ≤ 1000000000000 → clp v = v) := by
  unfold clp
  refine ⟨fun h => if_pos h, fun h => by rw [if_neg (by omega), if_pos h], fun h1 h2 => by rw [if_neg (by omega), if_neg (by omega)]⟩
theorem clp_b (v : Int) : BD (clp v) := by
  have h := clp_o v
  unfold BD
  by_cases c1 : 1000000000000 < v
  · rw [h.1 c1]; omega
  · by_cases c2 : v < -1000000000000
    · rw [h.2.1 c2]; omega
    · rw [h.2.2 (by omega) (by omega)]; omega
theorem clp_i {v : Int} (h : BD v) : clp v = v := (clp_o v).2.2 h.1 h.2
theorem bd_n {v : Int} (h : BD v) : BD (-v) := by unfold BD at *; omega
theorem bd_i {x : Int32} : BD x.toInt := by
  have h := i_rng x
  unfold In at h
  unfold BD
  omega
theorem vu_at {f : Nat → Int64} {k : Nat} {x : Int64} : vp_updL f k x k = x := if_pos rfl
theorem vu_ne {f : Nat → Int64} {j k : Nat} {x : Int64} (h : j ≠ k) : vp_updL f k x j = f j := if_neg h
theorem sL_v {s : GS} {q j : Nat} {v : Int64} : (sL s q j v).2.1 q = vp_updL (s.2.1 q) j v := by simp [sL]
theorem ldq_v {x y z : Int64} (e : z = x / y) (h0 : 0 ≤ x.toInt) (hy : 0 < y.toInt) : z.toInt = x.toInt / y.toInt := by
  have b := (l_rng x).2
  have q := Int.ediv_le_self (a := x.toInt) y.toInt h0
  have q0 : 0 ≤ x.toInt / y.toInt := Int.ediv_nonneg h0 (by omega)
  rw [e, Int64.toInt_div, Int.tdiv_eq_ediv_of_nonneg h0]
  exact Int.bmod_eq_of_le (by omega) (by omega)
/-! a product within the bound -/
def ABS (x a : Int64) : Prop := (0 ≤ x.toInt ∧ a = x) ∨ (x.toInt < 0 ∧ a = -x)
theorem abs_v {x a : Int64} (h : ABS x a) (hb : BD x.toInt) : 0 ≤ a.toInt ∧ (a.toInt = x.toInt ∨ a.toInt = -x.toInt) := by
  unfold BD at hb
  rcases h with ⟨h0, rfl⟩ | ⟨h0, e⟩
  · exact ⟨h0, Or.inl rfl⟩
  · have t := lneg_t e (by omega) (by omega)
    exact ⟨by omega, Or.inr t⟩
theorem tms_p {a b A D : Int} (hA : A = a ∨ A = -a) (hD : D = b ∨ D = -b) : A * D = a * b ∨ A * D = -(a * b) := by
  rcases hA with rfl | rfl <;> rcases hD with rfl | rfl
  · exact Or.inl rfl
  · exact Or.inr (Int.mul_neg _ _)
  · exact Or.inr (Int.neg_mul _ _)
  · exact Or.inl (Int.neg_mul_neg _ _)
theorem tms_1 {a b A D q : Int} (hA : A = a ∨ A = -a) (hA0 : 0 < A) (hD : D = b ∨ D = -b) (hD0 : 0 ≤ D) (hq : q = 1000000000000 / A) (h : D ≤ q) : BD (a * b) := by
  have m : A * D ≤ A * q := Int.mul_le_mul_of_nonneg_left h (by omega)
  have k := Int.mul_ediv_self_le (x := 1000000000000) (k := A) (by omega)
  have p : 0 ≤ A * D := Int.mul_nonneg (by omega) hD0
  rw [← hq] at k
  unfold BD
  rcases tms_p hA hD with e | e <;> omega
theorem tms_2 {a b A D q : Int} (hA : A = a ∨ A = -a) (hA0 : 0 < A) (hD : D = b ∨ D = -b) (hq : q = 1000000000000 / A) (h : q < D) : 1000000000000 < A * D ∧ 0 < D := by
  have k := Int.lt_mul_ediv_self_add (x := 1000000000000) (k := A) hA0
  have q0 : 0 ≤ q := by rw [hq]; exact Int.ediv_nonneg (by decide) (by omega)
  have m : A * (q + 1) ≤ A * D := Int.mul_le_mul_of_nonneg_left (by omega) (by omega)
  rw [← hq] at k
  rw [Int.mul_add, Int.mul_one] at m
  exact ⟨by omega, by omega⟩
section TM
variable {x y z a b q : Int64}
theorem tm_0 (e : z = x * y) (h : x.toInt = 0) : z.toInt = clp (x.toInt * y.toInt) := by
  have hz : x.toInt * y.toInt = 0 := by rw [h, Int.zero_mul]
  rw [lmul_t e (by omega) (by omega), hz]
  rfl
theorem tm_q (ha : 0 < a.toInt) (hq : q = Int64.ofInt 1000000000000 / a) : q.toInt = 1000000000000 / a.toInt := by
  have h := ldq_v hq (by decide) ha
  exact h
theorem tm_1 (hx : BD x.toInt) (hy : BD y.toInt) (ha : ABS x a) (hb : ABS y b) (hn : x.toInt ≠ 0) (hq : q = Int64.ofInt 1000000000000 / a) (h : b.toInt ≤ q.toInt) (e : z = x * y) : z.toInt = clp (x.toInt * y.toInt) := by
  have va := abs_v ha hx
  have vb := abs_v hb hy
  have hp := tms_1 va.2 (by omega) vb.2 vb.1 (tm_q (by omega) hq) h
  rw [clp_i hp]
  unfold BD at hp
  exact lmul_t e (by omega) (by omega)
theorem tm_2 (hx : BD x.toInt) (hy : BD y.toInt) (ha : ABS x a) (hb : ABS y b) (hn : x.toInt ≠ 0) (hq : q = Int64.ofInt 1000000000000 / a) (h : q.toInt < b.toInt) (hs : 0 < x.toInt ↔ 0 < y.toInt) : (Int64.ofInt 1000000000000).toInt = clp (x.toInt * y.toInt) := by
  have va := abs_v ha hx
  have vb := abs_v hb hy
  have hp := tms_2 va.2 (by omega) vb.2 (tm_q (by omega) hq) h
  have h0 : 0 ≤ x.toInt * y.toInt := by
    by_cases c : 0 < x.toInt
    · exact Int.mul_nonneg (by omega) (by have := hs.mp c; omega)
    · have c2 : ¬ 0 < y.toInt := fun k => c (hs.mpr k)
      exact Int.mul_nonneg_of_nonpos_of_nonpos (by omega) (by omega)
  rw [(clp_o _).1 (by rcases tms_p va.2 vb.2 with e | e <;> omega)]
  rfl
theorem tm_3 (hx : BD x.toInt) (hy : BD y.toInt) (ha : ABS x a) (hb : ABS y b) (hn : x.toInt ≠ 0) (hq : q = Int64.ofInt 1000000000000 / a) (h : q.toInt < b.toInt) (hs : (0 < x.toInt ∧ y.toInt ≤ 0) ∨ (x.toInt ≤ 0 ∧ 0 < y.toInt)) : (Int64.ofInt (-1000000000000)).toInt = clp (x.toInt * y.toInt) := by
  have va := abs_v ha hx
  have vb := abs_v hb hy
  have hp := tms_2 va.2 (by omega) vb.2 (tm_q (by omega) hq) h
  have h0 : x.toInt * y.toInt ≤ 0 := by
    rcases hs with ⟨c, d⟩ | ⟨c, d⟩
    · have m := Int.mul_nonneg (a := x.toInt) (b := -y.toInt) (by omega) (by omega)
      rw [Int.mul_neg] at m
      omega
    · have m := Int.mul_nonneg (a := -x.toInt) (b := y.toInt) (by omega) (by omega)
      rw [Int.neg_mul] at m
      omega
  rw [(clp_o _).2.1 (by rcases tms_p va.2 vb.2 with e | e <;> omega)]
  rfl
end TM
def cmb (c a b : Int) : Int := if c = 43 then clp (a + b) else if c = 45 then clp (a - b) else if c = 42 then clp (a * b) else if c = 60 then (if a < b then 1 else 0) else (if a = b then 1 else 0)
section CMB
variable {c a b : Int}
theorem cmb_p (h : c = 43) : cmb c a b = clp (a + b) := if_pos h
theorem cmb_m (h : c = 45) : cmb c a b = clp (a - b) := by unfold cmb; rw [if_neg (by omega), if_pos h]
theorem cmb_t (h : c = 42) : cmb c a b = clp (a * b) := by unfold cmb; rw [if_neg (by omega), if_neg (by omega), if_pos h]
theorem cmb_l (h : c = 60) : cmb c a b = if a < b then 1 else 0 := by unfold cmb; rw [if_neg (by omega), if_neg (by omega), if_neg (by omega), if_pos h]
theorem cmb_e (h1 : c ≠ 42) (h2 : c ≠ 43) (h3 : c ≠ 45) (h4 : c ≠ 60) : cmb c a b = if a = b then 1 else 0 := by unfold cmb; rw [if_neg h2, if_neg h3, if_neg h1, if_neg h4]
theorem cmb_b : BD (cmb c a b) := by
  unfold cmb
  split
  · exact clp_b _
  · split
    · exact clp_b _
    · split
      · exact clp_b _
      · split <;> split <;> (unfold BD; omega)
end CMB
/-! a program in postfix is worked out -/
def evs (c : Int) (V : Nat → Int) (l : List Int) : List Int := if c < 1000000 then c :: l else if c < 1000100 then V (c - 1000000).toNat :: l else if c = 1000226 then (match l with | a :: r => -a :: r | [] => []) else (match l with | b :: a :: r => cmb (c - 1000100) a b :: r | r => r)
def evl (C V : Nat → Int) (i : Nat) : Nat → List Int
  | 0 => []
  | k + 1 => evs (C (i + k)) V (evl C V i k)
def bot : List Int → Int
  | [] => 0
  | [a] => a
  | _ :: b :: l => bot (b :: l)
def EVP (C V : Nat → Int) (a b : Nat) : Int := bot (evl C V a (b - a))
def STK (f : Nat → Int64) : List Int → Prop
  | [] => True
  | a :: l => (f l.length).toInt = a ∧ BD a ∧ STK f l
section EVS
variable {c : Int} {V : Nat → Int} {l : List Int}
theorem evs_n (h : c < 1000000) : evs c V l = c :: l := if_pos h
theorem evs_v (h1 : ¬ c < 1000000) (h2 : c < 1000100) : evs c V l = V (c - 1000000).toNat :: l := by unfold evs; rw [if_neg h1, if_pos h2]
theorem evs_m {a : Int} (h : c = 1000226) : evs c V (a :: l) = -a :: l := by unfold evs; rw [if_neg (by omega), if_neg (by omega), if_pos h]
theorem evs_b {a b : Int} (h1 : ¬ c < 1000100) (h2 : c ≠ 1000226) : evs c V (b :: a :: l) = cmb (c - 1000100) a b :: l := by unfold evs; rw [if_neg (by omega), if_neg h1, if_neg h2]
end EVS
theorem stk_cg {f g : Nat → Int64} : ∀ {l : List Int}, (∀ j, j < l.length → f j = g j) → STK f l → STK g l
  | [], _, _ => trivial
  | _ :: l, h, q => ⟨by rw [← h l.length (Nat.lt_succ_self _)]; exact q.1, q.2.1, stk_cg (fun j hj => h j (Nat.lt_succ_of_lt hj)) q.2.2⟩
theorem stk_p {f : Nat → Int64} {l : List Int} {k : Nat} {x : Int64} {a : Int} (h : STK f l) (hk : k = l.length) (hx : x.toInt = a) (hb : BD a) : STK (vp_updL f k x) (a :: l) := ⟨by rw [← hk, vu_at]; exact hx, hb, stk_cg (fun j hj => (vu_ne (by omega)).symm) h⟩
theorem stk_b : ∀ {l : List Int} {f : Nat → Int64}, STK f l → l ≠ [] → (f 0).toInt = bot l
  | [], _, _, h => absurd rfl h
  | [_], _, q, _ => q.1
  | _ :: b :: l, _, q, _ => stk_b (l := b :: l) q.2.2 (fun z => by cases z)
/-- what has been worked out before code i: k values lie on the pile -/
def EVI (C V : Nat → Int) (a i k : Int) (f : Nat → Int64) : Prop := STK f (evl C V a.toNat (i.toNat - a.toNat)) ∧ (evl C V a.toNat (i.toNat - a.toNat)).length = k.toNat ∧ (a < i → 1 ≤ k)
section EVI
variable {C V : Nat → Int} {a i i2 k k2 c : Int} {f g : Nat → Int64} {z : Int64} {j : Nat}
theorem evi_0 (hk : k = 0) : EVI C V a a k f := by
  unfold EVI
  rw [Nat.sub_self]
  exact ⟨trivial, by rw [hk]; rfl, fun h => by omega⟩
theorem evi_s (h : EVI C V a i k f) (h0 : 0 ≤ a) (hai : a ≤ i) (hi : i2 = i + 1) (hC : C i.toNat = c) (hl : ∀ l : List Int, l.length = k.toNat → STK f l → STK g (evs c V l) ∧ (evs c V l).length = k2.toNat) (hk : 1 ≤ k2) : EVI C V a i2 k2 g := by
  have e : i2.toNat - a.toNat = (i.toNat - a.toNat) + 1 := by omega
  have e2 : a.toNat + (i.toNat - a.toNat) = i.toNat := by omega
  have ee : evl C V a.toNat (i2.toNat - a.toNat) = evs c V (evl C V a.toNat (i.toNat - a.toNat)) := by
    rw [e]
    show evs (C (a.toNat + (i.toNat - a.toNat))) V _ = _
    rw [e2, hC]
  have q := hl _ h.2.1 h.1
  unfold EVI
  rw [ee]
  exact ⟨q.1, q.2, fun _ => hk⟩
theorem evi_n (h : EVI C V a i k f) (h0 : 0 ≤ a) (hai : a ≤ i) (hi : i2 = i + 1) (hk0 : 0 ≤ k) (hk : k2 = k + 1) (hj : (j : Int) = k) (hC : C i.toNat = c) {w : Int} (hw : ∀ l, evs c V l = w :: l) (hz : z.toInt = w) (hb : BD w) : EVI C V a i2 k2 (vp_updL f j z) :=
  evi_s h h0 hai hi hC (fun l hl q => by rw [hw]; exact ⟨stk_p q (by omega) hz hb, by show l.length + 1 = _; omega⟩) (by omega)
theorem evi_m (h : EVI C V a i k f) (h0 : 0 ≤ a) (hai : a ≤ i) (hi : i2 = i + 1) (hk : 1 ≤ k) (hj : (j : Int) = k - 1) (hC : C i.toNat = c) (hc : c = 1000226) (hz : BD (f j).toInt → z.toInt = -(f j).toInt) : EVI C V a i2 k (vp_updL f j z) := by
  refine evi_s h h0 hai hi hC (fun l hl q => ?_) hk
  cases l with
  | nil => exact absurd hl (by show ¬ 0 = _; omega)
  | cons b r =>
    have hr : r.length + 1 = k.toNat := hl
    have ej : j = r.length := by omega
    have q1 : (f j).toInt = b := by rw [ej]; exact q.1
    rw [evs_m hc]
    exact ⟨stk_p q.2.2 ej (by rw [hz (by rw [q1]; exact q.2.1), q1]) (bd_n q.2.1), hl⟩
theorem evi_b {j1 : Nat} (h : EVI C V a i k f) (h0 : 0 ≤ a) (hai : a ≤ i) (hi : i2 = i + 1) (hk : 2 ≤ k) (hk2 : k2 = k - 1) (hj : (j : Int) = k - 2) (hj1 : (j1 : Int) = k - 1) (hC : C i.toNat = c) (h1 : ¬ c < 1000100) (h2 : c ≠ 1000226) (hz : z.toInt = cmb (c - 1000100) (f j).toInt (f j1).toInt) : EVI C V a i2 k2 (vp_updL f j z) := by
  refine evi_s h h0 hai hi hC (fun l hl q => ?_) (by omega)
  match l, hl, q with
  | [], hl, _ => exact absurd hl (by show ¬ 0 = _; omega)
  | [_], hl, _ => exact absurd hl (by show ¬ 1 = _; omega)
  | b :: d :: r, hl, q =>
    have hr : r.length + 1 + 1 = k.toNat := hl
    have ej : j = r.length := by omega
    have ej1 : j1 = r.length + 1 := by omega
    have q1 : (f j1).toInt = b := by rw [ej1]; exact q.1
    have q2 : (f j).toInt = d := by rw [ej]; exact q.2.2.1
    rw [evs_b h1 h2]
    exact ⟨stk_p q.2.2.2.2 ej (by rw [hz, q1, q2]) cmb_b, by show r.length + 1 = _; omega⟩
theorem evi_1 (h : EVI C V a i k f) (hk : 1 ≤ k) (hj : (j : Int) = k - 1) : BD (f j).toInt := by
  obtain ⟨q, hl, -⟩ := h
  match evl C V a.toNat (i.toNat - a.toNat), hl, q with
  | [], hl, _ => exact absurd hl (by show ¬ 0 = _; omega)
  | b :: r, hl, q =>
    have hr : r.length + 1 = k.toNat := hl
    have ej : j = r.length := by omega
    have q1 : (f j).toInt = b := by rw [ej]; exact q.1
    rw [q1]
    exact q.2.1
theorem evi_2 (h : EVI C V a i k f) (hk : 2 ≤ k) (hj : (j : Int) = k - 2) : BD (f j).toInt := by
  obtain ⟨q, hl, -⟩ := h
  match evl C V a.toNat (i.toNat - a.toNat), hl, q with
  | [], hl, _ => exact absurd hl (by show ¬ 0 = _; omega)
  | [_], hl, _ => exact absurd hl (by show ¬ 1 = _; omega)
  | b :: d :: r, hl, q =>
    have hr : r.length + 1 + 1 = k.toNat := hl
    have ej : j = r.length := by omega
    have q1 : (f j).toInt = d := by rw [ej]; exact q.2.2.1
    rw [q1]
    exact q.2.2.2.1
theorem evi_e (h : EVI C V a i k f) (hai : a < i) (hz : z = f 0) : z.toInt = EVP C V a.toNat i.toNat := by
  have h1 := h.2.2 hai
  rw [hz]
  refine stk_b h.1 (fun e => ?_)
  have hl := h.2.1
  rw [e] at hl
  exact absurd hl (by show ¬ 0 = _; omega)
end EVI
/-- codes that name what there is -/
def CDO (c : Int) : Prop := 1000000 ≤ c → c < 1000100 → c ≤ 1000008
theorem evl_cg {C D V W : Nat → Int} {i : Nat} : ∀ k : Nat, (∀ j, j < k → C (i + j) = D (i + j) ∧ CDO (C (i + j))) → (∀ j, j ≤ 8 → V j = W j) → evl C V i k = evl D W i k
  | 0, _, _ => rfl
  | k + 1, h, hV => by
    have e := evl_cg k (fun j hj => h j (by omega)) hV
    have hk := h k (by omega)
    show evs (C (i + k)) V (evl C V i k) = evs (D (i + k)) W (evl D W i k)
    rw [e, ← hk.1]
    by_cases c1 : C (i + k) < 1000000
    · rw [evs_n c1, evs_n c1]
    · by_cases c2 : C (i + k) < 1000100
      · have := hk.2 (by omega) c2
        rw [evs_v c1 c2, evs_v c1 c2, hV _ (by omega)]
      · unfold evs
        rw [if_neg c1, if_neg c2, if_neg c1, if_neg c2]
theorem evp_cg {C D V W : Nat → Int} {a b : Nat} (h : ∀ j, j < b → C j = D j ∧ CDO (C j)) (hV : ∀ j, j ≤ 8 → V j = W j) : EVP C V a b = EVP D W a b := by
  unfold EVP
  by_cases c : a ≤ b
  · rw [evl_cg (b - a) (fun j hj => h (a + j) (by omega)) hV]
  · rw [show b - a = 0 by omega]; rfl
/-- all that is worked out stays within the bound -/
theorem evl_b {C V : Nat → Int} {i : Nat} (hV : ∀ j, BD (V j)) (hC : ∀ j, C j < 1000000 → BD (C j)) : ∀ k : Nat, ∀ x, x ∈ evl C V i k → BD x
  | 0, x, h => by cases h
  | k + 1, x, h => by
    have ih := evl_b (i := i) hV hC k
    have h2 : x ∈ evs (C (i + k)) V (evl C V i k) := h
    by_cases c1 : C (i + k) < 1000000
    · rw [evs_n c1] at h2
      rcases List.mem_cons.mp h2 with e | e
      · rw [e]; exact hC _ c1
      · exact ih x e
    · by_cases c2 : C (i + k) < 1000100
      · rw [evs_v c1 c2] at h2
        rcases List.mem_cons.mp h2 with e | e
        · rw [e]; exact hV _
        · exact ih x e
      · by_cases c3 : C (i + k) = 1000226
        · revert h2 ih
          generalize evl C V i k = l
          intro ih h2
          cases l with
          | nil =>
            have e : evs (C (i + k)) V [] = [] := by unfold evs; rw [if_neg c1, if_neg c2, if_pos c3]
            rw [e] at h2
            cases h2
          | cons a r =>
            rw [evs_m c3] at h2
            rcases List.mem_cons.mp h2 with e | e
            · rw [e]; exact bd_n (ih a (List.mem_cons_self))
            · exact ih x (List.mem_cons_of_mem _ e)
        · revert h2 ih
          generalize evl C V i k = l
          intro ih h2
          match l, ih, h2 with
          | [], _, h2 =>
            have e : evs (C (i + k)) V [] = [] := by unfold evs; rw [if_neg c1, if_neg c2, if_neg c3]
            rw [e] at h2
            cases h2
          | [a], ih, h2 =>
            have e : evs (C (i + k)) V [a] = [a] := by unfold evs; rw [if_neg c1, if_neg c2, if_neg c3]
            rw [e] at h2
            exact ih x h2
          | b :: a :: r, ih, h2 =>
            rw [evs_b c2 c3] at h2
            rcases List.mem_cons.mp h2 with e | e
            · rw [e]; exact cmb_b
            · exact ih x (List.mem_cons_of_mem _ (List.mem_cons_of_mem _ e))
theorem bot_b : ∀ l : List Int, (∀ x, x ∈ l → BD x) → BD (bot l)
  | [], _ => by show BD 0; unfold BD; omega
  | [a], h => h a List.mem_cons_self
  | _ :: b :: l, h => bot_b (b :: l) (fun x hx => h x (List.mem_cons_of_mem _ hx))
theorem evp_b {C V : Nat → Int} {a b : Nat} (hV : ∀ j, BD (V j)) (hC : ∀ j, C j < 1000000 → BD (C j)) : BD (EVP C V a b) := bot_b _ (evl_b hV hC _)
/-! what the names stand for -/
def fdl (E : Nat → Int) (v : Int) (f : Nat → Int → Int) (a : Int) : Nat → Int
  | 0 => a
  | p + 1 => if E p = v then f p (fdl E v f a p) else fdl E v f a p
theorem fd_h {E : Nat → Int} {v : Int} {f : Nat → Int → Int} {a : Int} {p : Nat} (h : E p = v) : fdl E v f a (p + 1) = f p (fdl E v f a p) := if_pos h
theorem fd_m {E : Nat → Int} {v : Int} {f : Nat → Int → Int} {a : Int} {p : Nat} (h : E p ≠ v) : fdl E v f a (p + 1) = fdl E v f a p := if_neg h
/-- no hit between: nothing changes -/
theorem fd_e {E : Nat → Int} {v : Int} {f : Nat → Int → Int} {a : Int} {p : Nat} : ∀ k : Nat, cn E v (p + k) = cn E v p → fdl E v f a (p + k) = fdl E v f a p
  | 0, _ => rfl
  | k + 1, h => by
    have m1 := cn_mono E v (show p + k ≤ p + k + 1 by omega)
    have m2 := cn_mono E v (show p ≤ p + k by omega)
    have hh : cn E v (p + k + 1) = cn E v p := h
    have e : E (p + k) ≠ v := fun q => by
      rw [cn_hit q] at hh
      omega
    rw [cn_miss e] at hh
    show fdl E v f a (p + k + 1) = _
    rw [fd_m e]
    exact fd_e k hh
theorem fd_q {E : Nat → Int} {v : Int} {f : Nat → Int → Int} {a : Int} {p q : Nat} (h : cn E v p = cn E v q) : fdl E v f a p = fdl E v f a q := by
  rcases Nat.le_total p q with c | c
  · obtain ⟨k, rfl⟩ := Nat.exists_eq_add_of_le c
    exact (fd_e k h.symm).symm
  · obtain ⟨k, rfl⟩ := Nat.exists_eq_add_of_le c
    exact fd_e k h
theorem fd_cg {E F : Nat → Int} {v : Int} {f g : Nat → Int → Int} {a : Int} : ∀ n : Nat, (∀ p, p < n → E p = F p) → (∀ p, p < n → E p = v → ∀ x, f p x = g p x) → fdl E v f a n = fdl F v g a n
  | 0, _, _ => rfl
  | n + 1, h, hf => by
    have e := fd_cg (a := a) n (fun p hp => h p (by omega)) (fun p hp => hf p (by omega))
    have hn := h n (by omega)
    by_cases c : E n = v
    · rw [fd_h c, fd_h (hn.symm.trans c), e]
      exact hf n (by omega) c _
    · rw [fd_m c, fd_m (fun z => c (hn.trans z)), e]
def mnv (a b : Int) : Int := if a ≤ b then a else b
def mxv (a b : Int) : Int := if b ≤ a then a else b
theorem mnv_1 {a b : Int} (h : a ≤ b) : mnv a b = a := if_pos h
theorem mnv_2 {a b : Int} (h : b ≤ a) : mnv a b = b := by
  unfold mnv
  split <;> omega
theorem mxv_1 {a b : Int} (h : b ≤ a) : mxv a b = a := if_pos h
theorem mxv_2 {a b : Int} (h : a ≤ b) : mxv a b = b := by
  unfold mxv
  split <;> omega
theorem mnv_b {a b : Int} (ha : BD a) (hb : BD b) : BD (mnv a b) := by
  unfold mnv
  split
  · exact ha
  · exact hb
theorem mxv_b {a b : Int} (ha : BD a) (hb : BD b) : BD (mxv a b) := by
  unfold mxv
  split
  · exact ha
  · exact hb
/-- the state where an arc begins, and what it is with the arc's weight -/
def vlF (g : GVW) (X : Nat → Int) (p : Nat) : Int := X (g.2.1 p).toInt.toNat
def vlW (g : GVW) (X : Nat → Int) (p : Nat) : Int := clp (vlF g X p + (g.2.2.2.1 p).toInt)
def vlS (g : GVW) (X : Nat → Int) (v : Int) (q : Nat) : Int := fdl (ARE g 1) v (fun p a => a + vlF g X p) 0 q
def vlM (g : GVW) (X : Nat → Int) (v : Int) (q : Nat) : Int := fdl (ARE g 1) v (fun p a => mnv a (vlW g X p)) 1000000000000 q
def vlG (g : GVW) (X : Nat → Int) (v : Int) (q : Nat) : Int := fdl (ARE g 1) v (fun p a => mxv a (vlW g X p)) (-1000000000000) q
def VAL (g : GVW) (X : Nat → Int) (v : Nat) (r : Int) : Nat → Int
  | 0 => X v
  | 1 => (v : Int)
  | 2 => (g.1 v).toInt
  | 3 => cn (ARE g 0) (v : Int) 160
  | 4 => cn (ARE g 1) (v : Int) 160
  | 5 => r
  | 6 => clp (vlS g X (v : Int) 160)
  | 7 => vlM g X (v : Int) 160
  | _ => vlG g X (v : Int) 160
/-- the states of nodes stay within the bound -/
def XBD (n : Int) (X : Nat → Int) : Prop := ∀ u : Nat, (u : Int) < n → BD (X u)
theorem vlf_b {g : GVW} {X : Nat → Int} (hn : NDQ g) (hX : XBD g.2.2.2.2.2.2.1 X) {v : Int} {p : Nat} (hp : p < 160) (h : ARE g 1 p = v) (hv : 0 ≤ v) : BD (vlF g X p) ∧ 0 ≤ (g.2.1 p).toInt ∧ (g.2.1 p).toInt < g.2.2.2.2.2.2.1 := by
  have ne : (g.2.1 p).toInt ≠ -1 := fun z => by rw [are_no z] at h; omega
  have q := (hn p hp ne).1
  exact ⟨hX _ (by omega), q⟩
theorem vls_b {g : GVW} {X : Nat → Int} (hn : NDQ g) (hX : XBD g.2.2.2.2.2.2.1 X) {v : Int} (hv : 0 ≤ v) : ∀ q : Nat, q ≤ 160 → -((q : Int) * 1000000000000) ≤ vlS g X v q ∧ vlS g X v q ≤ (q : Int) * 1000000000000
  | 0, _ => ⟨by show _ ≤ (0 : Int); omega, by show (0 : Int) ≤ _; omega⟩
  | q + 1, hq => by
    have ih := vls_b hn hX hv q (by omega)
    by_cases c : ARE g 1 q = v
    · have b := (vlf_b hn hX (by omega) c hv).1
      have e : vlS g X v (q + 1) = vlS g X v q + vlF g X q := fd_h c
      unfold BD at b
      rw [e]
      omega
    · have e : vlS g X v (q + 1) = vlS g X v q := fd_m c
      rw [e]
      omega
theorem vlm_b {g : GVW} {X : Nat → Int} {v : Int} : ∀ q : Nat, BD (vlM g X v q) ∧ BD (vlG g X v q)
  | 0 => ⟨by show BD 1000000000000; unfold BD; omega, by show BD (-1000000000000); unfold BD; omega⟩
  | q + 1 => by
    have ih := vlm_b (g := g) (X := X) (v := v) q
    by_cases c : ARE g 1 q = v
    · have e1 : vlM g X v (q + 1) = mnv (vlM g X v q) (vlW g X q) := fd_h c
      have e2 : vlG g X v (q + 1) = mxv (vlG g X v q) (vlW g X q) := fd_h c
      rw [e1, e2]
      exact ⟨mnv_b ih.1 (clp_b _), mxv_b ih.2 (clp_b _)⟩
    · have e1 : vlM g X v (q + 1) = vlM g X v q := fd_m c
      have e2 : vlG g X v (q + 1) = vlG g X v q := fd_m c
      rw [e1, e2]
      exact ih
theorem val_b {g : GVW} {X : Nat → Int} {v : Nat} {r : Int} (hX : BD (X v)) (hv : v < 32) (hr : BD r) : ∀ k : Nat, BD (VAL g X v r k)
  | 0 => hX
  | 1 => by show BD (v : Int); unfold BD; omega
  | 2 => bd_i
  | 3 => by
    show BD (cn (ARE g 0) (v : Int) 160)
    have a := cn_0 (ARE g 0) (v : Int) 160
    have b := cn_le (ARE g 0) (v : Int) 160
    unfold BD; omega
  | 4 => by
    show BD (cn (ARE g 1) (v : Int) 160)
    have a := cn_0 (ARE g 1) (v : Int) 160
    have b := cn_le (ARE g 1) (v : Int) 160
    unfold BD; omega
  | 5 => hr
  | 6 => clp_b _
  | 7 => (vlm_b 160).1
  | _ + 8 => (vlm_b 160).2
section VCG
variable {g h : GVW} {X Y : Nat → Int} {v : Nat} {r : Int}
theorem vlf_cg (q : GEW g h) (hn : NDQ g) (hX : ∀ u : Nat, (u : Int) < g.2.2.2.2.2.2.1 → X u = Y u) {p : Nat} (hp : p < 160) (hE : ARE g 1 p = (v : Int)) : vlF g X p = vlF h Y p ∧ vlW g X p = vlW h Y p := by
  have ne : (g.2.1 p).toInt ≠ -1 := fun z => by rw [are_no z] at hE; omega
  have d := (hn p hp ne).1
  have a1 : vlF g X p = vlF h Y p := by
    unfold vlF
    rw [← q.2.1 p hp]
    exact hX _ (by omega)
  refine ⟨a1, ?_⟩
  unfold vlW
  rw [a1, (q.2.2.1 p hp ne).2.1]
theorem vls_cg (q : GEW g h) (hn : NDQ g) (hX : ∀ u : Nat, (u : Int) < g.2.2.2.2.2.2.1 → X u = Y u) {n : Nat} (hb : n ≤ 160) : vlS g X (v : Int) n = vlS h Y (v : Int) n ∧ vlM g X (v : Int) n = vlM h Y (v : Int) n ∧ vlG g X (v : Int) n = vlG h Y (v : Int) n := by
  have e1 : ∀ j, j < n → ARE g 1 j = ARE h 1 j := fun j hj => are_e q (by omega)
  unfold vlS vlM vlG
  refine ⟨fd_cg n e1 (fun p hp hE x => ?_), fd_cg n e1 (fun p hp hE x => ?_), fd_cg n e1 (fun p hp hE x => ?_)⟩
  · rw [(vlf_cg q hn hX (by omega) hE).1]
  · rw [(vlf_cg q hn hX (by omega) hE).2]
  · rw [(vlf_cg q hn hX (by omega) hE).2]
theorem val_3 {X : Nat → Int} : VAL g X v r 3 = cn (ARE g 0) (v : Int) 160 := rfl
theorem val_4 {X : Nat → Int} : VAL g X v r 4 = cn (ARE g 1) (v : Int) 160 := rfl
theorem val_6 {X : Nat → Int} : VAL g X v r 6 = clp (vlS g X (v : Int) 160) := rfl
theorem val_7 {X : Nat → Int} : VAL g X v r 7 = vlM g X (v : Int) 160 := rfl
theorem val_8 {X : Nat → Int} {k : Nat} : VAL g X v r (k + 8) = vlG g X (v : Int) 160 := rfl
theorem val_cg (q : GEW g h) (hn : NDQ g) (hv : (v : Int) < g.2.2.2.2.2.2.1) (hX : ∀ u : Nat, (u : Int) < g.2.2.2.2.2.2.1 → X u = Y u) (k : Nat) : VAL g X v r k = VAL h Y v r k := by
  have c := vls_cg (v := v) q hn hX (Nat.le_refl 160)
  match k with
  | 0 => exact hX v hv
  | 1 => rfl
  | 2 => exact congrArg Int32.toInt (q.1 v hv)
  | 3 => rw [val_3, val_3]; exact cn_eq 160 (fun j hj => are_e q hj)
  | 4 => rw [val_4, val_4]; exact cn_eq 160 (fun j hj => are_e q hj)
  | 5 => rfl
  | 6 => rw [val_6, val_6, c.1]
  | 7 => rw [val_7, val_7, c.2.1]
  | k + 8 => rw [val_8, val_8, c.2.2]
end VCG
/-! rounds -/
def STA (g : GVW) (C : Nat → Int) (a b : Nat) : Nat → Nat → Int
  | 0 => fun v => EVP C (VAL g (fun _ => 0) v 0) 0 a
  | r + 1 => fun v => EVP C (VAL g (STA g C a b r) v ((r : Int) + 1)) a b
def CHG (g : GVW) (C : Nat → Int) (a b : Nat) (r : Nat) : Prop := ∃ v : Nat, (v : Int) < g.2.2.2.2.2.2.1 ∧ STA g C a b (r + 1) v ≠ STA g C a b r v
/-- the answer of a run: the first round that changes nothing, or all of them -/
def RNS (g : GVW) (C : Nat → Int) (a b : Nat) (m z : Int) : Prop := 0 ≤ z ∧ z ≤ m ∧ (∀ r : Nat, (r : Int) + 1 < z → CHG g C a b r) ∧ (z < m → 1 ≤ z ∧ ¬ CHG g C a b (z - 1).toNat)
def CBD (C : Nat → Int) : Prop := ∀ j, C j < 1000000 → BD (C j)
theorem sta_b {g : GVW} {C : Nat → Int} {a b : Nat} (hC : CBD C) (h32 : g.2.2.2.2.2.2.1 ≤ 32) : ∀ r : Nat, r ≤ 1000 → XBD g.2.2.2.2.2.2.1 (STA g C a b r)
  | 0, _ => fun u hu => evp_b (val_b (by show BD 0; unfold BD; omega) (by omega) (by unfold BD; omega)) hC
  | r + 1, hr => fun u hu => evp_b (val_b (sta_b hC h32 r (by omega) u hu) (by omega) (by unfold BD; omega)) hC
/-- codes alike -/
def CAL (C D : Nat → Int) (b : Nat) : Prop := ∀ j, j < b → C j = D j ∧ CDO (C j)
theorem sta_cg {g h : GVW} {C D : Nat → Int} {a b : Nat} (q : GEW g h) (hn : NDQ g) (hC : CAL C D b) (hab : a ≤ b) : ∀ (r v : Nat), (v : Int) < g.2.2.2.2.2.2.1 → STA g C a b r v = STA h D a b r v
  | 0, v, hv => evp_cg (fun j hj => hC j (by omega)) (fun j _ => val_cg q hn hv (fun _ _ => rfl) j)
  | r + 1, v, hv => evp_cg hC (fun j _ => val_cg q hn hv (fun u hu => sta_cg q hn hC hab r u hu) j)
theorem chg_cg {g h : GVW} {C D : Nat → Int} {a b r : Nat} (q : GEW g h) (hn : NDQ g) (hC : CAL C D b) (hab : a ≤ b) : CHG g C a b r ↔ CHG h D a b r := by
  unfold CHG
  rw [← q.2.2.2]
  constructor
  · rintro ⟨v, hv, ne⟩
    exact ⟨v, hv, by rw [← sta_cg q hn hC hab _ v hv, ← sta_cg q hn hC hab _ v hv]; exact ne⟩
  · rintro ⟨v, hv, ne⟩
    exact ⟨v, hv, by rw [sta_cg q hn hC hab _ v hv, sta_cg q hn hC hab _ v hv]; exact ne⟩
theorem rns_u {g h : GVW} {C D : Nat → Int} {a b : Nat} {m z z2 : Int} (q : GEW g h) (hn : NDQ g) (hC : CAL C D b) (hab : a ≤ b) (h1 : RNS g C a b m z) (h2 : RNS h D a b m z2) : z = z2 := by
  obtain ⟨a1, a2, a3, a4⟩ := h1
  obtain ⟨b1, b2, b3, b4⟩ := h2
  rcases Int.lt_trichotomy z z2 with c | c | c
  · have d := a4 (by omega)
    exact absurd ((chg_cg q hn hC hab).mpr (b3 (z - 1).toNat (by omega))) d.2
  · exact c
  · have d := b4 (by omega)
    exact absurd ((chg_cg q hn hC hab).mp (a3 (z2 - 1).toNat (by omega))) d.2

/-! the class looks at a node -/
def LKI (g : GVW) (X : Nat → Int) (v r a b c : Int) : Prop := (0 ≤ r ∧ r ≤ cn (ARE g 1) v 160) ∧ ∀ q, q ≤ 160 → cn (ARE g 1) v q = r → vlS g X v q = a ∧ vlM g X v q = b ∧ vlG g X v q = c
section LKI
variable {g : GVW} {X : Nat → Int} {v r r2 a a2 b b2 c c2 : Int} {p : Nat}
theorem lki_0 (h : r = 0) (ha : a = 0) (hb : b = 1000000000000) (hc : c = -1000000000000) : LKI g X v r a b c := by
  refine ⟨⟨by omega, by have := cn_0 (ARE g 1) v 160; omega⟩, fun q _ hq => ?_⟩
  have e : cn (ARE g 1) v q = cn (ARE g 1) v 0 := hq.trans h
  rw [ha, hb, hc]
  exact ⟨fd_q e, fd_q e, fd_q e⟩
theorem lki_s (h : LKI g X v r a b c) (hp : p < 160) (hE : ARE g 1 p = v) (hq : cn (ARE g 1) v p = r) (hr : r2 = r + 1) (ha : a2 = a + vlF g X p) (hb : b2 = mnv b (vlW g X p)) (hc : c2 = mxv c (vlW g X p)) : LKI g X v r2 a2 b2 c2 := by
  have k := h.2 p (by omega) hq
  have e1 : cn (ARE g 1) v (p + 1) = r2 := by rw [cn_hit hE]; omega
  refine ⟨⟨by have := h.1.1; omega, by have := cn_mono (ARE g 1) v (show p + 1 ≤ 160 by omega); omega⟩, fun q _ hq2 => ?_⟩
  have e : cn (ARE g 1) v q = cn (ARE g 1) v (p + 1) := hq2.trans e1.symm
  have s1 : vlS g X v (p + 1) = vlS g X v p + vlF g X p := fd_h hE
  have s2 : vlM g X v (p + 1) = mnv (vlM g X v p) (vlW g X p) := fd_h hE
  have s3 : vlG g X v (p + 1) = mxv (vlG g X v p) (vlW g X p) := fd_h hE
  have t1 : vlS g X v q = vlS g X v (p + 1) := fd_q e
  have t2 : vlM g X v q = vlM g X v (p + 1) := fd_q e
  have t3 : vlG g X v q = vlG g X v (p + 1) := fd_q e
  rw [t1, t2, t3, s1, s2, s3, k.1, k.2.1, k.2.2, ha, hb, hc]
  exact ⟨rfl, rfl, rfl⟩
theorem lki_e (h : LKI g X v r a b c) (hr : cn (ARE g 1) v 160 ≤ r) : a = vlS g X v 160 ∧ b = vlM g X v 160 ∧ c = vlG g X v 160 := by
  have k := h.2 160 (Nat.le_refl _) (by have := h.1.2; omega)
  exact ⟨k.1.symm, k.2.1.symm, k.2.2.symm⟩
/-- the sum so far is small -/
theorem lki_b (h : LKI g X v r a b c) (hn : NDQ g) (hX : XBD g.2.2.2.2.2.2.1 X) (hv : 0 ≤ v) (hp : p < 160) (hq : cn (ARE g 1) v p = r) : -160000000000000 ≤ a ∧ a ≤ 160000000000000 := by
  have k := h.2 p (by omega) hq
  have b := vls_b hn hX hv p (by omega)
  rw [k.1] at b
  omega
end LKI
def VBD (f : Nat → Int64) : Prop := ∀ k : Nat, k ≤ 8 → BD (f k).toInt
def VLR (g : GVW) (X : Nat → Int) (v : Nat) (r : Int) (f : Nat → Int64) : Prop := ∀ k : Nat, k ≤ 8 → (f k).toInt = VAL g X v r k
theorem vlr_i {g : GVW} {X : Nat → Int} {f : Nat → Int64} {v : Nat} {x r : Int} {a0 a1 a2 a3 a4 a5 a6 a7 a8 : Int64} (hv : (v : Int) = x) (e0 : a0.toInt = X v) (e1 : a1.toInt = x) (e2 : a2.toInt = (g.1 v).toInt) (e3 : a3.toInt = cn (ARE g 0) x 160) (e4 : a4.toInt = cn (ARE g 1) x 160) (e5 : a5.toInt = r) (e6 : a6.toInt = clp (vlS g X x 160)) (e7 : a7.toInt = vlM g X x 160) (e8 : a8.toInt = vlG g X x 160) : VLR g X v r (vp_updL (vp_updL (vp_updL (vp_updL (vp_updL (vp_updL (vp_updL (vp_updL (vp_updL f 0 a0) 1 a1) 2 a2) 3 a3) 4 a4) 5 a5) 6 a6) 7 a7) 8 a8) := by
  rw [← hv] at e1 e3 e4 e6 e7 e8
  intro k hk
  match k, hk with
  | 0, _ => exact e0
  | 1, _ => exact e1
  | 2, _ => exact e2
  | 3, _ => exact e3
  | 4, _ => exact e4
  | 5, _ => exact e5
  | 6, _ => exact e6
  | 7, _ => exact e7
  | 8, _ => exact e8
  | k + 9, hk => exact absurd hk (by omega)
theorem vlr_b {g : GVW} {X : Nat → Int} {v : Nat} {r : Int} {f : Nat → Int64} (h : VLR g X v r f) (hX : BD (X v)) (hv : v < 32) (hr : BD r) : VBD f := fun k hk => by
  rw [h k hk]
  exact val_b hX hv hr k

theorem sL_o {s : GS} {p q j : Nat} {v : Int64} (h : Nat.beq p q = false) : (sL s q j v).2.1 p = s.2.1 p := by
  have hn : p ≠ q := fun e => by rw [e, Nat.beq_refl] at h; cases h
  simp [sL, hn]
/-! the class does a round -/
def NXV (g : GVW) (C : Nat → Int) (a b : Nat) (X : Nat → Int) (r : Int) (u : Nat) : Int := if r = 0 then EVP C (VAL g X u r) 0 a else EVP C (VAL g X u r) a b
def DRI (W X : Nat → Int) (v c : Int) (f : Nat → Int64) : Prop := (∀ u : Nat, (u : Int) < v → (f u).toInt = W u) ∧ (c ≠ 0 ↔ ∃ u : Nat, (u : Int) < v ∧ W u ≠ X u)
theorem dri_0 {W X : Nat → Int} {v c : Int} {f : Nat → Int64} (hv : v = 0) (hc : c = 0) : DRI W X v c f := ⟨fun u hu => by omega, fun h => absurd hc h, fun ⟨u, hu, _⟩ => by omega⟩
theorem dri_s {W X : Nat → Int} {v v2 c c2 : Int} {f : Nat → Int64} {j : Nat} {z : Int64} (h : DRI W X v c f) (hj : (j : Int) = v) (hz : z.toInt = W j) (hv2 : v2 = v + 1) (hc2 : c2 ≠ 0 ↔ c ≠ 0 ∨ W j ≠ X j) : DRI W X v2 c2 (vp_updL f j z) := by
  refine ⟨fun u hu => ?_, ?_⟩
  · by_cases e : u = j
    · rw [e, vu_at]; exact hz
    · rw [vu_ne e]; exact h.1 u (by omega)
  · rw [hc2, h.2]
    constructor
    · rintro (⟨u, hu, hn⟩ | hn)
      · exact ⟨u, by omega, hn⟩
      · exact ⟨j, by omega, hn⟩
    · rintro ⟨u, hu, hn⟩
      by_cases e : u = j
      · rw [e] at hn; exact Or.inr hn
      · exact Or.inl ⟨u, by omega, hn⟩
theorem i01 {x : Int32} (h : In x 0 1) : x = Int32.ofInt 0 ∨ x = Int32.ofInt 1 := by
  unfold In at h
  by_cases c : x.toInt = 0
  · exact Or.inl (i_eq.mpr (by rw [c]; rfl))
  · exact Or.inr (i_eq.mpr (by rw [show x.toInt = 1 by omega]; rfl))
theorem ior_v {x y z : Int32} (e : z = x ||| y) (hx : In x 0 1) (hy : In y 0 1) : z.toInt ≠ 0 ↔ x.toInt ≠ 0 ∨ y.toInt ≠ 0 := by
  rw [e]
  rcases i01 hx with rfl | rfl <;> rcases i01 hy with rfl | rfl <;> decide
theorem dri_c {c c2 k : Int32} {A B : Int} (e : c2 = c ||| k) (hc : In c 0 1) (hk : In k 0 1) (h : k.toInt ≠ 0 ↔ A ≠ B) : c2.toInt ≠ 0 ↔ c.toInt ≠ 0 ∨ A ≠ B := by rw [ior_v e hc hk, h]
theorem ht_in {st : Nat → Nat → Option Nat} {a : Nat} : ∀ k : Nat, (ht st a k).isSome = true → ∀ j, j < k → ∃ h, (st (a + j) h).isSome = true
  | 0, _, j, hj => absurd hj (Nat.not_lt_zero j)
  | k + 1, h, j, hj => by
    have h2 : ((ht st a k).bind (st (a + k))).isSome = true := h
    cases e : ht st a k with
    | none => rw [e] at h2; cases h2
    | some x =>
      rw [e] at h2
      by_cases c : j = k
      · rw [c]; exact ⟨x, h2⟩
      · exact ht_in k (by rw [e]; rfl) j (by omega)
theorem cdo_hc {c : Int32} {h : Nat} (e : (hc c h).isSome = true) : CDO c.toInt := by
  intro h1 h2
  unfold hc at e
  rw [if_neg (by omega), if_pos h2] at e
  by_cases q : c.toInt ≤ 1000008
  · exact q
  · rw [if_neg q] at e; cases e
theorem cdo_c {s : GS} (hI : Inv s) {j : Nat} (hj : j < (s.2.2.1 102 2).toInt.toNat) : CDO (s.1 103 j).toInt := by
  by_cases c : j < (s.2.2.1 102 1).toInt.toNat
  · have k := kc_1 (a := Int32.ofInt 0) hI rfl rfl
    obtain ⟨h, e⟩ := ht_in _ k j c
    have e0 : (Int32.ofInt 0).toNatClampNeg + j = j := by rw [show (Int32.ofInt 0).toNatClampNeg = 0 from rfl, Nat.zero_add]
    rw [e0] at e
    exact cdo_hc e
  · have k := kc_2 hI rfl rfl
    have e1 : (s.2.2.1 102 1).toNatClampNeg = (s.2.2.1 102 1).toInt.toNat := rfl
    have e2 : (s.2.2.1 102 2).toNatClampNeg = (s.2.2.1 102 2).toInt.toNat := rfl
    obtain ⟨h, e⟩ := ht_in _ k (j - (s.2.2.1 102 1).toInt.toNat) (by omega)
    have e0 : (s.2.2.1 102 1).toNatClampNeg + (j - (s.2.2.1 102 1).toInt.toNat) = j := by omega
    rw [e0] at e
    exact cdo_hc e
theorem nxv_1 {g : GVW} {C : Nat → Int} {a b v : Nat} {X : Nat → Int} {r z : Int} {f : Nat → Int64} (hr : r ≠ 0) (hV : VLR g X v r f) (hC : ∀ j, j < b → CDO (C j)) (h : z = EVP C (fun k => (f k).toInt) a b) : z = NXV g C a b X r v := by
  unfold NXV
  rw [if_neg hr, h]
  exact evp_cg (fun j hj => ⟨rfl, hC j hj⟩) (fun k hk => hV k hk)
theorem nxv_0 {g : GVW} {C : Nat → Int} {a b v : Nat} {X : Nat → Int} {r z : Int} {f : Nat → Int64} (hr : r = 0) (hV : VLR g X v r f) (hC : ∀ j, j < a → CDO (C j)) (h : z = EVP C (fun k => (f k).toInt) 0 a) : z = NXV g C a b X r v := by
  unfold NXV
  rw [if_pos hr, h]
  exact evp_cg (fun j hj => ⟨rfl, hC j hj⟩) (fun k hk => hV k hk)

/-! all rounds -/
theorem prc_fr {s t : GS} {L : FM} (h : PRC s) (hF : Fr L s t) (hk : (qF L.2.2.1 102 1 && qF L.2.2.1 102 2) = true) : PRC t := by
  rw [Bool.and_eq_true] at hk
  unfold PRC at h ⊢
  rw [hF.2.2.1 102 1 hk.1, hF.2.2.1 102 2 hk.2]
  exact h
theorem gew_r {g : GVW} : GEW g g := ⟨fun _ _ => rfl, fun _ _ => rfl, fun _ _ _ => ⟨rfl, rfl, rfl, rfl⟩, rfl⟩
theorem cpl_v {f g h : Nat → Int64} (cp : ∀ k : Nat, h k = va_cpy f g (Int32.ofInt 0).toNatClampNeg (Int32.ofInt 0).toNatClampNeg (Int32.ofInt 32).toNatClampNeg k) {k : Nat} (hk : k < 32) : h k = f k := by
  rw [cp k]
  unfold va_cpy
  rw [if_pos ⟨Nat.zero_le k, by show k < 0 + 32; omega⟩]
  show f (0 + (k - 0)) = f k
  rw [Nat.zero_add, Nat.sub_zero]
section WK
variable {g : GVW} {C : Nat → Int} {a b : Nat} {X : Nat → Int} {f : Nat → Int64} {r r2 m c : Int}
theorem ewk_0 (hn : NDQ g) (hX : ∀ u : Nat, (u : Int) < g.2.2.2.2.2.2.1 → X u = 0) (h : DRI (NXV g C a b X 0) X g.2.2.2.2.2.2.1 c f) : ∀ u : Nat, (u : Int) < g.2.2.2.2.2.2.1 → (f u).toInt = STA g C a b 0 u := fun u hu => by
  rw [h.1 u hu]
  have e : VAL g X u 0 = VAL g (fun _ => 0) u 0 := funext (val_cg gew_r hn hu (fun w hw => hX w hw))
  unfold NXV
  rw [if_pos rfl, e]
  rfl
theorem enx_s (hn : NDQ g) (hr : 1 ≤ r) (hX : ∀ u : Nat, (u : Int) < g.2.2.2.2.2.2.1 → X u = STA g C a b (r - 1).toNat u) {u : Nat} (hu : (u : Int) < g.2.2.2.2.2.2.1) : NXV g C a b X r u = STA g C a b r.toNat u := by
  obtain ⟨k, rfl⟩ : ∃ k : Nat, r = (k : Int) + 1 := ⟨(r - 1).toNat, by omega⟩
  have e1 : ((k : Int) + 1 - 1).toNat = k := by omega
  have e2 : ((k : Int) + 1).toNat = k + 1 := by omega
  rw [e1] at hX
  have e : VAL g X u ((k : Int) + 1) = VAL g (STA g C a b k) u ((k : Int) + 1) := funext (val_cg gew_r hn hu (fun w hw => hX w hw))
  unfold NXV
  rw [if_neg (by omega), e, e2]
  rfl
theorem ewk_s (hn : NDQ g) (hr : 1 ≤ r) (hX : ∀ u : Nat, (u : Int) < g.2.2.2.2.2.2.1 → X u = STA g C a b (r - 1).toNat u) (h : DRI (NXV g C a b X r) X g.2.2.2.2.2.2.1 c f) : (∀ u : Nat, (u : Int) < g.2.2.2.2.2.2.1 → (f u).toInt = STA g C a b r.toNat u) ∧ (c ≠ 0 ↔ CHG g C a b (r - 1).toNat) := by
  refine ⟨fun u hu => by rw [h.1 u hu]; exact enx_s hn hr hX hu, ?_⟩
  have e : (r - 1).toNat + 1 = r.toNat := by omega
  rw [h.2]
  unfold CHG
  rw [e]
  constructor
  · rintro ⟨u, hu, ne⟩
    exact ⟨u, hu, by rw [← enx_s hn hr hX hu, ← hX u hu]; exact ne⟩
  · rintro ⟨u, hu, ne⟩
    exact ⟨u, hu, by rw [enx_s hn hr hX hu, hX u hu]; exact ne⟩
def EWI (g : GVW) (C : Nat → Int) (a b : Nat) (r : Int) (f : Nat → Int64) : Prop := (∀ u : Nat, (u : Int) < g.2.2.2.2.2.2.1 → (f u).toInt = STA g C a b (r - 1).toNat u) ∧ ∀ q : Nat, (q : Int) + 1 < r → CHG g C a b q
def EWP (g : GVW) (C : Nat → Int) (a b : Nat) (m z : Int) (f : Nat → Int64) : Prop := RNS g C a b m z ∧ ∀ u : Nat, (u : Int) < g.2.2.2.2.2.2.1 → (f u).toInt = STA g C a b z.toNat u
theorem ewi_0 (hr : r = 1) (h : ∀ u : Nat, (u : Int) < g.2.2.2.2.2.2.1 → (f u).toInt = STA g C a b 0 u) : EWI g C a b r f := ⟨fun u hu => by rw [hr]; exact h u hu, fun q hq => by omega⟩
theorem ewi_s {f2 : Nat → Int64} (h : EWI g C a b r f) (hr : 1 ≤ r) (h2 : (∀ u : Nat, (u : Int) < g.2.2.2.2.2.2.1 → (f2 u).toInt = STA g C a b r.toNat u) ∧ (c ≠ 0 ↔ CHG g C a b (r - 1).toNat)) (hc : c ≠ 0) (e : r2 = r + 1) : EWI g C a b r2 f2 := by
  refine ⟨fun u hu => by rw [show (r2 - 1).toNat = r.toNat by omega]; exact h2.1 u hu, fun q hq => ?_⟩
  by_cases k : (q : Int) + 1 < r
  · exact h.2 q k
  · rw [show q = (r - 1).toNat by omega]
    exact h2.2.mp hc
theorem ewp_1 {f2 : Nat → Int64} (h : EWI g C a b r f) (hr : 1 ≤ r) (hm : r ≤ m) (h2 : (∀ u : Nat, (u : Int) < g.2.2.2.2.2.2.1 → (f2 u).toInt = STA g C a b r.toNat u) ∧ (c ≠ 0 ↔ CHG g C a b (r - 1).toNat)) (hc : c = 0) : EWP g C a b m r f2 := ⟨⟨by omega, hm, h.2, fun _ => ⟨hr, fun k => h2.2.mpr k hc⟩⟩, h2.1⟩
theorem ewp_2 (h : EWI g C a b r f) (hm : 0 ≤ m) (hr : r = m + 1) : EWP g C a b m m f := ⟨⟨hm, Int.le_refl _, fun q hq => h.2 q (by omega), fun k => by omega⟩, fun u hu => by rw [show m.toNat = (r - 1).toNat by omega]; exact h.1 u hu⟩
/-- what is copied before a round -/
theorem ewi_x {h : Nat → Int64} (hW : EWI g C a b r f) (h32 : g.2.2.2.2.2.2.1 ≤ 32) (cp : ∀ k : Nat, k < 32 → h k = f k) : ∀ u : Nat, (u : Int) < g.2.2.2.2.2.2.1 → (h u).toInt = STA g C a b (r - 1).toNat u := fun u hu => by
  rw [cp u (by omega)]
  exact hW.1 u hu
end WK

def RUP (x y w : Int32) : Prop := In x 0 200 ∧ In y 1 4 ∧ In w 0 90
/-! the reference's product -/
theorem clp_n (w : Int) : clp (-w) = -clp w := by
  have a := clp_o w
  have b := clp_o (-w)
  by_cases c1 : 1000000000000 < w
  · rw [a.1 c1, b.2.1 (by omega)]
  · by_cases c2 : w < -1000000000000
    · rw [a.2.1 c2, b.1 (by omega)]; rfl
    · rw [a.2.2 (by omega) (by omega), b.2.2 (by omega) (by omega)]
section RP
variable {x y z w a b q : Int64}
theorem rpx_0 (h : x.toInt = 0 ∨ y.toInt = 0) : (Int64.ofInt 0).toInt = clp (x.toInt * y.toInt) := by
  have e : x.toInt * y.toInt = 0 := by
    rcases h with h | h
    · rw [h, Int.zero_mul]
    · rw [h, Int.mul_zero]
  rw [e]
  rfl
theorem rp_m (ha : ABS x a) (hb : ABS y b) (hx : BD x.toInt) (hy : BD y.toInt) : ((x.toInt < 0 ↔ y.toInt < 0) → a.toInt * b.toInt = x.toInt * y.toInt) ∧ (¬ (x.toInt < 0 ↔ y.toInt < 0) → a.toInt * b.toInt = -(x.toInt * y.toInt)) := by
  unfold BD at hx hy
  rcases ha with ⟨h0, rfl⟩ | ⟨h0, ea⟩ <;> rcases hb with ⟨k0, rfl⟩ | ⟨k0, eb⟩
  · exact ⟨fun _ => rfl, fun h => absurd ⟨fun k => by omega, fun k => by omega⟩ h⟩
  · rw [lneg_t eb (by omega) (by omega), Int.mul_neg]
    exact ⟨fun h => by have := h.mpr k0; omega, fun _ => rfl⟩
  · rw [lneg_t ea (by omega) (by omega), Int.neg_mul]
    exact ⟨fun h => by have := h.mp h0; omega, fun _ => rfl⟩
  · rw [lneg_t ea (by omega) (by omega), lneg_t eb (by omega) (by omega), Int.neg_mul_neg]
    exact ⟨fun _ => rfl, fun h => absurd ⟨fun _ => k0, fun _ => h0⟩ h⟩
theorem rp_v (hx : BD x.toInt) (hy : BD y.toInt) (ha : ABS x a) (hb : ABS y b) (hn : y.toInt ≠ 0) (hq : q = Int64.ofInt 1000000000000 / b) : (a.toInt ≤ q.toInt → BD (a.toInt * b.toInt)) ∧ (q.toInt < a.toInt → 1000000000000 < a.toInt * b.toInt) := by
  have va := abs_v ha hx
  have vb := abs_v hb hy
  have b0 : 0 < b.toInt := by omega
  rw [Int.mul_comm]
  exact ⟨fun h => tms_1 (Or.inl rfl) b0 (Or.inl rfl) va.1 (tm_q b0 hq) h, fun h => (tms_2 (Or.inl rfl) b0 (Or.inl rfl) (tm_q b0 hq) h).1⟩
theorem rpx_1 (hx : BD x.toInt) (hy : BD y.toInt) (ha : ABS x a) (hb : ABS y b) (hn : y.toInt ≠ 0) (hq : q = Int64.ofInt 1000000000000 / b) (h : a.toInt ≤ q.toInt) (e : z = a * b) (hs : x.toInt < 0 ↔ y.toInt < 0) : z.toInt = clp (x.toInt * y.toInt) := by
  have v := (rp_v hx hy ha hb hn hq).1 h
  rw [← (rp_m ha hb hx hy).1 hs, clp_i v]
  unfold BD at v
  exact lmul_t e (by omega) (by omega)
theorem rpx_2 (hx : BD x.toInt) (hy : BD y.toInt) (ha : ABS x a) (hb : ABS y b) (hn : y.toInt ≠ 0) (hq : q = Int64.ofInt 1000000000000 / b) (h : q.toInt < a.toInt) (hs : x.toInt < 0 ↔ y.toInt < 0) : (Int64.ofInt 1000000000000).toInt = clp (x.toInt * y.toInt) := by
  rw [← (rp_m ha hb hx hy).1 hs, (clp_o _).1 ((rp_v hx hy ha hb hn hq).2 h)]
  rfl
theorem rpx_3 (hx : BD x.toInt) (hy : BD y.toInt) (ha : ABS x a) (hb : ABS y b) (hn : y.toInt ≠ 0) (hq : q = Int64.ofInt 1000000000000 / b) (h : a.toInt ≤ q.toInt) (e : z = a * b) (e2 : w = -z) (hs : ¬ (x.toInt < 0 ↔ y.toInt < 0)) : w.toInt = clp (x.toInt * y.toInt) := by
  have v := (rp_v hx hy ha hb hn hq).1 h
  have m := (rp_m ha hb hx hy).2 hs
  have c := clp_n (-(x.toInt * y.toInt))
  rw [Int.neg_neg, ← m, clp_i v] at c
  rw [c]
  unfold BD at v
  have t := lmul_t e (by omega) (by omega)
  rw [lneg_t e2 (by omega) (by omega), t]
theorem rpx_4 (hx : BD x.toInt) (hy : BD y.toInt) (ha : ABS x a) (hb : ABS y b) (hn : y.toInt ≠ 0) (hq : q = Int64.ofInt 1000000000000 / b) (h : q.toInt < a.toInt) (e2 : w = -(Int64.ofInt 1000000000000)) (hs : ¬ (x.toInt < 0 ↔ y.toInt < 0)) : w.toInt = clp (x.toInt * y.toInt) := by
  have m := (rp_m ha hb hx hy).2 hs
  have k := (rp_v hx hy ha hb hn hq).2 h
  rw [e2, (clp_o _).2.1 (by omega)]
  rfl
end RP
/-! the reference names all -/
def NMI (g : GVW) (X : Nat → Int) (v : Nat) (r : Int) (k0 k1 : Nat) (f : Nat → Int64) : Prop := (f 0).toInt = X v ∧ (f 1).toInt = (v : Int) ∧ (f 2).toInt = (g.1 v).toInt ∧ (f 3).toInt = cn (ARE g 0) (v : Int) k0 ∧ (f 4).toInt = cn (ARE g 1) (v : Int) k1 ∧ (f 5).toInt = r ∧ (f 6).toInt = vlS g X (v : Int) k1 ∧ (f 7).toInt = vlM g X (v : Int) k1 ∧ (f 8).toInt = vlG g X (v : Int) k1
section NMI
variable {g : GVW} {X : Nat → Int} {v : Nat} {r : Int} {k0 k1 : Nat} {f : Nat → Int64}
theorem nmi_0 {a0 a1 a2 a3 a4 a5 a6 a7 a8 : Int64} (e0 : a0.toInt = X v) (e1 : a1.toInt = (v : Int)) (e2 : a2.toInt = (g.1 v).toInt) (e3 : a3.toInt = 0) (e4 : a4.toInt = 0) (e5 : a5.toInt = r) (e6 : a6.toInt = 0) (e7 : a7.toInt = 1000000000000) (e8 : a8.toInt = -1000000000000) : NMI g X v r 0 0 (vp_updL (vp_updL (vp_updL (vp_updL (vp_updL (vp_updL (vp_updL (vp_updL (vp_updL f 0 a0) 1 a1) 2 a2) 3 a3) 4 a4) 5 a5) 6 a6) 7 a7) 8 a8) := ⟨e0, e1, e2, e3, e4, e5, e6, e7, e8⟩
theorem nmi_3h {x z : Int64} (h : NMI g X v r k0 k1 f) (hk : k0 < 160) (hE : ARE g 0 k0 = (v : Int)) (e1 : x = f 3) (e2 : z = x + Int64.ofInt 1) : NMI g X v r (k0 + 1) k1 (vp_updL f 3 z) := by
  obtain ⟨h0, h1, h2, h3, h4, h5, h6, h7, h8⟩ := h
  have c0 := cn_0 (ARE g 0) (v : Int) k0
  have c1 := cn_le (ARE g 0) (v : Int) k0
  have o1 : (Int64.ofInt 1).toInt = 1 := rfl
  rw [← e1] at h3
  have t : z.toInt = x.toInt + (Int64.ofInt 1).toInt := ladd_t e2 (by omega) (by omega)
  refine ⟨h0, h1, h2, ?_, h4, h5, h6, h7, h8⟩
  show z.toInt = _
  rw [cn_hit hE, t, o1, h3]
theorem nmi_3m (h : NMI g X v r k0 k1 f) (hE : ARE g 0 k0 ≠ (v : Int)) : NMI g X v r (k0 + 1) k1 f := by
  obtain ⟨h0, h1, h2, h3, h4, h5, h6, h7, h8⟩ := h
  exact ⟨h0, h1, h2, by rw [cn_miss hE]; exact h3, h4, h5, h6, h7, h8⟩
theorem nmi_4m (h : NMI g X v r k0 k1 f) (hE : ARE g 1 k1 ≠ (v : Int)) : NMI g X v r k0 (k1 + 1) f := by
  obtain ⟨h0, h1, h2, h3, h4, h5, h6, h7, h8⟩ := h
  have s1 : vlS g X (v : Int) (k1 + 1) = vlS g X (v : Int) k1 := fd_m hE
  have s2 : vlM g X (v : Int) (k1 + 1) = vlM g X (v : Int) k1 := fd_m hE
  have s3 : vlG g X (v : Int) (k1 + 1) = vlG g X (v : Int) k1 := fd_m hE
  exact ⟨h0, h1, h2, h3, by rw [cn_miss hE]; exact h4, h5, by rw [s1]; exact h6, by rw [s2]; exact h7, by rw [s3]; exact h8⟩
theorem nmi_4h {x4 z4 x6 z6 xs w x7 z7 x8 z8 : Int64} (h : NMI g X v r k0 k1 f) (hk : k1 < 160) (hn : NDQ g) (hX : XBD g.2.2.2.2.2.2.1 X) (hE : ARE g 1 k1 = (v : Int)) (e4 : x4 = f 4) (a4 : z4 = x4 + Int64.ofInt 1) (e6 : x6 = f 6) (a6 : z6 = x6 + xs) (hs : xs.toInt = vlF g X k1) (hw : w.toInt = vlW g X k1) (e7 : x7 = f 7) (a7 : z7.toInt = mnv x7.toInt w.toInt) (e8 : x8 = f 8) (a8 : z8.toInt = mxv x8.toInt w.toInt) : NMI g X v r k0 (k1 + 1) (vp_updL (vp_updL (vp_updL (vp_updL f 4 z4) 6 z6) 7 z7) 8 z8) := by
  obtain ⟨h0, h1, h2, h3, h4, h5, h6, h7, h8⟩ := h
  have s1 : vlS g X (v : Int) (k1 + 1) = vlS g X (v : Int) k1 + vlF g X k1 := fd_h hE
  have s2 : vlM g X (v : Int) (k1 + 1) = mnv (vlM g X (v : Int) k1) (vlW g X k1) := fd_h hE
  have s3 : vlG g X (v : Int) (k1 + 1) = mxv (vlG g X (v : Int) k1) (vlW g X k1) := fd_h hE
  have c0 := cn_0 (ARE g 1) (v : Int) k1
  have c1 := cn_le (ARE g 1) (v : Int) k1
  have o1 : (Int64.ofInt 1).toInt = 1 := rfl
  have b1 := (vlf_b hn hX hk hE (Int.natCast_nonneg v)).1
  have b2 := vls_b hn hX (Int.natCast_nonneg v) k1 (by omega)
  unfold BD at b1
  rw [← e4] at h4
  rw [← e6] at h6
  rw [← e7] at h7
  rw [← e8] at h8
  have t4 : z4.toInt = x4.toInt + (Int64.ofInt 1).toInt := ladd_t a4 (by omega) (by omega)
  have t6 : z6.toInt = x6.toInt + xs.toInt := ladd_t a6 (by omega) (by omega)
  refine ⟨h0, h1, h2, h3, ?_, h5, ?_, ?_, ?_⟩
  · show z4.toInt = _
    rw [cn_hit hE, t4, o1, h4]
  · show z6.toInt = _
    rw [s1, t6, hs, h6]
  · show z7.toInt = _
    rw [s2, a7, hw, h7]
  · show z8.toInt = _
    rw [s3, a8, hw, h8]
theorem nmi_e {x z : Int64} (h : NMI g X v r 160 160 f) (e : x = f 6) (hz : z.toInt = clp x.toInt) : VLR g X v r (vp_updL f 6 z) := by
  obtain ⟨h0, h1, h2, h3, h4, h5, h6, h7, h8⟩ := h
  rw [← e] at h6
  rw [h6] at hz
  intro k hk
  match k, hk with
  | 0, _ => exact h0
  | 1, _ => exact h1
  | 2, _ => exact h2
  | 3, _ => rw [val_3]; exact h3
  | 4, _ => rw [val_4]; exact h4
  | 5, _ => exact h5
  | 6, _ => rw [val_6]; exact hz
  | 7, _ => rw [val_7]; exact h7
  | 8, _ => exact h8
  | k + 9, hk => exact absurd hk (by omega)
end NMI
theorem are1_n {g : GVW} {p : Nat} (hp : p < 160) (h : ARE g 0 p = -1) : ARE g 1 p = -1 := are_no (by rw [are_f hp rfl] at h; exact h)

/-! the reference works a program out -/
def RPC (s : GS) : Prop := 0 < (s.1 186 1).toInt ∧ (s.1 186 1).toInt < (s.1 186 2).toInt
theorem rcd_a {w v : Int} (h : w = 0) : rcd w v = v := if_pos h
theorem rcd_b {w v : Int} (h : w = 1) : rcd w v = 1000000 + v := by unfold rcd; rw [if_neg (by omega), if_pos h]
theorem rcd_c {w v : Int} (h : w = 2) : rcd w v = 1000226 := by unfold rcd; rw [if_neg (by omega), if_neg (by omega), if_pos h]
theorem rcd_d {w v : Int} (h : 2 < w) : rcd w v = 1000100 + w := by unfold rcd; rw [if_neg (by omega), if_neg (by omega), if_neg (by omega)]
theorem pok_fr {s t : GS} {L : FM} (h : POK s) (hF : Fr L s t) (hk : (qI L.1 184 && qI L.1 185 && qI L.1 186) = true) : POK t := by
  simp only [Bool.and_eq_true] at hk
  unfold POK at h ⊢
  rw [hF.1 184 hk.1.1, hF.1 185 hk.1.2, hF.1 186 hk.2]
  exact h
theorem rpc_fr {s t : GS} {L : FM} (h : RPC s) (hF : Fr L s t) (hk : qI L.1 186 = true) : RPC t := by
  unfold RPC at h ⊢
  rw [hF.1 186 hk]
  exact h

theorem cdo_r {w v : Int32} (h : OKR w v) : CDO (rcd w.toInt v.toInt) := by
  obtain ⟨h1, h2, h3, h4⟩ := h
  intro a b
  by_cases c0 : w.toInt = 0
  · rw [rcd_a c0] at a b ⊢
    have := h2 c0
    omega
  · by_cases c1 : w.toInt = 1
    · rw [rcd_b c1] at a b ⊢
      have := h3 c1
      omega
    · by_cases c2 : w.toInt = 2
      · rw [rcd_c c2] at a b ⊢
        omega
      · rw [rcd_d (by omega)] at a b ⊢
        omega
theorem rcb {f g : Nat → Int32} : CBD (fun j => rcd (f j).toInt (g j).toInt) := by
  intro j _
  show BD (rcd (f j).toInt (g j).toInt)
  have a := i_rng (f j)
  have b := i_rng (g j)
  unfold In at a b
  unfold rcd BD
  split
  · omega
  · split
    · omega
    · split <;> omega
/-! the reference's rounds -/
def ALR (f : Nat → Int64) (v : Int) (W : Nat → Int) : Prop := ∀ u : Nat, (u : Int) < v → (f u).toInt = W u
theorem alr_0 {f : Nat → Int64} {v : Int} {W : Nat → Int} (h : v = 0) : ALR f v W := fun u hu => by omega
theorem alr_s {f : Nat → Int64} {v v2 : Int} {W : Nat → Int} {j : Nat} {z : Int64} (h : ALR f v W) (hj : (j : Int) = v) (hz : z.toInt = W j) (hv : v2 = v + 1) : ALR (vp_updL f j z) v2 W := fun u hu => by
  by_cases e : u = j
  · rw [e, vu_at]; exact hz
  · rw [vu_ne e]; exact h u (by omega)
section RW
variable {g : GVW} {C : Nat → Int} {a b v : Nat} {X : Nat → Int} {f : Nat → Int64} {r z o m : Int}
theorem rz_0 (hV : VLR g X v r f) (hr : r = 0) (hn : NDQ g) (hv : (v : Int) < g.2.2.2.2.2.2.1) (hX : ∀ u : Nat, (u : Int) < g.2.2.2.2.2.2.1 → X u = 0) (hC : ∀ j, j < a → CDO (C j)) (hz : z = EVP C (fun k => (f k).toInt) 0 a) : z = STA g C a b 0 v := by
  subst hr
  rw [nxv_0 (b := b) rfl hV hC hz]
  have e : VAL g X v 0 = VAL g (fun _ => 0) v 0 := funext (val_cg gew_r hn hv (fun w hw => hX w hw))
  unfold NXV
  rw [if_pos rfl, e]
  rfl
theorem rz_1 (hV : VLR g X v r f) (hr : 1 ≤ r) (hn : NDQ g) (hv : (v : Int) < g.2.2.2.2.2.2.1) (hX : ∀ u : Nat, (u : Int) < g.2.2.2.2.2.2.1 → X u = STA g C a b (r - 1).toNat u) (hC : ∀ j, j < b → CDO (C j)) (hz : z = EVP C (fun k => (f k).toInt) a b) : z = STA g C a b r.toNat v := by
  rw [nxv_1 (by omega) hV hC hz]
  exact enx_s hn hr hX hv
def RWI (g : GVW) (C : Nat → Int) (a b : Nat) (r o : Int) (f : Nat → Int64) : Prop := ALR f g.2.2.2.2.2.2.1 (STA g C a b r.toNat) ∧ (∀ q : Nat, (q : Int) + 1 < r → CHG g C a b q) ∧ (o ≠ 0 → 1 ≤ r → CHG g C a b (r - 1).toNat) ∧ (o = 0 → 1 ≤ r ∧ ¬ CHG g C a b (r - 1).toNat)
theorem rwi_0 (h : ALR f g.2.2.2.2.2.2.1 (STA g C a b 0)) (hr : r = 0) (ho : o ≠ 0) : RWI g C a b r o f := by
  subst hr
  exact ⟨h, fun q hq => by omega, fun _ k => by omega, fun k => absurd k ho⟩
theorem rwi_n {k : Nat} (h : ALR f g.2.2.2.2.2.2.1 (STA g C a b (k + 1))) (hh : ∀ q : Nat, q < k → CHG g C a b q) (hc : o ≠ 0 ↔ CHG g C a b k) (hr : r = (k : Int) + 1) : RWI g C a b r o f := by
  have e1 : r.toNat = k + 1 := by omega
  have e2 : (r - 1).toNat = k := by omega
  unfold RWI
  rw [e1, e2]
  exact ⟨h, fun q hq => hh q (by omega), fun k1 _ => hc.mp k1, fun k1 => ⟨by omega, fun k2 => hc.mpr k2 k1⟩⟩
/-- before another round: all so far have changed something -/
theorem rwi_h (h : RWI g C a b r o f) (ho : o ≠ 0) : ∀ q : Nat, q < r.toNat → CHG g C a b q := fun q hq => by
  by_cases c : (q : Int) + 1 < r
  · exact h.2.1 q c
  · rw [show q = (r - 1).toNat by omega]
    exact h.2.2.1 ho (by omega)
theorem rwi_e (h : RWI g C a b r o f) (h0 : 0 ≤ r) (hm : r ≤ m) (he : o = 0 ∨ m ≤ r) : EWP g C a b m r f := by
  refine ⟨⟨h0, hm, h.2.1, fun k => ?_⟩, h.1⟩
  rcases he with he | he
  · exact h.2.2.2 he
  · omega
end RW
def RUR (s t : GS) (C : Nat → Int) (sn : Nat) (x y w z : Int32) : Prop := ((t.2.2.1 109 0).toInt = 1 ∧ ¬ RUP x y w ∧ t.2.1 191 = s.2.1 191 ∧ t.2.2.1 109 sn = s.2.2.1 109 sn) ∨ ((t.2.2.1 109 0).toInt = 0 ∧ RUP x y w ∧ EWP (gvZ s) C (s.1 186 1).toInt.toNat (s.1 186 2).toInt.toNat x.toInt z.toInt (t.2.1 191) ∧ t.2.2.1 109 sn = s.2.2.1 109 20)

def RUC (s t : GS) (z : Int32) : Prop := (∀ u : Nat, (u : Int) < (shC s).2.2.2.2.2.2.1 → (t.2.1 107 u).toInt = STA (shC s) (fun j => (s.1 103 j).toInt) (s.2.2.1 102 1).toInt.toNat (s.2.2.1 102 2).toInt.toNat z.toInt.toNat u) ∧ (t.2.2.1 102 9).toInt = (shC s).2.2.2.2.2.2.1
/-! FUNCTIONAL CONTRACTS, by fgen.py -/
theorem oc_405 : (Int32.ofInt (-1)).toInt = (-1) ∧ (Int32.ofInt 0).toInt = 0 ∧ (Int32.ofInt 1).toInt = 1 ∧ (Int64.ofInt (-1000000000000)).toInt = (-1000000000000) ∧ (Int64.ofInt 1000000000000).toInt = 1000000000000 := ⟨rfl, rfl, rfl, rfl, rfl⟩
/-- GraphHouseModel.fit -/
theorem f_405 {Z : AmZ} {A : Nat → Nat} {s : GS} {ex : va_W} {d : Nat} {X : AmX} {x0 : Int64} (hd : 1 ≤ d) (hI : Inv s)  : GC Z d 405 [.long x0] (WW Z A s ++ ex) 0 0 (fun v u => ∃ z : Int64, v = some (.long z) ∧ u = WW Z A s ++ ex ∧ ((z).toInt = clp (x0).toInt)) X := by
  intro post xp hP hX
  refine g_enter2 (k := 405) (N := 900) (by omega) rfl (Nat.le_of_ble_eq_true rfl) ?_
  refine g_lload_n 1 (gd rfl) rfl rfl ?_
  refine g_ldc2_w 1000000000000 4 (gd rfl) rfl rfl ?_
  refine g_lcmp 5 (gd rfl) rfl (fun z4 e4 => ?_)
  have i4 := lc_in e4
  refine g_if_le 8 14 (gd rfl) rfl rfl (fun c5 => ?_) (fun c5 => ?_)
  · skip
    have i5 := z_le (-1) 0 c5 i4 rfl
    have c5a := lc_le e4 c5
    have i5a := lr_le1 (-9223372036854775808) 1000000000000 c5a (l_rng x0) (l_c 1000000000000 rfl) rfl
    refine g_lload_n 15 (gd rfl) rfl rfl ?_
    refine g_ldc2_w (-1000000000000) 18 (gd rfl) rfl rfl ?_
    refine g_lcmp 19 (gd rfl) rfl (fun z18 e18 => ?_)
    have i18 := lc_in e18
    refine g_if_ge 22 28 (gd rfl) rfl rfl (fun c19 => ?_) (fun c19 => ?_)
    · skip
      have i19 := z_ge 0 1 c19 i18 rfl
      have c19a := lc_ge e18 c19
      have i19a := lr_le2 (-1000000000000) 1000000000000 c19a (l_c (-1000000000000) rfl) i5a rfl
      refine g_lload_n 29 (gd rfl) rfl rfl ?_
      have n29 : (x0).toInt = clp (x0).toInt := by have hc := clp_o (x0).toInt; have oc := oc_405; omega
      exact g_lreturn (gd rfl) rfl (hP _ _ ⟨x0, rfl, rfl, n29⟩)
    · skip
      have i19 := z_lt (-1) (-1) c19 i18 rfl
      have c19a := lc_lt e18 c19
      have i19a := lr_lt1 (-9223372036854775808) (-1000000000001) c19a i5a (l_c (-1000000000000) rfl) rfl
      refine g_ldc2_w (-1000000000000) 25 (gd rfl) rfl rfl ?_
      refine g_goto 29 (gd rfl) rfl ?_
      have n29 : ((Int64.ofInt (-1000000000000))).toInt = clp (x0).toInt := by have hc := clp_o (x0).toInt; have oc := oc_405; omega
      exact g_lreturn (gd rfl) rfl (hP _ _ ⟨(Int64.ofInt (-1000000000000)), rfl, rfl, n29⟩)
  · skip
    have i5 := z_gt 1 1 c5 i4 rfl
    have c5a := lc_gt e4 c5
    have i5a := lr_lt2 1000000000001 9223372036854775807 c5a (l_c 1000000000000 rfl) (l_rng x0) rfl
    refine g_ldc2_w 1000000000000 11 (gd rfl) rfl rfl ?_
    refine g_goto 29 (gd rfl) rfl ?_
    have n29 : ((Int64.ofInt 1000000000000)).toInt = clp (x0).toInt := by have hc := clp_o (x0).toInt; have oc := oc_405; omega
    exact g_lreturn (gd rfl) rfl (hP _ _ ⟨(Int64.ofInt 1000000000000), rfl, rfl, n29⟩)

theorem oc_406 : (Int32.ofInt (-1)).toInt = (-1) ∧ (Int32.ofInt 0).toInt = 0 ∧ (Int32.ofInt 1).toInt = 1 ∧ (Int64.ofInt 0).toInt = 0 ∧ (Int64.ofInt 1000000000000).toInt = 1000000000000 := ⟨rfl, rfl, rfl, rfl, rfl⟩
/-- GraphHouseModel.product -/
theorem f_406 {Z : AmZ} {A : Nat → Nat} {s : GS} {ex : va_W} {d : Nat} {X : AmX} {x0 : Int64} {x1 : Int64} (hd : 1 ≤ d) (hI : Inv s) (q_0 : BD (x0).toInt) (q_1 : BD (x1).toInt) : GC Z d 406 [.long x0, .long x1] (WW Z A s ++ ex) 0 0 (fun v u => ∃ z : Int64, v = some (.long z) ∧ u = WW Z A s ++ ex ∧ ((z).toInt = clp ((x0).toInt * (x1).toInt))) X := by
  intro post xp hP hX
  refine g_enter2 (k := 406) (N := 900) (by omega) rfl (Nat.le_of_ble_eq_true rfl) ?_
  refine g_lload_n 1 (gd rfl) rfl rfl ?_
  refine g_lconst 0 2 (gd rfl) rfl rfl ?_
  refine g_lcmp 3 (gd rfl) rfl (fun z2 e2 => ?_)
  have i2 := lc_in e2
  refine g_if_eq 6 12 (gd rfl) rfl rfl (fun c3 => ?_) (fun c3 => ?_)
  · skip
    have i3 := z_eq 0 0 c3 i2 rfl
    have c3a := lc_eq e2 c3
    have i3a := lr_eq1 0 0 c3a (l_rng x0) (l_c 0 rfl) rfl
    refine g_lconst 0 13 (gd rfl) rfl rfl ?_
    have n13 : ((Int64.ofInt 0)).toInt = clp ((x0).toInt * (x1).toInt) := by exact rpx_0 (by first | exact Or.inl (by have oc := oc_406; omega) | exact Or.inr (by have oc := oc_406; omega))
    exact g_lreturn (gd rfl) rfl (hP _ _ ⟨(Int64.ofInt 0), rfl, rfl, n13⟩)
  · skip
    have c3a := lc_ne e2 c3
    refine g_lload_n 7 (gd rfl) rfl rfl ?_
    refine g_lconst 0 8 (gd rfl) rfl rfl ?_
    refine g_lcmp 9 (gd rfl) rfl (fun z8 e8 => ?_)
    have i8 := lc_in e8
    refine g_if_ne 12 14 (gd rfl) rfl rfl (fun c9 => ?_) (fun c9 => ?_)
    · skip
      have c9a := lc_ne e8 c9
      refine g_lload_n 15 (gd rfl) rfl rfl ?_
      refine g_lconst 0 16 (gd rfl) rfl rfl ?_
      refine g_lcmp 17 (gd rfl) rfl (fun z16 e16 => ?_)
      have i16 := lc_in e16
      refine g_if_ge 20 25 (gd rfl) rfl rfl (fun c17 => ?_) (fun c17 => ?_)
      · skip
        have i17 := z_ge 0 1 c17 i16 rfl
        have c17a := lc_ge e16 c17
        have i17a := lr_le2 0 9223372036854775807 c17a (l_c 0 rfl) (l_rng x0) rfl
        refine g_lload_n 26 (gd rfl) rfl rfl ?_
        refine g_lstore 28 (gd rfl) rfl (Nat.le_of_ble_eq_true rfl) ?_
        refine g_lload_n 29 (gd rfl) rfl rfl ?_
        refine g_lconst 0 30 (gd rfl) rfl rfl ?_
        refine g_lcmp 31 (gd rfl) rfl (fun z30 e30 => ?_)
        have i30 := lc_in e30
        refine g_if_ge 34 39 (gd rfl) rfl rfl (fun c31 => ?_) (fun c31 => ?_)
        · skip
          have i31 := z_ge 0 1 c31 i30 rfl
          have c31a := lc_ge e30 c31
          have i31a := lr_le2 0 9223372036854775807 c31a (l_c 0 rfl) (l_rng x1) rfl
          refine g_lload_n 40 (gd rfl) rfl rfl ?_
          refine g_lstore 42 (gd rfl) rfl (Nat.le_of_ble_eq_true rfl) ?_
          refine g_lload 44 (gd rfl) rfl rfl ?_
          refine g_ldc2_w 1000000000000 47 (gd rfl) rfl rfl ?_
          refine g_lload 49 (gd rfl) rfl rfl ?_
          refine g_ldiv 50 (gd rfl) rfl (lnz (nz_l c9a)) (fun z49 e49 => ?_)
          refine g_lcmp 51 (gd rfl) rfl (fun z50 e50 => ?_)
          have i50 := lc_in e50
          refine g_if_le 54 60 (gd rfl) rfl rfl (fun c51 => ?_) (fun c51 => ?_)
          · skip
            have i51 := z_le (-1) 0 c51 i50 rfl
            have c51a := lc_le e50 c51
            have i51a := lr_le2 0 9223372036854775807 c51a i17a (l_rng z49) rfl
            refine g_lload 62 (gd rfl) rfl rfl ?_
            refine g_lload 64 (gd rfl) rfl rfl ?_
            refine g_lmul 65 (gd rfl) rfl (fun z64 e64 => ?_)
            refine g_lstore 67 (gd rfl) rfl (Nat.le_of_ble_eq_true rfl) ?_
            refine g_lload_n 68 (gd rfl) rfl rfl ?_
            refine g_lconst 0 69 (gd rfl) rfl rfl ?_
            refine g_lcmp 70 (gd rfl) rfl (fun z69 e69 => ?_)
            have i69 := lc_in e69
            refine g_if_ge 73 77 (gd rfl) rfl rfl (fun c70 => ?_) (fun c70 => ?_)
            · skip
              have i70 := z_ge 0 1 c70 i69 rfl
              have c70a := lc_ge e69 c70
              refine g_iconst 0 78 (gd rfl) rfl rfl ?_
              refine g_lload_n 79 (gd rfl) rfl rfl ?_
              refine g_lconst 0 80 (gd rfl) rfl rfl ?_
              refine g_lcmp 81 (gd rfl) rfl (fun z80 e80 => ?_)
              have i80 := lc_in e80
              refine g_if_ge 84 88 (gd rfl) rfl rfl (fun c81 => ?_) (fun c81 => ?_)
              · skip
                have i81 := z_ge 0 1 c81 i80 rfl
                have c81a := lc_ge e80 c81
                refine g_iconst 0 89 (gd rfl) rfl rfl ?_
                refine g_cmp_ne 92 97 (gd rfl) rfl rfl (fun c89 => ?_) (fun c89 => ?_)
                · skip
                  exact n_ne c89 (in_c 0 rfl) (in_c 0 rfl) rfl
                · skip
                  refine g_lload 94 (gd rfl) rfl rfl ?_
                  refine g_goto 100 (gd rfl) rfl ?_
                  have n100 : (z64).toInt = clp ((x0).toInt * (x1).toInt) := by exact rpx_1 q_0 q_1 (by first | exact Or.inl ⟨by have oc := oc_406; omega, rfl⟩ | exact Or.inr ⟨by have oc := oc_406; omega, e21⟩) (by first | exact Or.inl ⟨by have oc := oc_406; omega, rfl⟩ | exact Or.inr ⟨by have oc := oc_406; omega, e35⟩) (by have oc := oc_406; omega) e49 (by have oc := oc_406; omega) e64 ⟨fun _ => by have oc := oc_406; omega, fun _ => by have oc := oc_406; omega⟩
                  exact g_lreturn (gd rfl) rfl (hP _ _ ⟨z64, rfl, rfl, n100⟩)
              · skip
                have i81 := z_lt (-1) (-1) c81 i80 rfl
                have c81a := lc_lt e80 c81
                exact ln_lt c81a i31a (l_c 0 rfl) rfl
            · skip
              have i70 := z_lt (-1) (-1) c70 i69 rfl
              have c70a := lc_lt e69 c70
              exact ln_lt c70a i17a (l_c 0 rfl) rfl
          · skip
            have i51 := z_gt 1 1 c51 i50 rfl
            have c51a := lc_gt e50 c51
            have i51a := lr_lt1 (-9223372036854775808) 9223372036854775806 c51a (l_rng z49) i17a rfl
            refine g_ldc2_w 1000000000000 57 (gd rfl) rfl rfl ?_
            refine g_goto 65 (gd rfl) rfl ?_
            refine g_lstore 67 (gd rfl) rfl (Nat.le_of_ble_eq_true rfl) ?_
            refine g_lload_n 68 (gd rfl) rfl rfl ?_
            refine g_lconst 0 69 (gd rfl) rfl rfl ?_
            refine g_lcmp 70 (gd rfl) rfl (fun z69 e69 => ?_)
            have i69 := lc_in e69
            refine g_if_ge 73 77 (gd rfl) rfl rfl (fun c70 => ?_) (fun c70 => ?_)
            · skip
              have i70 := z_ge 0 1 c70 i69 rfl
              have c70a := lc_ge e69 c70
              refine g_iconst 0 78 (gd rfl) rfl rfl ?_
              refine g_lload_n 79 (gd rfl) rfl rfl ?_
              refine g_lconst 0 80 (gd rfl) rfl rfl ?_
              refine g_lcmp 81 (gd rfl) rfl (fun z80 e80 => ?_)
              have i80 := lc_in e80
              refine g_if_ge 84 88 (gd rfl) rfl rfl (fun c81 => ?_) (fun c81 => ?_)
              · skip
                have i81 := z_ge 0 1 c81 i80 rfl
                have c81a := lc_ge e80 c81
                refine g_iconst 0 89 (gd rfl) rfl rfl ?_
                refine g_cmp_ne 92 97 (gd rfl) rfl rfl (fun c89 => ?_) (fun c89 => ?_)
                · skip
                  exact n_ne c89 (in_c 0 rfl) (in_c 0 rfl) rfl
                · skip
                  refine g_lload 94 (gd rfl) rfl rfl ?_
                  refine g_goto 100 (gd rfl) rfl ?_
                  have n100 : ((Int64.ofInt 1000000000000)).toInt = clp ((x0).toInt * (x1).toInt) := by exact rpx_2 q_0 q_1 (by first | exact Or.inl ⟨by have oc := oc_406; omega, rfl⟩ | exact Or.inr ⟨by have oc := oc_406; omega, e21⟩) (by first | exact Or.inl ⟨by have oc := oc_406; omega, rfl⟩ | exact Or.inr ⟨by have oc := oc_406; omega, e35⟩) (by have oc := oc_406; omega) e49 (by have oc := oc_406; omega) ⟨fun _ => by have oc := oc_406; omega, fun _ => by have oc := oc_406; omega⟩
                  exact g_lreturn (gd rfl) rfl (hP _ _ ⟨(Int64.ofInt 1000000000000), rfl, rfl, n100⟩)
              · skip
                have i81 := z_lt (-1) (-1) c81 i80 rfl
                have c81a := lc_lt e80 c81
                exact ln_lt c81a i31a (l_c 0 rfl) rfl
            · skip
              have i70 := z_lt (-1) (-1) c70 i69 rfl
              have c70a := lc_lt e69 c70
              exact ln_lt c70a i17a (l_c 0 rfl) rfl
        · skip
          have i31 := z_lt (-1) (-1) c31 i30 rfl
          have c31a := lc_lt e30 c31
          have i31a := lr_lt1 (-9223372036854775808) (-1) c31a (l_rng x1) (l_c 0 rfl) rfl
          refine g_lload_n 35 (gd rfl) rfl rfl ?_
          refine g_lneg 36 (gd rfl) rfl (fun z35 e35 => ?_)
          refine g_goto 40 (gd rfl) rfl ?_
          refine g_lstore 42 (gd rfl) rfl (Nat.le_of_ble_eq_true rfl) ?_
          refine g_lload 44 (gd rfl) rfl rfl ?_
          refine g_ldc2_w 1000000000000 47 (gd rfl) rfl rfl ?_
          refine g_lload 49 (gd rfl) rfl rfl ?_
          refine g_ldiv 50 (gd rfl) rfl (lnz (lneg_nz e35 (nz_l c9a))) (fun z49 e49 => ?_)
          refine g_lcmp 51 (gd rfl) rfl (fun z50 e50 => ?_)
          have i50 := lc_in e50
          refine g_if_le 54 60 (gd rfl) rfl rfl (fun c51 => ?_) (fun c51 => ?_)
          · skip
            have i51 := z_le (-1) 0 c51 i50 rfl
            have c51a := lc_le e50 c51
            have i51a := lr_le2 0 9223372036854775807 c51a i17a (l_rng z49) rfl
            refine g_lload 62 (gd rfl) rfl rfl ?_
            refine g_lload 64 (gd rfl) rfl rfl ?_
            refine g_lmul 65 (gd rfl) rfl (fun z64 e64 => ?_)
            refine g_lstore 67 (gd rfl) rfl (Nat.le_of_ble_eq_true rfl) ?_
            refine g_lload_n 68 (gd rfl) rfl rfl ?_
            refine g_lconst 0 69 (gd rfl) rfl rfl ?_
            refine g_lcmp 70 (gd rfl) rfl (fun z69 e69 => ?_)
            have i69 := lc_in e69
            refine g_if_ge 73 77 (gd rfl) rfl rfl (fun c70 => ?_) (fun c70 => ?_)
            · skip
              have i70 := z_ge 0 1 c70 i69 rfl
              have c70a := lc_ge e69 c70
              refine g_iconst 0 78 (gd rfl) rfl rfl ?_
              refine g_lload_n 79 (gd rfl) rfl rfl ?_
              refine g_lconst 0 80 (gd rfl) rfl rfl ?_
              refine g_lcmp 81 (gd rfl) rfl (fun z80 e80 => ?_)
              have i80 := lc_in e80
              refine g_if_ge 84 88 (gd rfl) rfl rfl (fun c81 => ?_) (fun c81 => ?_)
              · skip
                have i81 := z_ge 0 1 c81 i80 rfl
                have c81a := lc_ge e80 c81
                exact ln_le c81a (l_c 0 rfl) i31a rfl
              · skip
                have i81 := z_lt (-1) (-1) c81 i80 rfl
                have c81a := lc_lt e80 c81
                refine g_iconst 1 85 (gd rfl) rfl rfl ?_
                refine g_goto 89 (gd rfl) rfl ?_
                refine g_cmp_ne 92 97 (gd rfl) rfl rfl (fun c89 => ?_) (fun c89 => ?_)
                · skip
                  refine g_lload 99 (gd rfl) rfl rfl ?_
                  refine g_lneg 100 (gd rfl) rfl (fun z99 e99 => ?_)
                  have n100 : (z99).toInt = clp ((x0).toInt * (x1).toInt) := by exact rpx_3 q_0 q_1 (by first | exact Or.inl ⟨by have oc := oc_406; omega, rfl⟩ | exact Or.inr ⟨by have oc := oc_406; omega, e21⟩) (by first | exact Or.inl ⟨by have oc := oc_406; omega, rfl⟩ | exact Or.inr ⟨by have oc := oc_406; omega, e35⟩) (by have oc := oc_406; omega) e49 (by have oc := oc_406; omega) e64 e99 (fun h => by have oc := oc_406; omega)
                  exact g_lreturn (gd rfl) rfl (hP _ _ ⟨z99, rfl, rfl, n100⟩)
                · skip
                  exact n_eq c89 (in_c 0 rfl) (in_c 1 rfl) rfl
            · skip
              have i70 := z_lt (-1) (-1) c70 i69 rfl
              have c70a := lc_lt e69 c70
              exact ln_lt c70a i17a (l_c 0 rfl) rfl
          · skip
            have i51 := z_gt 1 1 c51 i50 rfl
            have c51a := lc_gt e50 c51
            have i51a := lr_lt1 (-9223372036854775808) 9223372036854775806 c51a (l_rng z49) i17a rfl
            refine g_ldc2_w 1000000000000 57 (gd rfl) rfl rfl ?_
            refine g_goto 65 (gd rfl) rfl ?_
            refine g_lstore 67 (gd rfl) rfl (Nat.le_of_ble_eq_true rfl) ?_
            refine g_lload_n 68 (gd rfl) rfl rfl ?_
            refine g_lconst 0 69 (gd rfl) rfl rfl ?_
            refine g_lcmp 70 (gd rfl) rfl (fun z69 e69 => ?_)
            have i69 := lc_in e69
            refine g_if_ge 73 77 (gd rfl) rfl rfl (fun c70 => ?_) (fun c70 => ?_)
            · skip
              have i70 := z_ge 0 1 c70 i69 rfl
              have c70a := lc_ge e69 c70
              refine g_iconst 0 78 (gd rfl) rfl rfl ?_
              refine g_lload_n 79 (gd rfl) rfl rfl ?_
              refine g_lconst 0 80 (gd rfl) rfl rfl ?_
              refine g_lcmp 81 (gd rfl) rfl (fun z80 e80 => ?_)
              have i80 := lc_in e80
              refine g_if_ge 84 88 (gd rfl) rfl rfl (fun c81 => ?_) (fun c81 => ?_)
              · skip
                have i81 := z_ge 0 1 c81 i80 rfl
                have c81a := lc_ge e80 c81
                exact ln_le c81a (l_c 0 rfl) i31a rfl
              · skip
                have i81 := z_lt (-1) (-1) c81 i80 rfl
                have c81a := lc_lt e80 c81
                refine g_iconst 1 85 (gd rfl) rfl rfl ?_
                refine g_goto 89 (gd rfl) rfl ?_
                refine g_cmp_ne 92 97 (gd rfl) rfl rfl (fun c89 => ?_) (fun c89 => ?_)
                · skip
                  refine g_lload 99 (gd rfl) rfl rfl ?_
                  refine g_lneg 100 (gd rfl) rfl (fun z99 e99 => ?_)
                  have n100 : (z99).toInt = clp ((x0).toInt * (x1).toInt) := by exact rpx_4 q_0 q_1 (by first | exact Or.inl ⟨by have oc := oc_406; omega, rfl⟩ | exact Or.inr ⟨by have oc := oc_406; omega, e21⟩) (by first | exact Or.inl ⟨by have oc := oc_406; omega, rfl⟩ | exact Or.inr ⟨by have oc := oc_406; omega, e35⟩) (by have oc := oc_406; omega) e49 (by have oc := oc_406; omega) e99 (fun h => by have oc := oc_406; omega)
                  exact g_lreturn (gd rfl) rfl (hP _ _ ⟨z99, rfl, rfl, n100⟩)
                · skip
                  exact n_eq c89 (in_c 0 rfl) (in_c 1 rfl) rfl
            · skip
              have i70 := z_lt (-1) (-1) c70 i69 rfl
              have c70a := lc_lt e69 c70
              exact ln_lt c70a i17a (l_c 0 rfl) rfl
      · skip
        have i17 := z_lt (-1) (-1) c17 i16 rfl
        have c17a := lc_lt e16 c17
        have i17a := lr_lt1 (-9223372036854775808) (-1) c17a (l_rng x0) (l_c 0 rfl) rfl
        refine g_lload_n 21 (gd rfl) rfl rfl ?_
        refine g_lneg 22 (gd rfl) rfl (fun z21 e21 => ?_)
        refine g_goto 26 (gd rfl) rfl ?_
        refine g_lstore 28 (gd rfl) rfl (Nat.le_of_ble_eq_true rfl) ?_
        refine g_lload_n 29 (gd rfl) rfl rfl ?_
        refine g_lconst 0 30 (gd rfl) rfl rfl ?_
        refine g_lcmp 31 (gd rfl) rfl (fun z30 e30 => ?_)
        have i30 := lc_in e30
        refine g_if_ge 34 39 (gd rfl) rfl rfl (fun c31 => ?_) (fun c31 => ?_)
        · skip
          have i31 := z_ge 0 1 c31 i30 rfl
          have c31a := lc_ge e30 c31
          have i31a := lr_le2 0 9223372036854775807 c31a (l_c 0 rfl) (l_rng x1) rfl
          refine g_lload_n 40 (gd rfl) rfl rfl ?_
          refine g_lstore 42 (gd rfl) rfl (Nat.le_of_ble_eq_true rfl) ?_
          refine g_lload 44 (gd rfl) rfl rfl ?_
          refine g_ldc2_w 1000000000000 47 (gd rfl) rfl rfl ?_
          refine g_lload 49 (gd rfl) rfl rfl ?_
          refine g_ldiv 50 (gd rfl) rfl (lnz (nz_l c9a)) (fun z49 e49 => ?_)
          refine g_lcmp 51 (gd rfl) rfl (fun z50 e50 => ?_)
          have i50 := lc_in e50
          refine g_if_le 54 60 (gd rfl) rfl rfl (fun c51 => ?_) (fun c51 => ?_)
          · skip
            have i51 := z_le (-1) 0 c51 i50 rfl
            have c51a := lc_le e50 c51
            refine g_lload 62 (gd rfl) rfl rfl ?_
            refine g_lload 64 (gd rfl) rfl rfl ?_
            refine g_lmul 65 (gd rfl) rfl (fun z64 e64 => ?_)
            refine g_lstore 67 (gd rfl) rfl (Nat.le_of_ble_eq_true rfl) ?_
            refine g_lload_n 68 (gd rfl) rfl rfl ?_
            refine g_lconst 0 69 (gd rfl) rfl rfl ?_
            refine g_lcmp 70 (gd rfl) rfl (fun z69 e69 => ?_)
            have i69 := lc_in e69
            refine g_if_ge 73 77 (gd rfl) rfl rfl (fun c70 => ?_) (fun c70 => ?_)
            · skip
              have i70 := z_ge 0 1 c70 i69 rfl
              have c70a := lc_ge e69 c70
              exact ln_le c70a (l_c 0 rfl) i17a rfl
            · skip
              have i70 := z_lt (-1) (-1) c70 i69 rfl
              have c70a := lc_lt e69 c70
              refine g_iconst 1 74 (gd rfl) rfl rfl ?_
              refine g_goto 78 (gd rfl) rfl ?_
              refine g_lload_n 79 (gd rfl) rfl rfl ?_
              refine g_lconst 0 80 (gd rfl) rfl rfl ?_
              refine g_lcmp 81 (gd rfl) rfl (fun z80 e80 => ?_)
              have i80 := lc_in e80
              refine g_if_ge 84 88 (gd rfl) rfl rfl (fun c81 => ?_) (fun c81 => ?_)
              · skip
                have i81 := z_ge 0 1 c81 i80 rfl
                have c81a := lc_ge e80 c81
                refine g_iconst 0 89 (gd rfl) rfl rfl ?_
                refine g_cmp_ne 92 97 (gd rfl) rfl rfl (fun c89 => ?_) (fun c89 => ?_)
                · skip
                  refine g_lload 99 (gd rfl) rfl rfl ?_
                  refine g_lneg 100 (gd rfl) rfl (fun z99 e99 => ?_)
                  have n100 : (z99).toInt = clp ((x0).toInt * (x1).toInt) := by exact rpx_3 q_0 q_1 (by first | exact Or.inl ⟨by have oc := oc_406; omega, rfl⟩ | exact Or.inr ⟨by have oc := oc_406; omega, e21⟩) (by first | exact Or.inl ⟨by have oc := oc_406; omega, rfl⟩ | exact Or.inr ⟨by have oc := oc_406; omega, e35⟩) (by have oc := oc_406; omega) e49 (by have oc := oc_406; omega) e64 e99 (fun h => by have oc := oc_406; omega)
                  exact g_lreturn (gd rfl) rfl (hP _ _ ⟨z99, rfl, rfl, n100⟩)
                · skip
                  exact n_eq c89 (in_c 1 rfl) (in_c 0 rfl) rfl
              · skip
                have i81 := z_lt (-1) (-1) c81 i80 rfl
                have c81a := lc_lt e80 c81
                exact ln_lt c81a i31a (l_c 0 rfl) rfl
          · skip
            have i51 := z_gt 1 1 c51 i50 rfl
            have c51a := lc_gt e50 c51
            have i51a := lr_lt1 (-9223372036854775808) 9223372036854775806 c51a (l_rng z49) (l_rng z21) rfl
            have i51b := lr_lt2 (-9223372036854775807) 9223372036854775807 c51a (l_rng z49) (l_rng z21) rfl
            refine g_ldc2_w 1000000000000 57 (gd rfl) rfl rfl ?_
            refine g_goto 65 (gd rfl) rfl ?_
            refine g_lstore 67 (gd rfl) rfl (Nat.le_of_ble_eq_true rfl) ?_
            refine g_lload_n 68 (gd rfl) rfl rfl ?_
            refine g_lconst 0 69 (gd rfl) rfl rfl ?_
            refine g_lcmp 70 (gd rfl) rfl (fun z69 e69 => ?_)
            have i69 := lc_in e69
            refine g_if_ge 73 77 (gd rfl) rfl rfl (fun c70 => ?_) (fun c70 => ?_)
            · skip
              have i70 := z_ge 0 1 c70 i69 rfl
              have c70a := lc_ge e69 c70
              exact ln_le c70a (l_c 0 rfl) i17a rfl
            · skip
              have i70 := z_lt (-1) (-1) c70 i69 rfl
              have c70a := lc_lt e69 c70
              refine g_iconst 1 74 (gd rfl) rfl rfl ?_
              refine g_goto 78 (gd rfl) rfl ?_
              refine g_lload_n 79 (gd rfl) rfl rfl ?_
              refine g_lconst 0 80 (gd rfl) rfl rfl ?_
              refine g_lcmp 81 (gd rfl) rfl (fun z80 e80 => ?_)
              have i80 := lc_in e80
              refine g_if_ge 84 88 (gd rfl) rfl rfl (fun c81 => ?_) (fun c81 => ?_)
              · skip
                have i81 := z_ge 0 1 c81 i80 rfl
                have c81a := lc_ge e80 c81
                refine g_iconst 0 89 (gd rfl) rfl rfl ?_
                refine g_cmp_ne 92 97 (gd rfl) rfl rfl (fun c89 => ?_) (fun c89 => ?_)
                · skip
                  refine g_lload 99 (gd rfl) rfl rfl ?_
                  refine g_lneg 100 (gd rfl) rfl (fun z99 e99 => ?_)
                  have n100 : (z99).toInt = clp ((x0).toInt * (x1).toInt) := by exact rpx_4 q_0 q_1 (by first | exact Or.inl ⟨by have oc := oc_406; omega, rfl⟩ | exact Or.inr ⟨by have oc := oc_406; omega, e21⟩) (by first | exact Or.inl ⟨by have oc := oc_406; omega, rfl⟩ | exact Or.inr ⟨by have oc := oc_406; omega, e35⟩) (by have oc := oc_406; omega) e49 (by have oc := oc_406; omega) e99 (fun h => by have oc := oc_406; omega)
                  exact g_lreturn (gd rfl) rfl (hP _ _ ⟨z99, rfl, rfl, n100⟩)
                · skip
                  exact n_eq c89 (in_c 1 rfl) (in_c 0 rfl) rfl
              · skip
                have i81 := z_lt (-1) (-1) c81 i80 rfl
                have c81a := lc_lt e80 c81
                exact ln_lt c81a i31a (l_c 0 rfl) rfl
        · skip
          have i31 := z_lt (-1) (-1) c31 i30 rfl
          have c31a := lc_lt e30 c31
          have i31a := lr_lt1 (-9223372036854775808) (-1) c31a (l_rng x1) (l_c 0 rfl) rfl
          refine g_lload_n 35 (gd rfl) rfl rfl ?_
          refine g_lneg 36 (gd rfl) rfl (fun z35 e35 => ?_)
          refine g_goto 40 (gd rfl) rfl ?_
          refine g_lstore 42 (gd rfl) rfl (Nat.le_of_ble_eq_true rfl) ?_
          refine g_lload 44 (gd rfl) rfl rfl ?_
          refine g_ldc2_w 1000000000000 47 (gd rfl) rfl rfl ?_
          refine g_lload 49 (gd rfl) rfl rfl ?_
          refine g_ldiv 50 (gd rfl) rfl (lnz (lneg_nz e35 (nz_l c9a))) (fun z49 e49 => ?_)
          refine g_lcmp 51 (gd rfl) rfl (fun z50 e50 => ?_)
          have i50 := lc_in e50
          refine g_if_le 54 60 (gd rfl) rfl rfl (fun c51 => ?_) (fun c51 => ?_)
          · skip
            have i51 := z_le (-1) 0 c51 i50 rfl
            have c51a := lc_le e50 c51
            refine g_lload 62 (gd rfl) rfl rfl ?_
            refine g_lload 64 (gd rfl) rfl rfl ?_
            refine g_lmul 65 (gd rfl) rfl (fun z64 e64 => ?_)
            refine g_lstore 67 (gd rfl) rfl (Nat.le_of_ble_eq_true rfl) ?_
            refine g_lload_n 68 (gd rfl) rfl rfl ?_
            refine g_lconst 0 69 (gd rfl) rfl rfl ?_
            refine g_lcmp 70 (gd rfl) rfl (fun z69 e69 => ?_)
            have i69 := lc_in e69
            refine g_if_ge 73 77 (gd rfl) rfl rfl (fun c70 => ?_) (fun c70 => ?_)
            · skip
              have i70 := z_ge 0 1 c70 i69 rfl
              have c70a := lc_ge e69 c70
              exact ln_le c70a (l_c 0 rfl) i17a rfl
            · skip
              have i70 := z_lt (-1) (-1) c70 i69 rfl
              have c70a := lc_lt e69 c70
              refine g_iconst 1 74 (gd rfl) rfl rfl ?_
              refine g_goto 78 (gd rfl) rfl ?_
              refine g_lload_n 79 (gd rfl) rfl rfl ?_
              refine g_lconst 0 80 (gd rfl) rfl rfl ?_
              refine g_lcmp 81 (gd rfl) rfl (fun z80 e80 => ?_)
              have i80 := lc_in e80
              refine g_if_ge 84 88 (gd rfl) rfl rfl (fun c81 => ?_) (fun c81 => ?_)
              · skip
                have i81 := z_ge 0 1 c81 i80 rfl
                have c81a := lc_ge e80 c81
                exact ln_le c81a (l_c 0 rfl) i31a rfl
              · skip
                have i81 := z_lt (-1) (-1) c81 i80 rfl
                have c81a := lc_lt e80 c81
                refine g_iconst 1 85 (gd rfl) rfl rfl ?_
                refine g_goto 89 (gd rfl) rfl ?_
                refine g_cmp_ne 92 97 (gd rfl) rfl rfl (fun c89 => ?_) (fun c89 => ?_)
                · skip
                  exact n_ne c89 (in_c 1 rfl) (in_c 1 rfl) rfl
                · skip
                  refine g_lload 94 (gd rfl) rfl rfl ?_
                  refine g_goto 100 (gd rfl) rfl ?_
                  have n100 : (z64).toInt = clp ((x0).toInt * (x1).toInt) := by exact rpx_1 q_0 q_1 (by first | exact Or.inl ⟨by have oc := oc_406; omega, rfl⟩ | exact Or.inr ⟨by have oc := oc_406; omega, e21⟩) (by first | exact Or.inl ⟨by have oc := oc_406; omega, rfl⟩ | exact Or.inr ⟨by have oc := oc_406; omega, e35⟩) (by have oc := oc_406; omega) e49 (by have oc := oc_406; omega) e64 ⟨fun _ => by have oc := oc_406; omega, fun _ => by have oc := oc_406; omega⟩
                  exact g_lreturn (gd rfl) rfl (hP _ _ ⟨z64, rfl, rfl, n100⟩)
          · skip
            have i51 := z_gt 1 1 c51 i50 rfl
            have c51a := lc_gt e50 c51
            have i51a := lr_lt1 (-9223372036854775808) 9223372036854775806 c51a (l_rng z49) (l_rng z21) rfl
            have i51b := lr_lt2 (-9223372036854775807) 9223372036854775807 c51a (l_rng z49) (l_rng z21) rfl
            refine g_ldc2_w 1000000000000 57 (gd rfl) rfl rfl ?_
            refine g_goto 65 (gd rfl) rfl ?_
            refine g_lstore 67 (gd rfl) rfl (Nat.le_of_ble_eq_true rfl) ?_
            refine g_lload_n 68 (gd rfl) rfl rfl ?_
            refine g_lconst 0 69 (gd rfl) rfl rfl ?_
            refine g_lcmp 70 (gd rfl) rfl (fun z69 e69 => ?_)
            have i69 := lc_in e69
            refine g_if_ge 73 77 (gd rfl) rfl rfl (fun c70 => ?_) (fun c70 => ?_)
            · skip
              have i70 := z_ge 0 1 c70 i69 rfl
              have c70a := lc_ge e69 c70
              exact ln_le c70a (l_c 0 rfl) i17a rfl
            · skip
              have i70 := z_lt (-1) (-1) c70 i69 rfl
              have c70a := lc_lt e69 c70
              refine g_iconst 1 74 (gd rfl) rfl rfl ?_
              refine g_goto 78 (gd rfl) rfl ?_
              refine g_lload_n 79 (gd rfl) rfl rfl ?_
              refine g_lconst 0 80 (gd rfl) rfl rfl ?_
              refine g_lcmp 81 (gd rfl) rfl (fun z80 e80 => ?_)
              have i80 := lc_in e80
              refine g_if_ge 84 88 (gd rfl) rfl rfl (fun c81 => ?_) (fun c81 => ?_)
              · skip
                have i81 := z_ge 0 1 c81 i80 rfl
                have c81a := lc_ge e80 c81
                exact ln_le c81a (l_c 0 rfl) i31a rfl
              · skip
                have i81 := z_lt (-1) (-1) c81 i80 rfl
                have c81a := lc_lt e80 c81
                refine g_iconst 1 85 (gd rfl) rfl rfl ?_
                refine g_goto 89 (gd rfl) rfl ?_
                refine g_cmp_ne 92 97 (gd rfl) rfl rfl (fun c89 => ?_) (fun c89 => ?_)
                · skip
                  exact n_ne c89 (in_c 1 rfl) (in_c 1 rfl) rfl
                · skip
                  refine g_lload 94 (gd rfl) rfl rfl ?_
                  refine g_goto 100 (gd rfl) rfl ?_
                  have n100 : ((Int64.ofInt 1000000000000)).toInt = clp ((x0).toInt * (x1).toInt) := by exact rpx_2 q_0 q_1 (by first | exact Or.inl ⟨by have oc := oc_406; omega, rfl⟩ | exact Or.inr ⟨by have oc := oc_406; omega, e21⟩) (by first | exact Or.inl ⟨by have oc := oc_406; omega, rfl⟩ | exact Or.inr ⟨by have oc := oc_406; omega, e35⟩) (by have oc := oc_406; omega) e49 (by have oc := oc_406; omega) ⟨fun _ => by have oc := oc_406; omega, fun _ => by have oc := oc_406; omega⟩
                  exact g_lreturn (gd rfl) rfl (hP _ _ ⟨(Int64.ofInt 1000000000000), rfl, rfl, n100⟩)
    · skip
      have i9 := z_eq 0 0 c9 i8 rfl
      have c9a := lc_eq e8 c9
      have i9a := lr_eq1 0 0 c9a (l_rng x1) (l_c 0 rfl) rfl
      refine g_lconst 0 13 (gd rfl) rfl rfl ?_
      have n13 : ((Int64.ofInt 0)).toInt = clp ((x0).toInt * (x1).toInt) := by exact rpx_0 (by first | exact Or.inl (by have oc := oc_406; omega) | exact Or.inr (by have oc := oc_406; omega))
      exact g_lreturn (gd rfl) rfl (hP _ _ ⟨(Int64.ofInt 0), rfl, rfl, n13⟩)

theorem oc_407_109 : (Int32.ofInt (-1)).toInt = (-1) ∧ (Int32.ofInt 0).toInt = 0 ∧ (Int32.ofInt 1).toInt = 1 ∧ (Int32.ofInt 2).toInt = 2 ∧ (Int32.ofInt 3).toInt = 3 ∧ (Int32.ofInt 4).toInt = 4 ∧ (Int32.ofInt 5).toInt = 5 ∧ (Int32.ofInt 6).toInt = 6 ∧ (Int32.ofInt 7).toInt = 7 ∧ (Int32.ofInt 8).toInt = 8 ∧ (Int32.ofInt 32).toInt = 32 ∧ (Int32.ofInt 160).toInt = 160 ∧ (Int64.ofInt (-1000000000000)).toInt = (-1000000000000) ∧ (Int64.ofInt 0).toInt = 0 ∧ (Int64.ofInt 1).toInt = 1 ∧ (Int64.ofInt 1000000000000).toInt = 1000000000000 := ⟨rfl, rfl, rfl, rfl, rfl, rfl, rfl, rfl, rfl, rfl, rfl, rfl, rfl, rfl, rfl, rfl⟩
set_option maxHeartbeats 8000000 in
/-- GraphHouseModel.nameAll -/
theorem f_407 {Z : AmZ} {A : Nat → Nat} {s : GS} {ex : va_W} {d : Nat} {X : AmX} {x1 : Int32} {x2 : Int32} (hd : 2 ≤ d) (hI : Inv s) (h1 : In x1 0 31) (h2 : In x2 0 200) (q_0 : XBD (s.2.2.1 109 20).toInt (fun u => (s.2.1 191 u).toInt)) : GC Z d 407 [.ref (A 109), .int x1, .int x2] (WW Z A s ++ ex) 0 0 (fun v u => ∃ t : GS, Inv t ∧ Fr fm_407 s t ∧ v = none ∧ u = WW Z A t ++ ex ∧ (VLR (gvZ s) (fun u => (s.2.1 191 u).toInt) (x1).toNatClampNeg (x2).toInt (t.2.1 194))) X := by
  intro post xp hP hX
  obtain ⟨u_109_18, e_109_18⟩ : ∃ w, w = s.2.2.1 109 18 := ⟨_, rfl⟩
  have ro_109_18 := inv_F hI 0 1 rfl e_109_18
  obtain ⟨u_109_19, e_109_19⟩ : ∃ w, w = s.2.2.1 109 19 := ⟨_, rfl⟩
  have ro_109_19 := inv_F hI 0 160 rfl e_109_19
  have ct96 : ∀ (k96 : Nat) (sc96 : GS) (y96_3 : Int32), Inv sc96 → Fr fm_407 s sc96 → (In y96_3 0 400) → ((u_109_19).toInt ≤ (y96_3).toInt) → ((y96_3).toInt ≤ (u_109_19).toInt + 160) → (NMI (gvZ s) (fun u => (s.2.1 191 u).toInt) (x1).toNatClampNeg (x2).toInt ((y96_3).toInt - (u_109_19).toInt).toNat ((y96_3).toInt - (u_109_19).toInt).toNat (sc96.2.1 194)) → 400 - (y96_3).toInt < (k96 : Int) → GG Z (d - 1) 407 post (gx xp) (1 + k96 * 900) 96 (fun j => xlook j [(0, .ref (A 109)), (1, .int x1), (2, .int x2), (3, .int y96_3)]) [] (WW Z A sc96 ++ ex) 0 0 := by
    intro k96
    induction k96 with
    | zero => intro sc96 y96_3 hIc96 hFc96 j96_3 n96_0 n96_1 g96_0 mm96; exact m_no mm96 j96_3 rfl
    | succ k96 ih96 =>
      intro sc96 y96_3 hIc96 hFc96 j96_3 n96_0 n96_1 g96_0 mm96
      refine gg_w (M := 1 + k96 * 900 + 900) (by omega) ?_
      refine g_iload_n 97 (gd rfl) rfl rfl ?_
      refine g_aload_n 98 (gd rfl) rfl rfl ?_
      refine g_getI 101 (gd rfl) rfl rfl rfl (fun z98 e98 => ?_)
      have q98 : u_109_19 = z98 := (fr_F e_109_19 hFc96 rfl).trans e98.symm
      subst q98
      refine g_sipush 160 104 (gd rfl) rfl rfl ?_
      refine g_iadd 105 (gd rfl) rfl (fun z104 e104 => ?_)
      have i104 := in_add 160 320 e104 ro_109_19 (in_c 160 rfl) rfl rfl
      refine g_cmp_ge 108 276 (gd rfl) rfl rfl (fun c105 => ?_) (fun c105 => ?_)
      · skip
        have i105 := r_le2 160 400 c105 i104 j96_3 rfl
        refine g_aload_n 277 (gd rfl) rfl rfl ?_
        refine g_getA (q2 := 194) 280 (gd rfl) rfl rfl rfl rfl ?_
        refine g_bipush 6 282 (gd rfl) rfl rfl ?_
        refine g_aload_n 283 (gd rfl) rfl rfl ?_
        refine g_getA (q2 := 194) 286 (gd rfl) rfl rfl rfl rfl ?_
        refine g_bipush 6 288 (gd rfl) rfl rfl ?_
        refine g_laload 289 (gd rfl) rfl (n := 9) rfl (in_ix (in_c 6 rfl) rfl) (fun z288 e288 => ?_)
        refine g_calls (As := [.long z288]) (r := [.int (Int32.ofInt 6), .ref (A 194)]) 292 (gd rfl) rfl rfl rfl rfl rfl (Nat.le_of_ble_eq_true rfl) (Nat.zero_le _) (Nat.zero_le _) (f_405 (by omega) hIc96 ) (fun v u h => ?_)
        obtain ⟨z289, rfl, rfl, p289⟩ := h
        show GG _ _ _ _ _ _ _ _ [.long z289, .int (Int32.ofInt 6), .ref (A 194)] _ _ _
        refine g_lastore 293 (gd rfl) rfl (n := 9) rfl (in_ix (in_c 6 rfl) rfl) ?_
        have hI292 := inv_sL (q := 194) (j := (Int32.ofInt 6).toNatClampNeg) (x := z289) hIc96 rfl (l_rng z289)
        have n293 : VLR (gvZ s) (fun u => (s.2.1 191 u).toInt) (x1).toNatClampNeg (x2).toInt ((sL sc96 194 (Int32.ofInt 6).toNatClampNeg z289).2.1 194) := by have h9 := g96_0; rw [show ((y96_3).toInt - (u_109_19).toInt).toNat = 160 from (by have a0 := h2; unfold In at a0; have a1 := h1; unfold In at a1; have a2 := ro_109_19; unfold In at a2; have a3 := ro_109_18; unfold In at a3; have a4 := i105; unfold In at a4; have a5 := i104; unfold In at a5; have a6 := t_add e104 ro_109_19 (in_c 160 rfl) rfl; have a7 := (in_c 160 rfl); unfold In at a7; have oc := oc_407_109; omega)] at h9; rw [sL_v]; exact nmi_e h9 e288 p289
        exact g_return (gd rfl) rfl (hP _ _ ⟨(sL sc96 194 (Int32.ofInt 6).toNatClampNeg z289), hI292, (fr_sL rfl hFc96), rfl, rfl, n293⟩)
      · skip
        have i105 := r_lt1 0 319 c105 j96_3 i104 rfl
        refine g_aload_n 109 (gd rfl) rfl rfl ?_
        refine g_getA (q2 := 112) 112 (gd rfl) rfl rfl rfl rfl ?_
        refine g_iload_n 113 (gd rfl) rfl rfl ?_
        refine g_baload 114 (gd rfl) rfl (n := 480) rfl (in_ix i105 rfl) (fun z113 e113 => ?_)
        have i113 := inv_I hIc96 (n := 480) (t := 3) 0 1 rfl (in_ix i105 rfl) rfl e113
        refine g_if_eq 117 137 (gd rfl) rfl rfl (fun c114 => ?_) (fun c114 => ?_)
        · skip
          have i114 := z_eq 0 0 c114 i113 rfl
          refine g_aload_n 138 (gd rfl) rfl rfl ?_
          refine g_getA (q2 := 112) 141 (gd rfl) rfl rfl rfl rfl ?_
          refine g_iload_n 142 (gd rfl) rfl rfl ?_
          refine g_baload 143 (gd rfl) rfl (n := 480) rfl (in_ix i105 rfl) (fun z142 e142 => ?_)
          have q142 : z113 = z142 := (e113).trans e142.symm
          subst q142
          refine g_if_eq 146 270 (gd rfl) rfl rfl (fun c143 => ?_) (fun c143 => ?_)
          · skip
            refine g_iinc 273 (gd rfl) rfl rfl (Nat.le_of_ble_eq_true rfl) (fun z270 e270 => ?_)
            have i270 := in_add 1 320 e270 i105 (in_c 1 rfl) rfl rfl
            refine g_goto 96 (gd rfl) rfl ?_
            have n96 : (u_109_19).toInt ≤ (z270).toInt := by have a0 := h2; unfold In at a0; have a1 := h1; unfold In at a1; have a2 := ro_109_19; unfold In at a2; have a3 := ro_109_18; unfold In at a3; have a4 := i105; unfold In at a4; have a5 := i270; unfold In at a5; have a6 := t_add e270 i105 (in_c 1 rfl) rfl; have a7 := (in_c 1 rfl); unfold In at a7; have a8 := i104; unfold In at a8; have a9 := t_add e104 ro_109_19 (in_c 160 rfl) rfl; have a10 := (in_c 160 rfl); unfold In at a10; have oc := oc_407_109; omega
            have n96a : (z270).toInt ≤ (u_109_19).toInt + 160 := by have a0 := h2; unfold In at a0; have a1 := h1; unfold In at a1; have a2 := ro_109_19; unfold In at a2; have a3 := ro_109_18; unfold In at a3; have a4 := i105; unfold In at a4; have a5 := i270; unfold In at a5; have a6 := t_add e270 i105 (in_c 1 rfl) rfl; have a7 := (in_c 1 rfl); unfold In at a7; have a8 := i104; unfold In at a8; have a9 := t_add e104 ro_109_19 (in_c 160 rfl) rfl; have a10 := (in_c 160 rfl); unfold In at a10; have oc := oc_407_109; omega
            have n96b : NMI (gvZ s) (fun u => (s.2.1 191 u).toInt) (x1).toNatClampNeg (x2).toInt ((z270).toInt - (u_109_19).toInt).toNat ((z270).toInt - (u_109_19).toInt).toNat (sc96.2.1 194) := by rw [show ((z270).toInt - (u_109_19).toInt).toNat = ((y96_3).toInt - (u_109_19).toInt).toNat + 1 from (by have a0 := h2; unfold In at a0; have a1 := h1; unfold In at a1; have a2 := ro_109_19; unfold In at a2; have a3 := ro_109_18; unfold In at a3; have a4 := i105; unfold In at a4; have a5 := i270; unfold In at a5; have a6 := t_add e270 i105 (in_c 1 rfl) rfl; have a7 := (in_c 1 rfl); unfold In at a7; have a8 := i104; unfold In at a8; have a9 := t_add e104 ro_109_19 (in_c 160 rfl) rfl; have a10 := (in_c 160 rfl); unfold In at a10; have oc := oc_407_109; omega)]; have hp : bs s + ((y96_3).toInt - (u_109_19).toInt).toNat = y96_3.toNatClampNeg := (by show (s.2.2.1 109 19).toInt.toNat + _ = y96_3.toInt.toNat; rw [← e_109_19]; have a0 := h2; unfold In at a0; have a1 := h1; unfold In at a1; have a2 := ro_109_19; unfold In at a2; have a3 := ro_109_18; unfold In at a3; have a4 := i105; unfold In at a4; have a5 := i270; unfold In at a5; have a6 := t_add e270 i105 (in_c 1 rfl) rfl; have a7 := (in_c 1 rfl); unfold In at a7; have a8 := i104; unfold In at a8; have a9 := t_add e104 ro_109_19 (in_c 160 rfl) rfl; have a10 := (in_c 160 rfl); unfold In at a10; have oc := oc_407_109; omega); have ha : ((y96_3).toInt - (u_109_19).toInt).toNat < 160 := (by have a0 := h2; unfold In at a0; have a1 := h1; unfold In at a1; have a2 := ro_109_19; unfold In at a2; have a3 := ro_109_18; unfold In at a3; have a4 := i105; unfold In at a4; have a5 := i270; unfold In at a5; have a6 := t_add e270 i105 (in_c 1 rfl) rfl; have a7 := (in_c 1 rfl); unfold In at a7; have a8 := i104; unfold In at a8; have a9 := t_add e104 ro_109_19 (in_c 160 rfl) rfl; have a10 := (in_c 160 rfl); unfold In at a10; have oc := oc_407_109; omega); have rt := (show z113 = s.1 112 (bs s + ((y96_3).toInt - (u_109_19).toInt).toNat) from (by rw [hp, ← hFc96.1 112 rfl]; exact e113)); have n0 := arz_n hI rt (by have a0 := h2; unfold In at a0; have a1 := h1; unfold In at a1; have a2 := ro_109_19; unfold In at a2; have a3 := ro_109_18; unfold In at a3; have a4 := i105; unfold In at a4; have a5 := i270; unfold In at a5; have a6 := t_add e270 i105 (in_c 1 rfl) rfl; have a7 := (in_c 1 rfl); unfold In at a7; have a8 := i104; unfold In at a8; have a9 := t_add e104 ro_109_19 (in_c 160 rfl) rfl; have a10 := (in_c 160 rfl); unfold In at a10; have oc := oc_407_109; omega); exact nmi_4m (nmi_3m g96_0 (by rw [n0]; omega)) (by rw [are1_n ha n0]; omega)
            exact gg_w (by omega) (gg_f (gf_cons rfl (gf_cons rfl (gf_cons rfl (gf_cons rfl gf_nil)))) (ih96 sc96 z270 hIc96 hFc96 (in_w 0 400 i270 rfl) n96 n96a n96b (m_up mm96 (t_add e270 i105 (in_c 1 rfl) rfl) (in_w 1 1 (in_c 1 rfl) rfl))))
          · skip
            exact zn_ne c143 i114 rfl
        · skip
          have i114 := z_ne 1 1 c114 i113 rfl
          refine g_aload_n 118 (gd rfl) rfl rfl ?_
          refine g_getA (q2 := 113) 121 (gd rfl) rfl rfl rfl rfl ?_
          refine g_iload_n 122 (gd rfl) rfl rfl ?_
          refine g_iaload 123 (gd rfl) rfl (n := 480) rfl (in_ix i105 rfl) (fun z122 e122 => ?_)
          have i122 := inv_I hIc96 (n := 480) (t := 0) 0 31 rfl (in_ix i105 rfl) rfl e122
          refine g_iload_n 124 (gd rfl) rfl rfl ?_
          refine g_cmp_ne 127 137 (gd rfl) rfl rfl (fun c124 => ?_) (fun c124 => ?_)
          · skip
            refine g_aload_n 138 (gd rfl) rfl rfl ?_
            refine g_getA (q2 := 112) 141 (gd rfl) rfl rfl rfl rfl ?_
            refine g_iload_n 142 (gd rfl) rfl rfl ?_
            refine g_baload 143 (gd rfl) rfl (n := 480) rfl (in_ix i105 rfl) (fun z142 e142 => ?_)
            have q142 : z113 = z142 := (e113).trans e142.symm
            subst q142
            refine g_if_eq 146 270 (gd rfl) rfl rfl (fun c143 => ?_) (fun c143 => ?_)
            · skip
              exact zn_eq c143 i114 rfl
            · skip
              refine g_aload_n 147 (gd rfl) rfl rfl ?_
              refine g_getA (q2 := 114) 150 (gd rfl) rfl rfl rfl rfl ?_
              refine g_iload_n 151 (gd rfl) rfl rfl ?_
              refine g_iaload 152 (gd rfl) rfl (n := 480) rfl (in_ix i105 rfl) (fun z151 e151 => ?_)
              have i151 := inv_I hIc96 (n := 480) (t := 0) 0 31 rfl (in_ix i105 rfl) rfl e151
              refine g_iload_n 153 (gd rfl) rfl rfl ?_
              refine g_cmp_ne 156 270 (gd rfl) rfl rfl (fun c153 => ?_) (fun c153 => ?_)
              · skip
                refine g_iinc 273 (gd rfl) rfl rfl (Nat.le_of_ble_eq_true rfl) (fun z270 e270 => ?_)
                have i270 := in_add 1 320 e270 i105 (in_c 1 rfl) rfl rfl
                refine g_goto 96 (gd rfl) rfl ?_
                have n96 : (u_109_19).toInt ≤ (z270).toInt := by have a0 := h2; unfold In at a0; have a1 := h1; unfold In at a1; have a2 := ro_109_19; unfold In at a2; have a3 := ro_109_18; unfold In at a3; have a4 := i105; unfold In at a4; have a5 := i270; unfold In at a5; have a6 := t_add e270 i105 (in_c 1 rfl) rfl; have a7 := (in_c 1 rfl); unfold In at a7; have a8 := i104; unfold In at a8; have a9 := t_add e104 ro_109_19 (in_c 160 rfl) rfl; have a10 := (in_c 160 rfl); unfold In at a10; have oc := oc_407_109; omega
                have n96a : (z270).toInt ≤ (u_109_19).toInt + 160 := by have a0 := h2; unfold In at a0; have a1 := h1; unfold In at a1; have a2 := ro_109_19; unfold In at a2; have a3 := ro_109_18; unfold In at a3; have a4 := i105; unfold In at a4; have a5 := i270; unfold In at a5; have a6 := t_add e270 i105 (in_c 1 rfl) rfl; have a7 := (in_c 1 rfl); unfold In at a7; have a8 := i104; unfold In at a8; have a9 := t_add e104 ro_109_19 (in_c 160 rfl) rfl; have a10 := (in_c 160 rfl); unfold In at a10; have oc := oc_407_109; omega
                have n96b : NMI (gvZ s) (fun u => (s.2.1 191 u).toInt) (x1).toNatClampNeg (x2).toInt ((z270).toInt - (u_109_19).toInt).toNat ((z270).toInt - (u_109_19).toInt).toNat (sc96.2.1 194) := by rw [show ((z270).toInt - (u_109_19).toInt).toNat = ((y96_3).toInt - (u_109_19).toInt).toNat + 1 from (by have a0 := h2; unfold In at a0; have a1 := h1; unfold In at a1; have a2 := ro_109_19; unfold In at a2; have a3 := ro_109_18; unfold In at a3; have a4 := i105; unfold In at a4; have a5 := i270; unfold In at a5; have a6 := t_add e270 i105 (in_c 1 rfl) rfl; have a7 := (in_c 1 rfl); unfold In at a7; have a8 := i104; unfold In at a8; have a9 := t_add e104 ro_109_19 (in_c 160 rfl) rfl; have a10 := (in_c 160 rfl); unfold In at a10; have oc := oc_407_109; omega)]; have hp : bs s + ((y96_3).toInt - (u_109_19).toInt).toNat = y96_3.toNatClampNeg := (by show (s.2.2.1 109 19).toInt.toNat + _ = y96_3.toInt.toNat; rw [← e_109_19]; have a0 := h2; unfold In at a0; have a1 := h1; unfold In at a1; have a2 := ro_109_19; unfold In at a2; have a3 := ro_109_18; unfold In at a3; have a4 := i105; unfold In at a4; have a5 := i270; unfold In at a5; have a6 := t_add e270 i105 (in_c 1 rfl) rfl; have a7 := (in_c 1 rfl); unfold In at a7; have a8 := i104; unfold In at a8; have a9 := t_add e104 ro_109_19 (in_c 160 rfl) rfl; have a10 := (in_c 160 rfl); unfold In at a10; have oc := oc_407_109; omega); have ha : ((y96_3).toInt - (u_109_19).toInt).toNat < 160 := (by have a0 := h2; unfold In at a0; have a1 := h1; unfold In at a1; have a2 := ro_109_19; unfold In at a2; have a3 := ro_109_18; unfold In at a3; have a4 := i105; unfold In at a4; have a5 := i270; unfold In at a5; have a6 := t_add e270 i105 (in_c 1 rfl) rfl; have a7 := (in_c 1 rfl); unfold In at a7; have a8 := i104; unfold In at a8; have a9 := t_add e104 ro_109_19 (in_c 160 rfl) rfl; have a10 := (in_c 160 rfl); unfold In at a10; have oc := oc_407_109; omega); have rt := (show z113 = s.1 112 (bs s + ((y96_3).toInt - (u_109_19).toInt).toNat) from (by rw [hp, ← hFc96.1 112 rfl]; exact e113)); have rf := (show z122 = s.1 113 (bs s + ((y96_3).toInt - (u_109_19).toInt).toNat) from (by rw [hp, ← hFc96.1 113 rfl]; exact e122)); have ro := (show z151 = s.1 114 (bs s + ((y96_3).toInt - (u_109_19).toInt).toNat) from (by rw [hp, ← hFc96.1 114 rfl]; exact e151)); have ay := arz_y hI ha rt (by have a0 := h2; unfold In at a0; have a1 := h1; unfold In at a1; have a2 := ro_109_19; unfold In at a2; have a3 := ro_109_18; unfold In at a3; have a4 := i105; unfold In at a4; have a5 := i270; unfold In at a5; have a6 := t_add e270 i105 (in_c 1 rfl) rfl; have a7 := (in_c 1 rfl); unfold In at a7; have a8 := i104; unfold In at a8; have a9 := t_add e104 ro_109_19 (in_c 160 rfl) rfl; have a10 := (in_c 160 rfl); unfold In at a10; have oc := oc_407_109; omega); have E0 : ARE (gvZ s) 0 ((y96_3).toInt - (u_109_19).toInt).toNat = (z122).toInt := ay.1.trans (by rw [← rf]; exact clx i122.1); have E1 : ARE (gvZ s) 1 ((y96_3).toInt - (u_109_19).toInt).toNat = (z151).toInt := ay.2.trans (by rw [← ro]; exact clx i151.1); have vx := (show (((x1).toNatClampNeg : Nat) : Int) = (x1).toInt from clx (by have a0 := h2; unfold In at a0; have a1 := h1; unfold In at a1; have a2 := ro_109_19; unfold In at a2; have a3 := ro_109_18; unfold In at a3; have a4 := i105; unfold In at a4; have a5 := i270; unfold In at a5; have a6 := t_add e270 i105 (in_c 1 rfl) rfl; have a7 := (in_c 1 rfl); unfold In at a7; have a8 := i104; unfold In at a8; have a9 := t_add e104 ro_109_19 (in_c 160 rfl) rfl; have a10 := (in_c 160 rfl); unfold In at a10; have oc := oc_407_109; omega)); exact nmi_4m (nmi_3m g96_0 (by rw [E0, vx]; have a0 := h2; unfold In at a0; have a1 := h1; unfold In at a1; have a2 := ro_109_19; unfold In at a2; have a3 := ro_109_18; unfold In at a3; have a4 := i105; unfold In at a4; have a5 := i270; unfold In at a5; have a6 := t_add e270 i105 (in_c 1 rfl) rfl; have a7 := (in_c 1 rfl); unfold In at a7; have a8 := i104; unfold In at a8; have a9 := t_add e104 ro_109_19 (in_c 160 rfl) rfl; have a10 := (in_c 160 rfl); unfold In at a10; have oc := oc_407_109; omega)) (by rw [E1, vx]; have a0 := h2; unfold In at a0; have a1 := h1; unfold In at a1; have a2 := ro_109_19; unfold In at a2; have a3 := ro_109_18; unfold In at a3; have a4 := i105; unfold In at a4; have a5 := i270; unfold In at a5; have a6 := t_add e270 i105 (in_c 1 rfl) rfl; have a7 := (in_c 1 rfl); unfold In at a7; have a8 := i104; unfold In at a8; have a9 := t_add e104 ro_109_19 (in_c 160 rfl) rfl; have a10 := (in_c 160 rfl); unfold In at a10; have oc := oc_407_109; omega)
                exact gg_w (by omega) (gg_f (gf_cons rfl (gf_cons rfl (gf_cons rfl (gf_cons rfl gf_nil)))) (ih96 sc96 z270 hIc96 hFc96 (in_w 0 400 i270 rfl) n96 n96a n96b (m_up mm96 (t_add e270 i105 (in_c 1 rfl) rfl) (in_w 1 1 (in_c 1 rfl) rfl))))
              · skip
                refine g_aload_n 157 (gd rfl) rfl rfl ?_
                refine g_getA (q2 := 191) 160 (gd rfl) rfl rfl rfl rfl ?_
                refine g_aload_n 161 (gd rfl) rfl rfl ?_
                refine g_getA (q2 := 113) 164 (gd rfl) rfl rfl rfl rfl ?_
                refine g_iload_n 165 (gd rfl) rfl rfl ?_
                refine g_iaload 166 (gd rfl) rfl (n := 480) rfl (in_ix i105 rfl) (fun z165 e165 => ?_)
                have q165 : z122 = z165 := (e122).trans e165.symm
                subst q165
                refine g_laload 167 (gd rfl) rfl (n := 32) rfl (in_ix i122 rfl) (fun z166 e166 => ?_)
                refine g_lstore 169 (gd rfl) rfl (Nat.le_of_ble_eq_true rfl) ?_
                refine g_lload 171 (gd rfl) rfl rfl ?_
                refine g_aload_n 172 (gd rfl) rfl rfl ?_
                refine g_getA (q2 := 115) 175 (gd rfl) rfl rfl rfl rfl ?_
                refine g_iload_n 176 (gd rfl) rfl rfl ?_
                refine g_iaload 177 (gd rfl) rfl (n := 480) rfl (in_ix i105 rfl) (fun z176 e176 => ?_)
                have i176 := inv_I hIc96 (n := 480) (t := 0) (-1000000) 1000000 rfl (in_ix i105 rfl) rfl e176
                refine g_i2l 178 (gd rfl) rfl (fun z177 e177 => ?_)
                have i177 := l_i e177 i176
                refine g_ladd 179 (gd rfl) rfl (fun z178 e178 => ?_)
                refine g_calls (As := [.long z178]) (r := []) 182 (gd rfl) rfl rfl rfl rfl rfl (Nat.le_of_ble_eq_true rfl) (Nat.zero_le _) (Nat.zero_le _) (f_405 (by omega) hIc96 ) (fun v u h => ?_)
                obtain ⟨z179, rfl, rfl, p179⟩ := h
                show GG _ _ _ _ _ _ _ _ [.long z179] _ _ _
                refine g_lstore 184 (gd rfl) rfl (Nat.le_of_ble_eq_true rfl) ?_
                refine g_aload_n 185 (gd rfl) rfl rfl ?_
                refine g_getA (q2 := 194) 188 (gd rfl) rfl rfl rfl rfl ?_
                refine g_iconst 4 189 (gd rfl) rfl rfl ?_
                refine g_dup2 190 (gd rfl) rfl rfl rfl ?_
                refine g_laload 191 (gd rfl) rfl (n := 9) rfl (in_ix (in_c 4 rfl) rfl) (fun z190 e190 => ?_)
                refine g_lconst 1 192 (gd rfl) rfl rfl ?_
                refine g_ladd 193 (gd rfl) rfl (fun z192 e192 => ?_)
                refine g_lastore 194 (gd rfl) rfl (n := 9) rfl (in_ix (in_c 4 rfl) rfl) ?_
                have hI193 := inv_sL (q := 194) (j := (Int32.ofInt 4).toNatClampNeg) (x := z192) hIc96 rfl (l_rng z192)
                refine g_aload_n 195 (gd rfl) rfl rfl ?_
                refine g_getA (q2 := 194) 198 (gd rfl) rfl rfl rfl rfl ?_
                refine g_bipush 6 200 (gd rfl) rfl rfl ?_
                refine g_dup2 201 (gd rfl) rfl rfl rfl ?_
                refine g_laload 202 (gd rfl) rfl (n := 9) rfl (in_ix (in_c 6 rfl) rfl) (fun z201 e201 => ?_)
                refine g_lload 204 (gd rfl) rfl rfl ?_
                refine g_ladd 205 (gd rfl) rfl (fun z204 e204 => ?_)
                refine g_lastore 206 (gd rfl) rfl (n := 9) rfl (in_ix (in_c 6 rfl) rfl) ?_
                have hI205 := inv_sL (q := 194) (j := (Int32.ofInt 6).toNatClampNeg) (x := z204) hI193 rfl (l_rng z204)
                refine g_aload_n 207 (gd rfl) rfl rfl ?_
                refine g_getA (q2 := 194) 210 (gd rfl) rfl rfl rfl rfl ?_
                refine g_bipush 7 212 (gd rfl) rfl rfl ?_
                refine g_lload 214 (gd rfl) rfl rfl ?_
                refine g_aload_n 215 (gd rfl) rfl rfl ?_
                refine g_getA (q2 := 194) 218 (gd rfl) rfl rfl rfl rfl ?_
                refine g_bipush 7 220 (gd rfl) rfl rfl ?_
                refine g_laload 221 (gd rfl) rfl (n := 9) rfl (in_ix (in_c 7 rfl) rfl) (fun z220 e220 => ?_)
                refine g_lcmp 222 (gd rfl) rfl (fun z221 e221 => ?_)
                have i221 := lc_in e221
                refine g_if_ge 225 230 (gd rfl) rfl rfl (fun c222 => ?_) (fun c222 => ?_)
                · skip
                  have i222 := z_ge 0 1 c222 i221 rfl
                  have c222a := lc_ge e221 c222
                  refine g_aload_n 231 (gd rfl) rfl rfl ?_
                  refine g_getA (q2 := 194) 234 (gd rfl) rfl rfl rfl rfl ?_
                  refine g_bipush 7 236 (gd rfl) rfl rfl ?_
                  refine g_laload 237 (gd rfl) rfl (n := 9) rfl (in_ix (in_c 7 rfl) rfl) (fun z236 e236 => ?_)
                  refine g_lastore 238 (gd rfl) rfl (n := 9) rfl (in_ix (in_c 7 rfl) rfl) ?_
                  have hI237 := inv_sL (q := 194) (j := (Int32.ofInt 7).toNatClampNeg) (x := z236) hI205 rfl (l_rng z236)
                  refine g_aload_n 239 (gd rfl) rfl rfl ?_
                  refine g_getA (q2 := 194) 242 (gd rfl) rfl rfl rfl rfl ?_
                  refine g_bipush 8 244 (gd rfl) rfl rfl ?_
                  refine g_lload 246 (gd rfl) rfl rfl ?_
                  refine g_aload_n 247 (gd rfl) rfl rfl ?_
                  refine g_getA (q2 := 194) 250 (gd rfl) rfl rfl rfl rfl ?_
                  refine g_bipush 8 252 (gd rfl) rfl rfl ?_
                  refine g_laload 253 (gd rfl) rfl (n := 9) rfl (in_ix (in_c 8 rfl) rfl) (fun z252 e252 => ?_)
                  refine g_lcmp 254 (gd rfl) rfl (fun z253 e253 => ?_)
                  have i253 := lc_in e253
                  refine g_if_le 257 262 (gd rfl) rfl rfl (fun c254 => ?_) (fun c254 => ?_)
                  · skip
                    have i254 := z_le (-1) 0 c254 i253 rfl
                    have c254a := lc_le e253 c254
                    refine g_aload_n 263 (gd rfl) rfl rfl ?_
                    refine g_getA (q2 := 194) 266 (gd rfl) rfl rfl rfl rfl ?_
                    refine g_bipush 8 268 (gd rfl) rfl rfl ?_
                    refine g_laload 269 (gd rfl) rfl (n := 9) rfl (in_ix (in_c 8 rfl) rfl) (fun z268 e268 => ?_)
                    refine g_lastore 270 (gd rfl) rfl (n := 9) rfl (in_ix (in_c 8 rfl) rfl) ?_
                    have hI269 := inv_sL (q := 194) (j := (Int32.ofInt 8).toNatClampNeg) (x := z268) hI237 rfl (l_rng z268)
                    refine g_iinc 273 (gd rfl) rfl rfl (Nat.le_of_ble_eq_true rfl) (fun z270 e270 => ?_)
                    have i270 := in_add 1 320 e270 i105 (in_c 1 rfl) rfl rfl
                    refine g_goto 96 (gd rfl) rfl ?_
                    have n96 : (u_109_19).toInt ≤ (z270).toInt := by have a0 := h2; unfold In at a0; have a1 := h1; unfold In at a1; have a2 := ro_109_19; unfold In at a2; have a3 := ro_109_18; unfold In at a3; have a4 := i105; unfold In at a4; have a5 := i270; unfold In at a5; have a6 := t_add e270 i105 (in_c 1 rfl) rfl; have a7 := (in_c 1 rfl); unfold In at a7; have a8 := tx_i2l e177; have a9 := i176; unfold In at a9; have a10 := i104; unfold In at a10; have a11 := t_add e104 ro_109_19 (in_c 160 rfl) rfl; have a12 := (in_c 160 rfl); unfold In at a12; have oc := oc_407_109; omega
                    have n96a : (z270).toInt ≤ (u_109_19).toInt + 160 := by have a0 := h2; unfold In at a0; have a1 := h1; unfold In at a1; have a2 := ro_109_19; unfold In at a2; have a3 := ro_109_18; unfold In at a3; have a4 := i105; unfold In at a4; have a5 := i270; unfold In at a5; have a6 := t_add e270 i105 (in_c 1 rfl) rfl; have a7 := (in_c 1 rfl); unfold In at a7; have a8 := tx_i2l e177; have a9 := i176; unfold In at a9; have a10 := i104; unfold In at a10; have a11 := t_add e104 ro_109_19 (in_c 160 rfl) rfl; have a12 := (in_c 160 rfl); unfold In at a12; have oc := oc_407_109; omega
                    have n96b : NMI (gvZ s) (fun u => (s.2.1 191 u).toInt) (x1).toNatClampNeg (x2).toInt ((z270).toInt - (u_109_19).toInt).toNat ((z270).toInt - (u_109_19).toInt).toNat ((sL (sL (sL (sL sc96 194 (Int32.ofInt 4).toNatClampNeg z192) 194 (Int32.ofInt 6).toNatClampNeg z204) 194 (Int32.ofInt 7).toNatClampNeg z236) 194 (Int32.ofInt 8).toNatClampNeg z268).2.1 194) := by rw [show ((z270).toInt - (u_109_19).toInt).toNat = ((y96_3).toInt - (u_109_19).toInt).toNat + 1 from (by have a0 := h2; unfold In at a0; have a1 := h1; unfold In at a1; have a2 := ro_109_19; unfold In at a2; have a3 := ro_109_18; unfold In at a3; have a4 := i105; unfold In at a4; have a5 := i270; unfold In at a5; have a6 := t_add e270 i105 (in_c 1 rfl) rfl; have a7 := (in_c 1 rfl); unfold In at a7; have a8 := tx_i2l e177; have a9 := i176; unfold In at a9; have a10 := i104; unfold In at a10; have a11 := t_add e104 ro_109_19 (in_c 160 rfl) rfl; have a12 := (in_c 160 rfl); unfold In at a12; have oc := oc_407_109; omega)]; have hp : bs s + ((y96_3).toInt - (u_109_19).toInt).toNat = y96_3.toNatClampNeg := (by show (s.2.2.1 109 19).toInt.toNat + _ = y96_3.toInt.toNat; rw [← e_109_19]; have a0 := h2; unfold In at a0; have a1 := h1; unfold In at a1; have a2 := ro_109_19; unfold In at a2; have a3 := ro_109_18; unfold In at a3; have a4 := i105; unfold In at a4; have a5 := i270; unfold In at a5; have a6 := t_add e270 i105 (in_c 1 rfl) rfl; have a7 := (in_c 1 rfl); unfold In at a7; have a8 := tx_i2l e177; have a9 := i176; unfold In at a9; have a10 := i104; unfold In at a10; have a11 := t_add e104 ro_109_19 (in_c 160 rfl) rfl; have a12 := (in_c 160 rfl); unfold In at a12; have oc := oc_407_109; omega); have ha : ((y96_3).toInt - (u_109_19).toInt).toNat < 160 := (by have a0 := h2; unfold In at a0; have a1 := h1; unfold In at a1; have a2 := ro_109_19; unfold In at a2; have a3 := ro_109_18; unfold In at a3; have a4 := i105; unfold In at a4; have a5 := i270; unfold In at a5; have a6 := t_add e270 i105 (in_c 1 rfl) rfl; have a7 := (in_c 1 rfl); unfold In at a7; have a8 := tx_i2l e177; have a9 := i176; unfold In at a9; have a10 := i104; unfold In at a10; have a11 := t_add e104 ro_109_19 (in_c 160 rfl) rfl; have a12 := (in_c 160 rfl); unfold In at a12; have oc := oc_407_109; omega); have rt := (show z113 = s.1 112 (bs s + ((y96_3).toInt - (u_109_19).toInt).toNat) from (by rw [hp, ← hFc96.1 112 rfl]; exact e113)); have rf := (show z122 = s.1 113 (bs s + ((y96_3).toInt - (u_109_19).toInt).toNat) from (by rw [hp, ← hFc96.1 113 rfl]; exact e122)); have ro := (show z151 = s.1 114 (bs s + ((y96_3).toInt - (u_109_19).toInt).toNat) from (by rw [hp, ← hFc96.1 114 rfl]; exact e151)); have ay := arz_y hI ha rt (by have a0 := h2; unfold In at a0; have a1 := h1; unfold In at a1; have a2 := ro_109_19; unfold In at a2; have a3 := ro_109_18; unfold In at a3; have a4 := i105; unfold In at a4; have a5 := i270; unfold In at a5; have a6 := t_add e270 i105 (in_c 1 rfl) rfl; have a7 := (in_c 1 rfl); unfold In at a7; have a8 := tx_i2l e177; have a9 := i176; unfold In at a9; have a10 := i104; unfold In at a10; have a11 := t_add e104 ro_109_19 (in_c 160 rfl) rfl; have a12 := (in_c 160 rfl); unfold In at a12; have oc := oc_407_109; omega); have E0 : ARE (gvZ s) 0 ((y96_3).toInt - (u_109_19).toInt).toNat = (z122).toInt := ay.1.trans (by rw [← rf]; exact clx i122.1); have E1 : ARE (gvZ s) 1 ((y96_3).toInt - (u_109_19).toInt).toNat = (z151).toInt := ay.2.trans (by rw [← ro]; exact clx i151.1); have vx := (show (((x1).toNatClampNeg : Nat) : Int) = (x1).toInt from clx (by have a0 := h2; unfold In at a0; have a1 := h1; unfold In at a1; have a2 := ro_109_19; unfold In at a2; have a3 := ro_109_18; unfold In at a3; have a4 := i105; unfold In at a4; have a5 := i270; unfold In at a5; have a6 := t_add e270 i105 (in_c 1 rfl) rfl; have a7 := (in_c 1 rfl); unfold In at a7; have a8 := tx_i2l e177; have a9 := i176; unfold In at a9; have a10 := i104; unfold In at a10; have a11 := t_add e104 ro_109_19 (in_c 160 rfl) rfl; have a12 := (in_c 160 rfl); unfold In at a12; have oc := oc_407_109; omega)); have fz : ((gvZ s).2.1 ((y96_3).toInt - (u_109_19).toInt).toNat).toInt = (z122).toInt := (are_f ha rfl).symm.trans E0; have rw_ := (show z176 = s.1 115 (bs s + ((y96_3).toInt - (u_109_19).toInt).toNat) from (by rw [hp, ← hFc96.1 115 rfl]; exact e176)); have hF9 : (z166).toInt = vlF (gvZ s) (fun u => (s.2.1 191 u).toInt) ((y96_3).toInt - (u_109_19).toInt).toNat := (by unfold vlF; rw [fz]; exact congrArg Int64.toInt (e166.trans (congrFun (hFc96.2.1 191 rfl) _))); have hB := (vlf_b (ndq_z hI) (show XBD (gvZ s).2.2.2.2.2.2.1 (fun u => (s.2.1 191 u).toInt) from (by rw [gvz_n hI]; exact q_0)) ha E1 (by have a0 := h2; unfold In at a0; have a1 := h1; unfold In at a1; have a2 := ro_109_19; unfold In at a2; have a3 := ro_109_18; unfold In at a3; have a4 := i105; unfold In at a4; have a5 := i270; unfold In at a5; have a6 := t_add e270 i105 (in_c 1 rfl) rfl; have a7 := (in_c 1 rfl); unfold In at a7; have a8 := tx_i2l e177; have a9 := i176; unfold In at a9; have a10 := i104; unfold In at a10; have a11 := t_add e104 ro_109_19 (in_c 160 rfl) rfl; have a12 := (in_c 160 rfl); unfold In at a12; have oc := oc_407_109; omega)).1; rw [← hF9] at hB; unfold BD at hB; have hW9 : (z179).toInt = vlW (gvZ s) (fun u => (s.2.1 191 u).toInt) ((y96_3).toInt - (u_109_19).toInt).toNat := (by have t77 := tx_i2l e177; have t78 : z178.toInt = z166.toInt + z177.toInt := ladd_t e178 (by have a0 := h2; unfold In at a0; have a1 := h1; unfold In at a1; have a2 := ro_109_19; unfold In at a2; have a3 := ro_109_18; unfold In at a3; have a4 := i105; unfold In at a4; have a5 := i270; unfold In at a5; have a6 := t_add e270 i105 (in_c 1 rfl) rfl; have a7 := (in_c 1 rfl); unfold In at a7; have a8 := tx_i2l e177; have a9 := i176; unfold In at a9; have a10 := i104; unfold In at a10; have a11 := t_add e104 ro_109_19 (in_c 160 rfl) rfl; have a12 := (in_c 160 rfl); unfold In at a12; have oc := oc_407_109; omega) (by have a0 := h2; unfold In at a0; have a1 := h1; unfold In at a1; have a2 := ro_109_19; unfold In at a2; have a3 := ro_109_18; unfold In at a3; have a4 := i105; unfold In at a4; have a5 := i270; unfold In at a5; have a6 := t_add e270 i105 (in_c 1 rfl) rfl; have a7 := (in_c 1 rfl); unfold In at a7; have a8 := tx_i2l e177; have a9 := i176; unfold In at a9; have a10 := i104; unfold In at a10; have a11 := t_add e104 ro_109_19 (in_c 160 rfl) rfl; have a12 := (in_c 160 rfl); unfold In at a12; have oc := oc_407_109; omega); unfold vlW; rw [p179, t78, t77, hF9, gvz_w hI, rw_]); simp only [sL_v]; exact nmi_4h (nmi_3m g96_0 (by rw [E0, vx]; have a0 := h2; unfold In at a0; have a1 := h1; unfold In at a1; have a2 := ro_109_19; unfold In at a2; have a3 := ro_109_18; unfold In at a3; have a4 := i105; unfold In at a4; have a5 := i270; unfold In at a5; have a6 := t_add e270 i105 (in_c 1 rfl) rfl; have a7 := (in_c 1 rfl); unfold In at a7; have a8 := tx_i2l e177; have a9 := i176; unfold In at a9; have a10 := i104; unfold In at a10; have a11 := t_add e104 ro_109_19 (in_c 160 rfl) rfl; have a12 := (in_c 160 rfl); unfold In at a12; have oc := oc_407_109; omega)) ha (ndq_z hI) (show XBD (gvZ s).2.2.2.2.2.2.1 (fun u => (s.2.1 191 u).toInt) from (by rw [gvz_n hI]; exact q_0)) (by rw [E1, vx]; have a0 := h2; unfold In at a0; have a1 := h1; unfold In at a1; have a2 := ro_109_19; unfold In at a2; have a3 := ro_109_18; unfold In at a3; have a4 := i105; unfold In at a4; have a5 := i270; unfold In at a5; have a6 := t_add e270 i105 (in_c 1 rfl) rfl; have a7 := (in_c 1 rfl); unfold In at a7; have a8 := tx_i2l e177; have a9 := i176; unfold In at a9; have a10 := i104; unfold In at a10; have a11 := t_add e104 ro_109_19 (in_c 160 rfl) rfl; have a12 := (in_c 160 rfl); unfold In at a12; have oc := oc_407_109; omega) e190 e192 e201 e204 hF9 hW9 e220 (by first | exact (congrArg Int64.toInt (e236.trans e220.symm)).trans (mnv_1 (by have a0 := h2; unfold In at a0; have a1 := h1; unfold In at a1; have a2 := ro_109_19; unfold In at a2; have a3 := ro_109_18; unfold In at a3; have a4 := i105; unfold In at a4; have a5 := i270; unfold In at a5; have a6 := t_add e270 i105 (in_c 1 rfl) rfl; have a7 := (in_c 1 rfl); unfold In at a7; have a8 := tx_i2l e177; have a9 := i176; unfold In at a9; have a10 := i104; unfold In at a10; have a11 := t_add e104 ro_109_19 (in_c 160 rfl) rfl; have a12 := (in_c 160 rfl); unfold In at a12; have oc := oc_407_109; omega)).symm | exact (mnv_2 (by have a0 := h2; unfold In at a0; have a1 := h1; unfold In at a1; have a2 := ro_109_19; unfold In at a2; have a3 := ro_109_18; unfold In at a3; have a4 := i105; unfold In at a4; have a5 := i270; unfold In at a5; have a6 := t_add e270 i105 (in_c 1 rfl) rfl; have a7 := (in_c 1 rfl); unfold In at a7; have a8 := tx_i2l e177; have a9 := i176; unfold In at a9; have a10 := i104; unfold In at a10; have a11 := t_add e104 ro_109_19 (in_c 160 rfl) rfl; have a12 := (in_c 160 rfl); unfold In at a12; have oc := oc_407_109; omega)).symm) e252 (by first | exact (congrArg Int64.toInt (e268.trans e252.symm)).trans (mxv_1 (by have a0 := h2; unfold In at a0; have a1 := h1; unfold In at a1; have a2 := ro_109_19; unfold In at a2; have a3 := ro_109_18; unfold In at a3; have a4 := i105; unfold In at a4; have a5 := i270; unfold In at a5; have a6 := t_add e270 i105 (in_c 1 rfl) rfl; have a7 := (in_c 1 rfl); unfold In at a7; have a8 := tx_i2l e177; have a9 := i176; unfold In at a9; have a10 := i104; unfold In at a10; have a11 := t_add e104 ro_109_19 (in_c 160 rfl) rfl; have a12 := (in_c 160 rfl); unfold In at a12; have oc := oc_407_109; omega)).symm | exact (mxv_2 (by have a0 := h2; unfold In at a0; have a1 := h1; unfold In at a1; have a2 := ro_109_19; unfold In at a2; have a3 := ro_109_18; unfold In at a3; have a4 := i105; unfold In at a4; have a5 := i270; unfold In at a5; have a6 := t_add e270 i105 (in_c 1 rfl) rfl; have a7 := (in_c 1 rfl); unfold In at a7; have a8 := tx_i2l e177; have a9 := i176; unfold In at a9; have a10 := i104; unfold In at a10; have a11 := t_add e104 ro_109_19 (in_c 160 rfl) rfl; have a12 := (in_c 160 rfl); unfold In at a12; have oc := oc_407_109; omega)).symm)
                    exact gg_w (by omega) (gg_f (gf_cons rfl (gf_cons rfl (gf_cons rfl (gf_cons rfl gf_nil)))) (ih96 (sL (sL (sL (sL sc96 194 (Int32.ofInt 4).toNatClampNeg z192) 194 (Int32.ofInt 6).toNatClampNeg z204) 194 (Int32.ofInt 7).toNatClampNeg z236) 194 (Int32.ofInt 8).toNatClampNeg z268) z270 hI269 (fr_sL rfl (fr_sL rfl (fr_sL rfl (fr_sL rfl hFc96)))) (in_w 0 400 i270 rfl) n96 n96a n96b (m_up mm96 (t_add e270 i105 (in_c 1 rfl) rfl) (in_w 1 1 (in_c 1 rfl) rfl))))
                  · skip
                    have i254 := z_gt 1 1 c254 i253 rfl
                    have c254a := lc_gt e253 c254
                    have i254a := lr_lt1 (-9223372036854775808) 9223372036854775806 c254a (l_rng z252) (l_rng z179) rfl
                    have i254b := lr_lt2 (-9223372036854775807) 9223372036854775807 c254a (l_rng z252) (l_rng z179) rfl
                    refine g_lload 259 (gd rfl) rfl rfl ?_
                    refine g_goto 269 (gd rfl) rfl ?_
                    refine g_lastore 270 (gd rfl) rfl (n := 9) rfl (in_ix (in_c 8 rfl) rfl) ?_
                    have hI269 := inv_sL (q := 194) (j := (Int32.ofInt 8).toNatClampNeg) (x := z179) hI237 rfl (l_rng z179)
                    refine g_iinc 273 (gd rfl) rfl rfl (Nat.le_of_ble_eq_true rfl) (fun z270 e270 => ?_)
                    have i270 := in_add 1 320 e270 i105 (in_c 1 rfl) rfl rfl
                    refine g_goto 96 (gd rfl) rfl ?_
                    have n96 : (u_109_19).toInt ≤ (z270).toInt := by have a0 := h2; unfold In at a0; have a1 := h1; unfold In at a1; have a2 := ro_109_19; unfold In at a2; have a3 := ro_109_18; unfold In at a3; have a4 := i105; unfold In at a4; have a5 := i270; unfold In at a5; have a6 := t_add e270 i105 (in_c 1 rfl) rfl; have a7 := (in_c 1 rfl); unfold In at a7; have a8 := tx_i2l e177; have a9 := i176; unfold In at a9; have a10 := i104; unfold In at a10; have a11 := t_add e104 ro_109_19 (in_c 160 rfl) rfl; have a12 := (in_c 160 rfl); unfold In at a12; have oc := oc_407_109; omega
                    have n96a : (z270).toInt ≤ (u_109_19).toInt + 160 := by have a0 := h2; unfold In at a0; have a1 := h1; unfold In at a1; have a2 := ro_109_19; unfold In at a2; have a3 := ro_109_18; unfold In at a3; have a4 := i105; unfold In at a4; have a5 := i270; unfold In at a5; have a6 := t_add e270 i105 (in_c 1 rfl) rfl; have a7 := (in_c 1 rfl); unfold In at a7; have a8 := tx_i2l e177; have a9 := i176; unfold In at a9; have a10 := i104; unfold In at a10; have a11 := t_add e104 ro_109_19 (in_c 160 rfl) rfl; have a12 := (in_c 160 rfl); unfold In at a12; have oc := oc_407_109; omega
                    have n96b : NMI (gvZ s) (fun u => (s.2.1 191 u).toInt) (x1).toNatClampNeg (x2).toInt ((z270).toInt - (u_109_19).toInt).toNat ((z270).toInt - (u_109_19).toInt).toNat ((sL (sL (sL (sL sc96 194 (Int32.ofInt 4).toNatClampNeg z192) 194 (Int32.ofInt 6).toNatClampNeg z204) 194 (Int32.ofInt 7).toNatClampNeg z236) 194 (Int32.ofInt 8).toNatClampNeg z179).2.1 194) := by rw [show ((z270).toInt - (u_109_19).toInt).toNat = ((y96_3).toInt - (u_109_19).toInt).toNat + 1 from (by have a0 := h2; unfold In at a0; have a1 := h1; unfold In at a1; have a2 := ro_109_19; unfold In at a2; have a3 := ro_109_18; unfold In at a3; have a4 := i105; unfold In at a4; have a5 := i270; unfold In at a5; have a6 := t_add e270 i105 (in_c 1 rfl) rfl; have a7 := (in_c 1 rfl); unfold In at a7; have a8 := tx_i2l e177; have a9 := i176; unfold In at a9; have a10 := i104; unfold In at a10; have a11 := t_add e104 ro_109_19 (in_c 160 rfl) rfl; have a12 := (in_c 160 rfl); unfold In at a12; have oc := oc_407_109; omega)]; have hp : bs s + ((y96_3).toInt - (u_109_19).toInt).toNat = y96_3.toNatClampNeg := (by show (s.2.2.1 109 19).toInt.toNat + _ = y96_3.toInt.toNat; rw [← e_109_19]; have a0 := h2; unfold In at a0; have a1 := h1; unfold In at a1; have a2 := ro_109_19; unfold In at a2; have a3 := ro_109_18; unfold In at a3; have a4 := i105; unfold In at a4; have a5 := i270; unfold In at a5; have a6 := t_add e270 i105 (in_c 1 rfl) rfl; have a7 := (in_c 1 rfl); unfold In at a7; have a8 := tx_i2l e177; have a9 := i176; unfold In at a9; have a10 := i104; unfold In at a10; have a11 := t_add e104 ro_109_19 (in_c 160 rfl) rfl; have a12 := (in_c 160 rfl); unfold In at a12; have oc := oc_407_109; omega); have ha : ((y96_3).toInt - (u_109_19).toInt).toNat < 160 := (by have a0 := h2; unfold In at a0; have a1 := h1; unfold In at a1; have a2 := ro_109_19; unfold In at a2; have a3 := ro_109_18; unfold In at a3; have a4 := i105; unfold In at a4; have a5 := i270; unfold In at a5; have a6 := t_add e270 i105 (in_c 1 rfl) rfl; have a7 := (in_c 1 rfl); unfold In at a7; have a8 := tx_i2l e177; have a9 := i176; unfold In at a9; have a10 := i104; unfold In at a10; have a11 := t_add e104 ro_109_19 (in_c 160 rfl) rfl; have a12 := (in_c 160 rfl); unfold In at a12; have oc := oc_407_109; omega); have rt := (show z113 = s.1 112 (bs s + ((y96_3).toInt - (u_109_19).toInt).toNat) from (by rw [hp, ← hFc96.1 112 rfl]; exact e113)); have rf := (show z122 = s.1 113 (bs s + ((y96_3).toInt - (u_109_19).toInt).toNat) from (by rw [hp, ← hFc96.1 113 rfl]; exact e122)); have ro := (show z151 = s.1 114 (bs s + ((y96_3).toInt - (u_109_19).toInt).toNat) from (by rw [hp, ← hFc96.1 114 rfl]; exact e151)); have ay := arz_y hI ha rt (by have a0 := h2; unfold In at a0; have a1 := h1; unfold In at a1; have a2 := ro_109_19; unfold In at a2; have a3 := ro_109_18; unfold In at a3; have a4 := i105; unfold In at a4; have a5 := i270; unfold In at a5; have a6 := t_add e270 i105 (in_c 1 rfl) rfl; have a7 := (in_c 1 rfl); unfold In at a7; have a8 := tx_i2l e177; have a9 := i176; unfold In at a9; have a10 := i104; unfold In at a10; have a11 := t_add e104 ro_109_19 (in_c 160 rfl) rfl; have a12 := (in_c 160 rfl); unfold In at a12; have oc := oc_407_109; omega); have E0 : ARE (gvZ s) 0 ((y96_3).toInt - (u_109_19).toInt).toNat = (z122).toInt := ay.1.trans (by rw [← rf]; exact clx i122.1); have E1 : ARE (gvZ s) 1 ((y96_3).toInt - (u_109_19).toInt).toNat = (z151).toInt := ay.2.trans (by rw [← ro]; exact clx i151.1); have vx := (show (((x1).toNatClampNeg : Nat) : Int) = (x1).toInt from clx (by have a0 := h2; unfold In at a0; have a1 := h1; unfold In at a1; have a2 := ro_109_19; unfold In at a2; have a3 := ro_109_18; unfold In at a3; have a4 := i105; unfold In at a4; have a5 := i270; unfold In at a5; have a6 := t_add e270 i105 (in_c 1 rfl) rfl; have a7 := (in_c 1 rfl); unfold In at a7; have a8 := tx_i2l e177; have a9 := i176; unfold In at a9; have a10 := i104; unfold In at a10; have a11 := t_add e104 ro_109_19 (in_c 160 rfl) rfl; have a12 := (in_c 160 rfl); unfold In at a12; have oc := oc_407_109; omega)); have fz : ((gvZ s).2.1 ((y96_3).toInt - (u_109_19).toInt).toNat).toInt = (z122).toInt := (are_f ha rfl).symm.trans E0; have rw_ := (show z176 = s.1 115 (bs s + ((y96_3).toInt - (u_109_19).toInt).toNat) from (by rw [hp, ← hFc96.1 115 rfl]; exact e176)); have hF9 : (z166).toInt = vlF (gvZ s) (fun u => (s.2.1 191 u).toInt) ((y96_3).toInt - (u_109_19).toInt).toNat := (by unfold vlF; rw [fz]; exact congrArg Int64.toInt (e166.trans (congrFun (hFc96.2.1 191 rfl) _))); have hB := (vlf_b (ndq_z hI) (show XBD (gvZ s).2.2.2.2.2.2.1 (fun u => (s.2.1 191 u).toInt) from (by rw [gvz_n hI]; exact q_0)) ha E1 (by have a0 := h2; unfold In at a0; have a1 := h1; unfold In at a1; have a2 := ro_109_19; unfold In at a2; have a3 := ro_109_18; unfold In at a3; have a4 := i105; unfold In at a4; have a5 := i270; unfold In at a5; have a6 := t_add e270 i105 (in_c 1 rfl) rfl; have a7 := (in_c 1 rfl); unfold In at a7; have a8 := tx_i2l e177; have a9 := i176; unfold In at a9; have a10 := i104; unfold In at a10; have a11 := t_add e104 ro_109_19 (in_c 160 rfl) rfl; have a12 := (in_c 160 rfl); unfold In at a12; have oc := oc_407_109; omega)).1; rw [← hF9] at hB; unfold BD at hB; have hW9 : (z179).toInt = vlW (gvZ s) (fun u => (s.2.1 191 u).toInt) ((y96_3).toInt - (u_109_19).toInt).toNat := (by have t77 := tx_i2l e177; have t78 : z178.toInt = z166.toInt + z177.toInt := ladd_t e178 (by have a0 := h2; unfold In at a0; have a1 := h1; unfold In at a1; have a2 := ro_109_19; unfold In at a2; have a3 := ro_109_18; unfold In at a3; have a4 := i105; unfold In at a4; have a5 := i270; unfold In at a5; have a6 := t_add e270 i105 (in_c 1 rfl) rfl; have a7 := (in_c 1 rfl); unfold In at a7; have a8 := tx_i2l e177; have a9 := i176; unfold In at a9; have a10 := i104; unfold In at a10; have a11 := t_add e104 ro_109_19 (in_c 160 rfl) rfl; have a12 := (in_c 160 rfl); unfold In at a12; have oc := oc_407_109; omega) (by have a0 := h2; unfold In at a0; have a1 := h1; unfold In at a1; have a2 := ro_109_19; unfold In at a2; have a3 := ro_109_18; unfold In at a3; have a4 := i105; unfold In at a4; have a5 := i270; unfold In at a5; have a6 := t_add e270 i105 (in_c 1 rfl) rfl; have a7 := (in_c 1 rfl); unfold In at a7; have a8 := tx_i2l e177; have a9 := i176; unfold In at a9; have a10 := i104; unfold In at a10; have a11 := t_add e104 ro_109_19 (in_c 160 rfl) rfl; have a12 := (in_c 160 rfl); unfold In at a12; have oc := oc_407_109; omega); unfold vlW; rw [p179, t78, t77, hF9, gvz_w hI, rw_]); simp only [sL_v]; exact nmi_4h (nmi_3m g96_0 (by rw [E0, vx]; have a0 := h2; unfold In at a0; have a1 := h1; unfold In at a1; have a2 := ro_109_19; unfold In at a2; have a3 := ro_109_18; unfold In at a3; have a4 := i105; unfold In at a4; have a5 := i270; unfold In at a5; have a6 := t_add e270 i105 (in_c 1 rfl) rfl; have a7 := (in_c 1 rfl); unfold In at a7; have a8 := tx_i2l e177; have a9 := i176; unfold In at a9; have a10 := i104; unfold In at a10; have a11 := t_add e104 ro_109_19 (in_c 160 rfl) rfl; have a12 := (in_c 160 rfl); unfold In at a12; have oc := oc_407_109; omega)) ha (ndq_z hI) (show XBD (gvZ s).2.2.2.2.2.2.1 (fun u => (s.2.1 191 u).toInt) from (by rw [gvz_n hI]; exact q_0)) (by rw [E1, vx]; have a0 := h2; unfold In at a0; have a1 := h1; unfold In at a1; have a2 := ro_109_19; unfold In at a2; have a3 := ro_109_18; unfold In at a3; have a4 := i105; unfold In at a4; have a5 := i270; unfold In at a5; have a6 := t_add e270 i105 (in_c 1 rfl) rfl; have a7 := (in_c 1 rfl); unfold In at a7; have a8 := tx_i2l e177; have a9 := i176; unfold In at a9; have a10 := i104; unfold In at a10; have a11 := t_add e104 ro_109_19 (in_c 160 rfl) rfl; have a12 := (in_c 160 rfl); unfold In at a12; have oc := oc_407_109; omega) e190 e192 e201 e204 hF9 hW9 e220 (by first | exact (congrArg Int64.toInt (e236.trans e220.symm)).trans (mnv_1 (by have a0 := h2; unfold In at a0; have a1 := h1; unfold In at a1; have a2 := ro_109_19; unfold In at a2; have a3 := ro_109_18; unfold In at a3; have a4 := i105; unfold In at a4; have a5 := i270; unfold In at a5; have a6 := t_add e270 i105 (in_c 1 rfl) rfl; have a7 := (in_c 1 rfl); unfold In at a7; have a8 := tx_i2l e177; have a9 := i176; unfold In at a9; have a10 := i104; unfold In at a10; have a11 := t_add e104 ro_109_19 (in_c 160 rfl) rfl; have a12 := (in_c 160 rfl); unfold In at a12; have oc := oc_407_109; omega)).symm | exact (mnv_2 (by have a0 := h2; unfold In at a0; have a1 := h1; unfold In at a1; have a2 := ro_109_19; unfold In at a2; have a3 := ro_109_18; unfold In at a3; have a4 := i105; unfold In at a4; have a5 := i270; unfold In at a5; have a6 := t_add e270 i105 (in_c 1 rfl) rfl; have a7 := (in_c 1 rfl); unfold In at a7; have a8 := tx_i2l e177; have a9 := i176; unfold In at a9; have a10 := i104; unfold In at a10; have a11 := t_add e104 ro_109_19 (in_c 160 rfl) rfl; have a12 := (in_c 160 rfl); unfold In at a12; have oc := oc_407_109; omega)).symm) e252 (by first | exact (congrArg Int64.toInt (e268.trans e252.symm)).trans (mxv_1 (by have a0 := h2; unfold In at a0; have a1 := h1; unfold In at a1; have a2 := ro_109_19; unfold In at a2; have a3 := ro_109_18; unfold In at a3; have a4 := i105; unfold In at a4; have a5 := i270; unfold In at a5; have a6 := t_add e270 i105 (in_c 1 rfl) rfl; have a7 := (in_c 1 rfl); unfold In at a7; have a8 := tx_i2l e177; have a9 := i176; unfold In at a9; have a10 := i104; unfold In at a10; have a11 := t_add e104 ro_109_19 (in_c 160 rfl) rfl; have a12 := (in_c 160 rfl); unfold In at a12; have oc := oc_407_109; omega)).symm | exact (mxv_2 (by have a0 := h2; unfold In at a0; have a1 := h1; unfold In at a1; have a2 := ro_109_19; unfold In at a2; have a3 := ro_109_18; unfold In at a3; have a4 := i105; unfold In at a4; have a5 := i270; unfold In at a5; have a6 := t_add e270 i105 (in_c 1 rfl) rfl; have a7 := (in_c 1 rfl); unfold In at a7; have a8 := tx_i2l e177; have a9 := i176; unfold In at a9; have a10 := i104; unfold In at a10; have a11 := t_add e104 ro_109_19 (in_c 160 rfl) rfl; have a12 := (in_c 160 rfl); unfold In at a12; have oc := oc_407_109; omega)).symm)
                    exact gg_w (by omega) (gg_f (gf_cons rfl (gf_cons rfl (gf_cons rfl (gf_cons rfl gf_nil)))) (ih96 (sL (sL (sL (sL sc96 194 (Int32.ofInt 4).toNatClampNeg z192) 194 (Int32.ofInt 6).toNatClampNeg z204) 194 (Int32.ofInt 7).toNatClampNeg z236) 194 (Int32.ofInt 8).toNatClampNeg z179) z270 hI269 (fr_sL rfl (fr_sL rfl (fr_sL rfl (fr_sL rfl hFc96)))) (in_w 0 400 i270 rfl) n96 n96a n96b (m_up mm96 (t_add e270 i105 (in_c 1 rfl) rfl) (in_w 1 1 (in_c 1 rfl) rfl))))
                · skip
                  have i222 := z_lt (-1) (-1) c222 i221 rfl
                  have c222a := lc_lt e221 c222
                  have i222a := lr_lt1 (-9223372036854775808) 9223372036854775806 c222a (l_rng z179) (l_rng z220) rfl
                  have i222b := lr_lt2 (-9223372036854775807) 9223372036854775807 c222a (l_rng z179) (l_rng z220) rfl
                  refine g_lload 227 (gd rfl) rfl rfl ?_
                  refine g_goto 237 (gd rfl) rfl ?_
                  refine g_lastore 238 (gd rfl) rfl (n := 9) rfl (in_ix (in_c 7 rfl) rfl) ?_
                  have hI237 := inv_sL (q := 194) (j := (Int32.ofInt 7).toNatClampNeg) (x := z179) hI205 rfl (l_rng z179)
                  refine g_aload_n 239 (gd rfl) rfl rfl ?_
                  refine g_getA (q2 := 194) 242 (gd rfl) rfl rfl rfl rfl ?_
                  refine g_bipush 8 244 (gd rfl) rfl rfl ?_
                  refine g_lload 246 (gd rfl) rfl rfl ?_
                  refine g_aload_n 247 (gd rfl) rfl rfl ?_
                  refine g_getA (q2 := 194) 250 (gd rfl) rfl rfl rfl rfl ?_
                  refine g_bipush 8 252 (gd rfl) rfl rfl ?_
                  refine g_laload 253 (gd rfl) rfl (n := 9) rfl (in_ix (in_c 8 rfl) rfl) (fun z252 e252 => ?_)
                  refine g_lcmp 254 (gd rfl) rfl (fun z253 e253 => ?_)
                  have i253 := lc_in e253
                  refine g_if_le 257 262 (gd rfl) rfl rfl (fun c254 => ?_) (fun c254 => ?_)
                  · skip
                    have i254 := z_le (-1) 0 c254 i253 rfl
                    have c254a := lc_le e253 c254
                    refine g_aload_n 263 (gd rfl) rfl rfl ?_
                    refine g_getA (q2 := 194) 266 (gd rfl) rfl rfl rfl rfl ?_
                    refine g_bipush 8 268 (gd rfl) rfl rfl ?_
                    refine g_laload 269 (gd rfl) rfl (n := 9) rfl (in_ix (in_c 8 rfl) rfl) (fun z268 e268 => ?_)
                    refine g_lastore 270 (gd rfl) rfl (n := 9) rfl (in_ix (in_c 8 rfl) rfl) ?_
                    have hI269 := inv_sL (q := 194) (j := (Int32.ofInt 8).toNatClampNeg) (x := z268) hI237 rfl (l_rng z268)
                    refine g_iinc 273 (gd rfl) rfl rfl (Nat.le_of_ble_eq_true rfl) (fun z270 e270 => ?_)
                    have i270 := in_add 1 320 e270 i105 (in_c 1 rfl) rfl rfl
                    refine g_goto 96 (gd rfl) rfl ?_
                    have n96 : (u_109_19).toInt ≤ (z270).toInt := by have a0 := h2; unfold In at a0; have a1 := h1; unfold In at a1; have a2 := ro_109_19; unfold In at a2; have a3 := ro_109_18; unfold In at a3; have a4 := i105; unfold In at a4; have a5 := i270; unfold In at a5; have a6 := t_add e270 i105 (in_c 1 rfl) rfl; have a7 := (in_c 1 rfl); unfold In at a7; have a8 := tx_i2l e177; have a9 := i176; unfold In at a9; have a10 := i104; unfold In at a10; have a11 := t_add e104 ro_109_19 (in_c 160 rfl) rfl; have a12 := (in_c 160 rfl); unfold In at a12; have oc := oc_407_109; omega
                    have n96a : (z270).toInt ≤ (u_109_19).toInt + 160 := by have a0 := h2; unfold In at a0; have a1 := h1; unfold In at a1; have a2 := ro_109_19; unfold In at a2; have a3 := ro_109_18; unfold In at a3; have a4 := i105; unfold In at a4; have a5 := i270; unfold In at a5; have a6 := t_add e270 i105 (in_c 1 rfl) rfl; have a7 := (in_c 1 rfl); unfold In at a7; have a8 := tx_i2l e177; have a9 := i176; unfold In at a9; have a10 := i104; unfold In at a10; have a11 := t_add e104 ro_109_19 (in_c 160 rfl) rfl; have a12 := (in_c 160 rfl); unfold In at a12; have oc := oc_407_109; omega
                    have n96b : NMI (gvZ s) (fun u => (s.2.1 191 u).toInt) (x1).toNatClampNeg (x2).toInt ((z270).toInt - (u_109_19).toInt).toNat ((z270).toInt - (u_109_19).toInt).toNat ((sL (sL (sL (sL sc96 194 (Int32.ofInt 4).toNatClampNeg z192) 194 (Int32.ofInt 6).toNatClampNeg z204) 194 (Int32.ofInt 7).toNatClampNeg z179) 194 (Int32.ofInt 8).toNatClampNeg z268).2.1 194) := by rw [show ((z270).toInt - (u_109_19).toInt).toNat = ((y96_3).toInt - (u_109_19).toInt).toNat + 1 from (by have a0 := h2; unfold In at a0; have a1 := h1; unfold In at a1; have a2 := ro_109_19; unfold In at a2; have a3 := ro_109_18; unfold In at a3; have a4 := i105; unfold In at a4; have a5 := i270; unfold In at a5; have a6 := t_add e270 i105 (in_c 1 rfl) rfl; have a7 := (in_c 1 rfl); unfold In at a7; have a8 := tx_i2l e177; have a9 := i176; unfold In at a9; have a10 := i104; unfold In at a10; have a11 := t_add e104 ro_109_19 (in_c 160 rfl) rfl; have a12 := (in_c 160 rfl); unfold In at a12; have oc := oc_407_109; omega)]; have hp : bs s + ((y96_3).toInt - (u_109_19).toInt).toNat = y96_3.toNatClampNeg := (by show (s.2.2.1 109 19).toInt.toNat + _ = y96_3.toInt.toNat; rw [← e_109_19]; have a0 := h2; unfold In at a0; have a1 := h1; unfold In at a1; have a2 := ro_109_19; unfold In at a2; have a3 := ro_109_18; unfold In at a3; have a4 := i105; unfold In at a4; have a5 := i270; unfold In at a5; have a6 := t_add e270 i105 (in_c 1 rfl) rfl; have a7 := (in_c 1 rfl); unfold In at a7; have a8 := tx_i2l e177; have a9 := i176; unfold In at a9; have a10 := i104; unfold In at a10; have a11 := t_add e104 ro_109_19 (in_c 160 rfl) rfl; have a12 := (in_c 160 rfl); unfold In at a12; have oc := oc_407_109; omega); have ha : ((y96_3).toInt - (u_109_19).toInt).toNat < 160 := (by have a0 := h2; unfold In at a0; have a1 := h1; unfold In at a1; have a2 := ro_109_19; unfold In at a2; have a3 := ro_109_18; unfold In at a3; have a4 := i105; unfold In at a4; have a5 := i270; unfold In at a5; have a6 := t_add e270 i105 (in_c 1 rfl) rfl; have a7 := (in_c 1 rfl); unfold In at a7; have a8 := tx_i2l e177; have a9 := i176; unfold In at a9; have a10 := i104; unfold In at a10; have a11 := t_add e104 ro_109_19 (in_c 160 rfl) rfl; have a12 := (in_c 160 rfl); unfold In at a12; have oc := oc_407_109; omega); have rt := (show z113 = s.1 112 (bs s + ((y96_3).toInt - (u_109_19).toInt).toNat) from (by rw [hp, ← hFc96.1 112 rfl]; exact e113)); have rf := (show z122 = s.1 113 (bs s + ((y96_3).toInt - (u_109_19).toInt).toNat) from (by rw [hp, ← hFc96.1 113 rfl]; exact e122)); have ro := (show z151 = s.1 114 (bs s + ((y96_3).toInt - (u_109_19).toInt).toNat) from (by rw [hp, ← hFc96.1 114 rfl]; exact e151)); have ay := arz_y hI ha rt (by have a0 := h2; unfold In at a0; have a1 := h1; unfold In at a1; have a2 := ro_109_19; unfold In at a2; have a3 := ro_109_18; unfold In at a3; have a4 := i105; unfold In at a4; have a5 := i270; unfold In at a5; have a6 := t_add e270 i105 (in_c 1 rfl) rfl; have a7 := (in_c 1 rfl); unfold In at a7; have a8 := tx_i2l e177; have a9 := i176; unfold In at a9; have a10 := i104; unfold In at a10; have a11 := t_add e104 ro_109_19 (in_c 160 rfl) rfl; have a12 := (in_c 160 rfl); unfold In at a12; have oc := oc_407_109; omega); have E0 : ARE (gvZ s) 0 ((y96_3).toInt - (u_109_19).toInt).toNat = (z122).toInt := ay.1.trans (by rw [← rf]; exact clx i122.1); have E1 : ARE (gvZ s) 1 ((y96_3).toInt - (u_109_19).toInt).toNat = (z151).toInt := ay.2.trans (by rw [← ro]; exact clx i151.1); have vx := (show (((x1).toNatClampNeg : Nat) : Int) = (x1).toInt from clx (by have a0 := h2; unfold In at a0; have a1 := h1; unfold In at a1; have a2 := ro_109_19; unfold In at a2; have a3 := ro_109_18; unfold In at a3; have a4 := i105; unfold In at a4; have a5 := i270; unfold In at a5; have a6 := t_add e270 i105 (in_c 1 rfl) rfl; have a7 := (in_c 1 rfl); unfold In at a7; have a8 := tx_i2l e177; have a9 := i176; unfold In at a9; have a10 := i104; unfold In at a10; have a11 := t_add e104 ro_109_19 (in_c 160 rfl) rfl; have a12 := (in_c 160 rfl); unfold In at a12; have oc := oc_407_109; omega)); have fz : ((gvZ s).2.1 ((y96_3).toInt - (u_109_19).toInt).toNat).toInt = (z122).toInt := (are_f ha rfl).symm.trans E0; have rw_ := (show z176 = s.1 115 (bs s + ((y96_3).toInt - (u_109_19).toInt).toNat) from (by rw [hp, ← hFc96.1 115 rfl]; exact e176)); have hF9 : (z166).toInt = vlF (gvZ s) (fun u => (s.2.1 191 u).toInt) ((y96_3).toInt - (u_109_19).toInt).toNat := (by unfold vlF; rw [fz]; exact congrArg Int64.toInt (e166.trans (congrFun (hFc96.2.1 191 rfl) _))); have hB := (vlf_b (ndq_z hI) (show XBD (gvZ s).2.2.2.2.2.2.1 (fun u => (s.2.1 191 u).toInt) from (by rw [gvz_n hI]; exact q_0)) ha E1 (by have a0 := h2; unfold In at a0; have a1 := h1; unfold In at a1; have a2 := ro_109_19; unfold In at a2; have a3 := ro_109_18; unfold In at a3; have a4 := i105; unfold In at a4; have a5 := i270; unfold In at a5; have a6 := t_add e270 i105 (in_c 1 rfl) rfl; have a7 := (in_c 1 rfl); unfold In at a7; have a8 := tx_i2l e177; have a9 := i176; unfold In at a9; have a10 := i104; unfold In at a10; have a11 := t_add e104 ro_109_19 (in_c 160 rfl) rfl; have a12 := (in_c 160 rfl); unfold In at a12; have oc := oc_407_109; omega)).1; rw [← hF9] at hB; unfold BD at hB; have hW9 : (z179).toInt = vlW (gvZ s) (fun u => (s.2.1 191 u).toInt) ((y96_3).toInt - (u_109_19).toInt).toNat := (by have t77 := tx_i2l e177; have t78 : z178.toInt = z166.toInt + z177.toInt := ladd_t e178 (by have a0 := h2; unfold In at a0; have a1 := h1; unfold In at a1; have a2 := ro_109_19; unfold In at a2; have a3 := ro_109_18; unfold In at a3; have a4 := i105; unfold In at a4; have a5 := i270; unfold In at a5; have a6 := t_add e270 i105 (in_c 1 rfl) rfl; have a7 := (in_c 1 rfl); unfold In at a7; have a8 := tx_i2l e177; have a9 := i176; unfold In at a9; have a10 := i104; unfold In at a10; have a11 := t_add e104 ro_109_19 (in_c 160 rfl) rfl; have a12 := (in_c 160 rfl); unfold In at a12; have oc := oc_407_109; omega) (by have a0 := h2; unfold In at a0; have a1 := h1; unfold In at a1; have a2 := ro_109_19; unfold In at a2; have a3 := ro_109_18; unfold In at a3; have a4 := i105; unfold In at a4; have a5 := i270; unfold In at a5; have a6 := t_add e270 i105 (in_c 1 rfl) rfl; have a7 := (in_c 1 rfl); unfold In at a7; have a8 := tx_i2l e177; have a9 := i176; unfold In at a9; have a10 := i104; unfold In at a10; have a11 := t_add e104 ro_109_19 (in_c 160 rfl) rfl; have a12 := (in_c 160 rfl); unfold In at a12; have oc := oc_407_109; omega); unfold vlW; rw [p179, t78, t77, hF9, gvz_w hI, rw_]); simp only [sL_v]; exact nmi_4h (nmi_3m g96_0 (by rw [E0, vx]; have a0 := h2; unfold In at a0; have a1 := h1; unfold In at a1; have a2 := ro_109_19; unfold In at a2; have a3 := ro_109_18; unfold In at a3; have a4 := i105; unfold In at a4; have a5 := i270; unfold In at a5; have a6 := t_add e270 i105 (in_c 1 rfl) rfl; have a7 := (in_c 1 rfl); unfold In at a7; have a8 := tx_i2l e177; have a9 := i176; unfold In at a9; have a10 := i104; unfold In at a10; have a11 := t_add e104 ro_109_19 (in_c 160 rfl) rfl; have a12 := (in_c 160 rfl); unfold In at a12; have oc := oc_407_109; omega)) ha (ndq_z hI) (show XBD (gvZ s).2.2.2.2.2.2.1 (fun u => (s.2.1 191 u).toInt) from (by rw [gvz_n hI]; exact q_0)) (by rw [E1, vx]; have a0 := h2; unfold In at a0; have a1 := h1; unfold In at a1; have a2 := ro_109_19; unfold In at a2; have a3 := ro_109_18; unfold In at a3; have a4 := i105; unfold In at a4; have a5 := i270; unfold In at a5; have a6 := t_add e270 i105 (in_c 1 rfl) rfl; have a7 := (in_c 1 rfl); unfold In at a7; have a8 := tx_i2l e177; have a9 := i176; unfold In at a9; have a10 := i104; unfold In at a10; have a11 := t_add e104 ro_109_19 (in_c 160 rfl) rfl; have a12 := (in_c 160 rfl); unfold In at a12; have oc := oc_407_109; omega) e190 e192 e201 e204 hF9 hW9 e220 (by first | exact (congrArg Int64.toInt (e236.trans e220.symm)).trans (mnv_1 (by have a0 := h2; unfold In at a0; have a1 := h1; unfold In at a1; have a2 := ro_109_19; unfold In at a2; have a3 := ro_109_18; unfold In at a3; have a4 := i105; unfold In at a4; have a5 := i270; unfold In at a5; have a6 := t_add e270 i105 (in_c 1 rfl) rfl; have a7 := (in_c 1 rfl); unfold In at a7; have a8 := tx_i2l e177; have a9 := i176; unfold In at a9; have a10 := i104; unfold In at a10; have a11 := t_add e104 ro_109_19 (in_c 160 rfl) rfl; have a12 := (in_c 160 rfl); unfold In at a12; have oc := oc_407_109; omega)).symm | exact (mnv_2 (by have a0 := h2; unfold In at a0; have a1 := h1; unfold In at a1; have a2 := ro_109_19; unfold In at a2; have a3 := ro_109_18; unfold In at a3; have a4 := i105; unfold In at a4; have a5 := i270; unfold In at a5; have a6 := t_add e270 i105 (in_c 1 rfl) rfl; have a7 := (in_c 1 rfl); unfold In at a7; have a8 := tx_i2l e177; have a9 := i176; unfold In at a9; have a10 := i104; unfold In at a10; have a11 := t_add e104 ro_109_19 (in_c 160 rfl) rfl; have a12 := (in_c 160 rfl); unfold In at a12; have oc := oc_407_109; omega)).symm) e252 (by first | exact (congrArg Int64.toInt (e268.trans e252.symm)).trans (mxv_1 (by have a0 := h2; unfold In at a0; have a1 := h1; unfold In at a1; have a2 := ro_109_19; unfold In at a2; have a3 := ro_109_18; unfold In at a3; have a4 := i105; unfold In at a4; have a5 := i270; unfold In at a5; have a6 := t_add e270 i105 (in_c 1 rfl) rfl; have a7 := (in_c 1 rfl); unfold In at a7; have a8 := tx_i2l e177; have a9 := i176; unfold In at a9; have a10 := i104; unfold In at a10; have a11 := t_add e104 ro_109_19 (in_c 160 rfl) rfl; have a12 := (in_c 160 rfl); unfold In at a12; have oc := oc_407_109; omega)).symm | exact (mxv_2 (by have a0 := h2; unfold In at a0; have a1 := h1; unfold In at a1; have a2 := ro_109_19; unfold In at a2; have a3 := ro_109_18; unfold In at a3; have a4 := i105; unfold In at a4; have a5 := i270; unfold In at a5; have a6 := t_add e270 i105 (in_c 1 rfl) rfl; have a7 := (in_c 1 rfl); unfold In at a7; have a8 := tx_i2l e177; have a9 := i176; unfold In at a9; have a10 := i104; unfold In at a10; have a11 := t_add e104 ro_109_19 (in_c 160 rfl) rfl; have a12 := (in_c 160 rfl); unfold In at a12; have oc := oc_407_109; omega)).symm)
                    exact gg_w (by omega) (gg_f (gf_cons rfl (gf_cons rfl (gf_cons rfl (gf_cons rfl gf_nil)))) (ih96 (sL (sL (sL (sL sc96 194 (Int32.ofInt 4).toNatClampNeg z192) 194 (Int32.ofInt 6).toNatClampNeg z204) 194 (Int32.ofInt 7).toNatClampNeg z179) 194 (Int32.ofInt 8).toNatClampNeg z268) z270 hI269 (fr_sL rfl (fr_sL rfl (fr_sL rfl (fr_sL rfl hFc96)))) (in_w 0 400 i270 rfl) n96 n96a n96b (m_up mm96 (t_add e270 i105 (in_c 1 rfl) rfl) (in_w 1 1 (in_c 1 rfl) rfl))))
                  · skip
                    have i254 := z_gt 1 1 c254 i253 rfl
                    have c254a := lc_gt e253 c254
                    have i254a := lr_lt1 (-9223372036854775808) 9223372036854775805 c254a (l_rng z252) i222a rfl
                    have i254b := lr_lt2 (-9223372036854775807) 9223372036854775806 c254a (l_rng z252) i222a rfl
                    refine g_lload 259 (gd rfl) rfl rfl ?_
                    refine g_goto 269 (gd rfl) rfl ?_
                    refine g_lastore 270 (gd rfl) rfl (n := 9) rfl (in_ix (in_c 8 rfl) rfl) ?_
                    have hI269 := inv_sL (q := 194) (j := (Int32.ofInt 8).toNatClampNeg) (x := z179) hI237 rfl (l_rng z179)
                    refine g_iinc 273 (gd rfl) rfl rfl (Nat.le_of_ble_eq_true rfl) (fun z270 e270 => ?_)
                    have i270 := in_add 1 320 e270 i105 (in_c 1 rfl) rfl rfl
                    refine g_goto 96 (gd rfl) rfl ?_
                    have n96 : (u_109_19).toInt ≤ (z270).toInt := by have a0 := h2; unfold In at a0; have a1 := h1; unfold In at a1; have a2 := ro_109_19; unfold In at a2; have a3 := ro_109_18; unfold In at a3; have a4 := i105; unfold In at a4; have a5 := i270; unfold In at a5; have a6 := t_add e270 i105 (in_c 1 rfl) rfl; have a7 := (in_c 1 rfl); unfold In at a7; have a8 := tx_i2l e177; have a9 := i176; unfold In at a9; have a10 := i104; unfold In at a10; have a11 := t_add e104 ro_109_19 (in_c 160 rfl) rfl; have a12 := (in_c 160 rfl); unfold In at a12; have oc := oc_407_109; omega
                    have n96a : (z270).toInt ≤ (u_109_19).toInt + 160 := by have a0 := h2; unfold In at a0; have a1 := h1; unfold In at a1; have a2 := ro_109_19; unfold In at a2; have a3 := ro_109_18; unfold In at a3; have a4 := i105; unfold In at a4; have a5 := i270; unfold In at a5; have a6 := t_add e270 i105 (in_c 1 rfl) rfl; have a7 := (in_c 1 rfl); unfold In at a7; have a8 := tx_i2l e177; have a9 := i176; unfold In at a9; have a10 := i104; unfold In at a10; have a11 := t_add e104 ro_109_19 (in_c 160 rfl) rfl; have a12 := (in_c 160 rfl); unfold In at a12; have oc := oc_407_109; omega
                    have n96b : NMI (gvZ s) (fun u => (s.2.1 191 u).toInt) (x1).toNatClampNeg (x2).toInt ((z270).toInt - (u_109_19).toInt).toNat ((z270).toInt - (u_109_19).toInt).toNat ((sL (sL (sL (sL sc96 194 (Int32.ofInt 4).toNatClampNeg z192) 194 (Int32.ofInt 6).toNatClampNeg z204) 194 (Int32.ofInt 7).toNatClampNeg z179) 194 (Int32.ofInt 8).toNatClampNeg z179).2.1 194) := by rw [show ((z270).toInt - (u_109_19).toInt).toNat = ((y96_3).toInt - (u_109_19).toInt).toNat + 1 from (by have a0 := h2; unfold In at a0; have a1 := h1; unfold In at a1; have a2 := ro_109_19; unfold In at a2; have a3 := ro_109_18; unfold In at a3; have a4 := i105; unfold In at a4; have a5 := i270; unfold In at a5; have a6 := t_add e270 i105 (in_c 1 rfl) rfl; have a7 := (in_c 1 rfl); unfold In at a7; have a8 := tx_i2l e177; have a9 := i176; unfold In at a9; have a10 := i104; unfold In at a10; have a11 := t_add e104 ro_109_19 (in_c 160 rfl) rfl; have a12 := (in_c 160 rfl); unfold In at a12; have oc := oc_407_109; omega)]; have hp : bs s + ((y96_3).toInt - (u_109_19).toInt).toNat = y96_3.toNatClampNeg := (by show (s.2.2.1 109 19).toInt.toNat + _ = y96_3.toInt.toNat; rw [← e_109_19]; have a0 := h2; unfold In at a0; have a1 := h1; unfold In at a1; have a2 := ro_109_19; unfold In at a2; have a3 := ro_109_18; unfold In at a3; have a4 := i105; unfold In at a4; have a5 := i270; unfold In at a5; have a6 := t_add e270 i105 (in_c 1 rfl) rfl; have a7 := (in_c 1 rfl); unfold In at a7; have a8 := tx_i2l e177; have a9 := i176; unfold In at a9; have a10 := i104; unfold In at a10; have a11 := t_add e104 ro_109_19 (in_c 160 rfl) rfl; have a12 := (in_c 160 rfl); unfold In at a12; have oc := oc_407_109; omega); have ha : ((y96_3).toInt - (u_109_19).toInt).toNat < 160 := (by have a0 := h2; unfold In at a0; have a1 := h1; unfold In at a1; have a2 := ro_109_19; unfold In at a2; have a3 := ro_109_18; unfold In at a3; have a4 := i105; unfold In at a4; have a5 := i270; unfold In at a5; have a6 := t_add e270 i105 (in_c 1 rfl) rfl; have a7 := (in_c 1 rfl); unfold In at a7; have a8 := tx_i2l e177; have a9 := i176; unfold In at a9; have a10 := i104; unfold In at a10; have a11 := t_add e104 ro_109_19 (in_c 160 rfl) rfl; have a12 := (in_c 160 rfl); unfold In at a12; have oc := oc_407_109; omega); have rt := (show z113 = s.1 112 (bs s + ((y96_3).toInt - (u_109_19).toInt).toNat) from (by rw [hp, ← hFc96.1 112 rfl]; exact e113)); have rf := (show z122 = s.1 113 (bs s + ((y96_3).toInt - (u_109_19).toInt).toNat) from (by rw [hp, ← hFc96.1 113 rfl]; exact e122)); have ro := (show z151 = s.1 114 (bs s + ((y96_3).toInt - (u_109_19).toInt).toNat) from (by rw [hp, ← hFc96.1 114 rfl]; exact e151)); have ay := arz_y hI ha rt (by have a0 := h2; unfold In at a0; have a1 := h1; unfold In at a1; have a2 := ro_109_19; unfold In at a2; have a3 := ro_109_18; unfold In at a3; have a4 := i105; unfold In at a4; have a5 := i270; unfold In at a5; have a6 := t_add e270 i105 (in_c 1 rfl) rfl; have a7 := (in_c 1 rfl); unfold In at a7; have a8 := tx_i2l e177; have a9 := i176; unfold In at a9; have a10 := i104; unfold In at a10; have a11 := t_add e104 ro_109_19 (in_c 160 rfl) rfl; have a12 := (in_c 160 rfl); unfold In at a12; have oc := oc_407_109; omega); have E0 : ARE (gvZ s) 0 ((y96_3).toInt - (u_109_19).toInt).toNat = (z122).toInt := ay.1.trans (by rw [← rf]; exact clx i122.1); have E1 : ARE (gvZ s) 1 ((y96_3).toInt - (u_109_19).toInt).toNat = (z151).toInt := ay.2.trans (by rw [← ro]; exact clx i151.1); have vx := (show (((x1).toNatClampNeg : Nat) : Int) = (x1).toInt from clx (by have a0 := h2; unfold In at a0; have a1 := h1; unfold In at a1; have a2 := ro_109_19; unfold In at a2; have a3 := ro_109_18; unfold In at a3; have a4 := i105; unfold In at a4; have a5 := i270; unfold In at a5; have a6 := t_add e270 i105 (in_c 1 rfl) rfl; have a7 := (in_c 1 rfl); unfold In at a7; have a8 := tx_i2l e177; have a9 := i176; unfold In at a9; have a10 := i104; unfold In at a10; have a11 := t_add e104 ro_109_19 (in_c 160 rfl) rfl; have a12 := (in_c 160 rfl); unfold In at a12; have oc := oc_407_109; omega)); have fz : ((gvZ s).2.1 ((y96_3).toInt - (u_109_19).toInt).toNat).toInt = (z122).toInt := (are_f ha rfl).symm.trans E0; have rw_ := (show z176 = s.1 115 (bs s + ((y96_3).toInt - (u_109_19).toInt).toNat) from (by rw [hp, ← hFc96.1 115 rfl]; exact e176)); have hF9 : (z166).toInt = vlF (gvZ s) (fun u => (s.2.1 191 u).toInt) ((y96_3).toInt - (u_109_19).toInt).toNat := (by unfold vlF; rw [fz]; exact congrArg Int64.toInt (e166.trans (congrFun (hFc96.2.1 191 rfl) _))); have hB := (vlf_b (ndq_z hI) (show XBD (gvZ s).2.2.2.2.2.2.1 (fun u => (s.2.1 191 u).toInt) from (by rw [gvz_n hI]; exact q_0)) ha E1 (by have a0 := h2; unfold In at a0; have a1 := h1; unfold In at a1; have a2 := ro_109_19; unfold In at a2; have a3 := ro_109_18; unfold In at a3; have a4 := i105; unfold In at a4; have a5 := i270; unfold In at a5; have a6 := t_add e270 i105 (in_c 1 rfl) rfl; have a7 := (in_c 1 rfl); unfold In at a7; have a8 := tx_i2l e177; have a9 := i176; unfold In at a9; have a10 := i104; unfold In at a10; have a11 := t_add e104 ro_109_19 (in_c 160 rfl) rfl; have a12 := (in_c 160 rfl); unfold In at a12; have oc := oc_407_109; omega)).1; rw [← hF9] at hB; unfold BD at hB; have hW9 : (z179).toInt = vlW (gvZ s) (fun u => (s.2.1 191 u).toInt) ((y96_3).toInt - (u_109_19).toInt).toNat := (by have t77 := tx_i2l e177; have t78 : z178.toInt = z166.toInt + z177.toInt := ladd_t e178 (by have a0 := h2; unfold In at a0; have a1 := h1; unfold In at a1; have a2 := ro_109_19; unfold In at a2; have a3 := ro_109_18; unfold In at a3; have a4 := i105; unfold In at a4; have a5 := i270; unfold In at a5; have a6 := t_add e270 i105 (in_c 1 rfl) rfl; have a7 := (in_c 1 rfl); unfold In at a7; have a8 := tx_i2l e177; have a9 := i176; unfold In at a9; have a10 := i104; unfold In at a10; have a11 := t_add e104 ro_109_19 (in_c 160 rfl) rfl; have a12 := (in_c 160 rfl); unfold In at a12; have oc := oc_407_109; omega) (by have a0 := h2; unfold In at a0; have a1 := h1; unfold In at a1; have a2 := ro_109_19; unfold In at a2; have a3 := ro_109_18; unfold In at a3; have a4 := i105; unfold In at a4; have a5 := i270; unfold In at a5; have a6 := t_add e270 i105 (in_c 1 rfl) rfl; have a7 := (in_c 1 rfl); unfold In at a7; have a8 := tx_i2l e177; have a9 := i176; unfold In at a9; have a10 := i104; unfold In at a10; have a11 := t_add e104 ro_109_19 (in_c 160 rfl) rfl; have a12 := (in_c 160 rfl); unfold In at a12; have oc := oc_407_109; omega); unfold vlW; rw [p179, t78, t77, hF9, gvz_w hI, rw_]); simp only [sL_v]; exact nmi_4h (nmi_3m g96_0 (by rw [E0, vx]; have a0 := h2; unfold In at a0; have a1 := h1; unfold In at a1; have a2 := ro_109_19; unfold In at a2; have a3 := ro_109_18; unfold In at a3; have a4 := i105; unfold In at a4; have a5 := i270; unfold In at a5; have a6 := t_add e270 i105 (in_c 1 rfl) rfl; have a7 := (in_c 1 rfl); unfold In at a7; have a8 := tx_i2l e177; have a9 := i176; unfold In at a9; have a10 := i104; unfold In at a10; have a11 := t_add e104 ro_109_19 (in_c 160 rfl) rfl; have a12 := (in_c 160 rfl); unfold In at a12; have oc := oc_407_109; omega)) ha (ndq_z hI) (show XBD (gvZ s).2.2.2.2.2.2.1 (fun u => (s.2.1 191 u).toInt) from (by rw [gvz_n hI]; exact q_0)) (by rw [E1, vx]; have a0 := h2; unfold In at a0; have a1 := h1; unfold In at a1; have a2 := ro_109_19; unfold In at a2; have a3 := ro_109_18; unfold In at a3; have a4 := i105; unfold In at a4; have a5 := i270; unfold In at a5; have a6 := t_add e270 i105 (in_c 1 rfl) rfl; have a7 := (in_c 1 rfl); unfold In at a7; have a8 := tx_i2l e177; have a9 := i176; unfold In at a9; have a10 := i104; unfold In at a10; have a11 := t_add e104 ro_109_19 (in_c 160 rfl) rfl; have a12 := (in_c 160 rfl); unfold In at a12; have oc := oc_407_109; omega) e190 e192 e201 e204 hF9 hW9 e220 (by first | exact (congrArg Int64.toInt (e236.trans e220.symm)).trans (mnv_1 (by have a0 := h2; unfold In at a0; have a1 := h1; unfold In at a1; have a2 := ro_109_19; unfold In at a2; have a3 := ro_109_18; unfold In at a3; have a4 := i105; unfold In at a4; have a5 := i270; unfold In at a5; have a6 := t_add e270 i105 (in_c 1 rfl) rfl; have a7 := (in_c 1 rfl); unfold In at a7; have a8 := tx_i2l e177; have a9 := i176; unfold In at a9; have a10 := i104; unfold In at a10; have a11 := t_add e104 ro_109_19 (in_c 160 rfl) rfl; have a12 := (in_c 160 rfl); unfold In at a12; have oc := oc_407_109; omega)).symm | exact (mnv_2 (by have a0 := h2; unfold In at a0; have a1 := h1; unfold In at a1; have a2 := ro_109_19; unfold In at a2; have a3 := ro_109_18; unfold In at a3; have a4 := i105; unfold In at a4; have a5 := i270; unfold In at a5; have a6 := t_add e270 i105 (in_c 1 rfl) rfl; have a7 := (in_c 1 rfl); unfold In at a7; have a8 := tx_i2l e177; have a9 := i176; unfold In at a9; have a10 := i104; unfold In at a10; have a11 := t_add e104 ro_109_19 (in_c 160 rfl) rfl; have a12 := (in_c 160 rfl); unfold In at a12; have oc := oc_407_109; omega)).symm) e252 (by first | exact (congrArg Int64.toInt (e268.trans e252.symm)).trans (mxv_1 (by have a0 := h2; unfold In at a0; have a1 := h1; unfold In at a1; have a2 := ro_109_19; unfold In at a2; have a3 := ro_109_18; unfold In at a3; have a4 := i105; unfold In at a4; have a5 := i270; unfold In at a5; have a6 := t_add e270 i105 (in_c 1 rfl) rfl; have a7 := (in_c 1 rfl); unfold In at a7; have a8 := tx_i2l e177; have a9 := i176; unfold In at a9; have a10 := i104; unfold In at a10; have a11 := t_add e104 ro_109_19 (in_c 160 rfl) rfl; have a12 := (in_c 160 rfl); unfold In at a12; have oc := oc_407_109; omega)).symm | exact (mxv_2 (by have a0 := h2; unfold In at a0; have a1 := h1; unfold In at a1; have a2 := ro_109_19; unfold In at a2; have a3 := ro_109_18; unfold In at a3; have a4 := i105; unfold In at a4; have a5 := i270; unfold In at a5; have a6 := t_add e270 i105 (in_c 1 rfl) rfl; have a7 := (in_c 1 rfl); unfold In at a7; have a8 := tx_i2l e177; have a9 := i176; unfold In at a9; have a10 := i104; unfold In at a10; have a11 := t_add e104 ro_109_19 (in_c 160 rfl) rfl; have a12 := (in_c 160 rfl); unfold In at a12; have oc := oc_407_109; omega)).symm)
                    exact gg_w (by omega) (gg_f (gf_cons rfl (gf_cons rfl (gf_cons rfl (gf_cons rfl gf_nil)))) (ih96 (sL (sL (sL (sL sc96 194 (Int32.ofInt 4).toNatClampNeg z192) 194 (Int32.ofInt 6).toNatClampNeg z204) 194 (Int32.ofInt 7).toNatClampNeg z179) 194 (Int32.ofInt 8).toNatClampNeg z179) z270 hI269 (fr_sL rfl (fr_sL rfl (fr_sL rfl (fr_sL rfl hFc96)))) (in_w 0 400 i270 rfl) n96 n96a n96b (m_up mm96 (t_add e270 i105 (in_c 1 rfl) rfl) (in_w 1 1 (in_c 1 rfl) rfl))))
          · skip
            refine g_aload_n 128 (gd rfl) rfl rfl ?_
            refine g_getA (q2 := 194) 131 (gd rfl) rfl rfl rfl rfl ?_
            refine g_iconst 3 132 (gd rfl) rfl rfl ?_
            refine g_dup2 133 (gd rfl) rfl rfl rfl ?_
            refine g_laload 134 (gd rfl) rfl (n := 9) rfl (in_ix (in_c 3 rfl) rfl) (fun z133 e133 => ?_)
            refine g_lconst 1 135 (gd rfl) rfl rfl ?_
            refine g_ladd 136 (gd rfl) rfl (fun z135 e135 => ?_)
            refine g_lastore 137 (gd rfl) rfl (n := 9) rfl (in_ix (in_c 3 rfl) rfl) ?_
            have hI136 := inv_sL (q := 194) (j := (Int32.ofInt 3).toNatClampNeg) (x := z135) hIc96 rfl (l_rng z135)
            refine g_aload_n 138 (gd rfl) rfl rfl ?_
            refine g_getA (q2 := 112) 141 (gd rfl) rfl rfl rfl rfl ?_
            refine g_iload_n 142 (gd rfl) rfl rfl ?_
            refine g_baload 143 (gd rfl) rfl (n := 480) rfl (in_ix i105 rfl) (fun z142 e142 => ?_)
            have q142 : z113 = z142 := (sL_I (e113)).trans e142.symm
            subst q142
            refine g_if_eq 146 270 (gd rfl) rfl rfl (fun c143 => ?_) (fun c143 => ?_)
            · skip
              exact zn_eq c143 i114 rfl
            · skip
              refine g_aload_n 147 (gd rfl) rfl rfl ?_
              refine g_getA (q2 := 114) 150 (gd rfl) rfl rfl rfl rfl ?_
              refine g_iload_n 151 (gd rfl) rfl rfl ?_
              refine g_iaload 152 (gd rfl) rfl (n := 480) rfl (in_ix i105 rfl) (fun z151 e151 => ?_)
              have i151 := inv_I hI136 (n := 480) (t := 0) 0 31 rfl (in_ix i105 rfl) rfl e151
              refine g_iload_n 153 (gd rfl) rfl rfl ?_
              refine g_cmp_ne 156 270 (gd rfl) rfl rfl (fun c153 => ?_) (fun c153 => ?_)
              · skip
                refine g_iinc 273 (gd rfl) rfl rfl (Nat.le_of_ble_eq_true rfl) (fun z270 e270 => ?_)
                have i270 := in_add 1 320 e270 i105 (in_c 1 rfl) rfl rfl
                refine g_goto 96 (gd rfl) rfl ?_
                have n96 : (u_109_19).toInt ≤ (z270).toInt := by have a0 := h2; unfold In at a0; have a1 := h1; unfold In at a1; have a2 := ro_109_19; unfold In at a2; have a3 := ro_109_18; unfold In at a3; have a4 := i105; unfold In at a4; have a5 := i270; unfold In at a5; have a6 := t_add e270 i105 (in_c 1 rfl) rfl; have a7 := (in_c 1 rfl); unfold In at a7; have a8 := i104; unfold In at a8; have a9 := t_add e104 ro_109_19 (in_c 160 rfl) rfl; have a10 := (in_c 160 rfl); unfold In at a10; have oc := oc_407_109; omega
                have n96a : (z270).toInt ≤ (u_109_19).toInt + 160 := by have a0 := h2; unfold In at a0; have a1 := h1; unfold In at a1; have a2 := ro_109_19; unfold In at a2; have a3 := ro_109_18; unfold In at a3; have a4 := i105; unfold In at a4; have a5 := i270; unfold In at a5; have a6 := t_add e270 i105 (in_c 1 rfl) rfl; have a7 := (in_c 1 rfl); unfold In at a7; have a8 := i104; unfold In at a8; have a9 := t_add e104 ro_109_19 (in_c 160 rfl) rfl; have a10 := (in_c 160 rfl); unfold In at a10; have oc := oc_407_109; omega
                have n96b : NMI (gvZ s) (fun u => (s.2.1 191 u).toInt) (x1).toNatClampNeg (x2).toInt ((z270).toInt - (u_109_19).toInt).toNat ((z270).toInt - (u_109_19).toInt).toNat ((sL sc96 194 (Int32.ofInt 3).toNatClampNeg z135).2.1 194) := by rw [show ((z270).toInt - (u_109_19).toInt).toNat = ((y96_3).toInt - (u_109_19).toInt).toNat + 1 from (by have a0 := h2; unfold In at a0; have a1 := h1; unfold In at a1; have a2 := ro_109_19; unfold In at a2; have a3 := ro_109_18; unfold In at a3; have a4 := i105; unfold In at a4; have a5 := i270; unfold In at a5; have a6 := t_add e270 i105 (in_c 1 rfl) rfl; have a7 := (in_c 1 rfl); unfold In at a7; have a8 := i104; unfold In at a8; have a9 := t_add e104 ro_109_19 (in_c 160 rfl) rfl; have a10 := (in_c 160 rfl); unfold In at a10; have oc := oc_407_109; omega)]; have hp : bs s + ((y96_3).toInt - (u_109_19).toInt).toNat = y96_3.toNatClampNeg := (by show (s.2.2.1 109 19).toInt.toNat + _ = y96_3.toInt.toNat; rw [← e_109_19]; have a0 := h2; unfold In at a0; have a1 := h1; unfold In at a1; have a2 := ro_109_19; unfold In at a2; have a3 := ro_109_18; unfold In at a3; have a4 := i105; unfold In at a4; have a5 := i270; unfold In at a5; have a6 := t_add e270 i105 (in_c 1 rfl) rfl; have a7 := (in_c 1 rfl); unfold In at a7; have a8 := i104; unfold In at a8; have a9 := t_add e104 ro_109_19 (in_c 160 rfl) rfl; have a10 := (in_c 160 rfl); unfold In at a10; have oc := oc_407_109; omega); have ha : ((y96_3).toInt - (u_109_19).toInt).toNat < 160 := (by have a0 := h2; unfold In at a0; have a1 := h1; unfold In at a1; have a2 := ro_109_19; unfold In at a2; have a3 := ro_109_18; unfold In at a3; have a4 := i105; unfold In at a4; have a5 := i270; unfold In at a5; have a6 := t_add e270 i105 (in_c 1 rfl) rfl; have a7 := (in_c 1 rfl); unfold In at a7; have a8 := i104; unfold In at a8; have a9 := t_add e104 ro_109_19 (in_c 160 rfl) rfl; have a10 := (in_c 160 rfl); unfold In at a10; have oc := oc_407_109; omega); have rt := (show z113 = s.1 112 (bs s + ((y96_3).toInt - (u_109_19).toInt).toNat) from (by rw [hp, ← hFc96.1 112 rfl]; exact e113)); have rf := (show z122 = s.1 113 (bs s + ((y96_3).toInt - (u_109_19).toInt).toNat) from (by rw [hp, ← hFc96.1 113 rfl]; exact e122)); have ro := (show z151 = s.1 114 (bs s + ((y96_3).toInt - (u_109_19).toInt).toNat) from (by rw [hp, ← hFc96.1 114 rfl]; exact e151)); have ay := arz_y hI ha rt (by have a0 := h2; unfold In at a0; have a1 := h1; unfold In at a1; have a2 := ro_109_19; unfold In at a2; have a3 := ro_109_18; unfold In at a3; have a4 := i105; unfold In at a4; have a5 := i270; unfold In at a5; have a6 := t_add e270 i105 (in_c 1 rfl) rfl; have a7 := (in_c 1 rfl); unfold In at a7; have a8 := i104; unfold In at a8; have a9 := t_add e104 ro_109_19 (in_c 160 rfl) rfl; have a10 := (in_c 160 rfl); unfold In at a10; have oc := oc_407_109; omega); have E0 : ARE (gvZ s) 0 ((y96_3).toInt - (u_109_19).toInt).toNat = (z122).toInt := ay.1.trans (by rw [← rf]; exact clx i122.1); have E1 : ARE (gvZ s) 1 ((y96_3).toInt - (u_109_19).toInt).toNat = (z151).toInt := ay.2.trans (by rw [← ro]; exact clx i151.1); have vx := (show (((x1).toNatClampNeg : Nat) : Int) = (x1).toInt from clx (by have a0 := h2; unfold In at a0; have a1 := h1; unfold In at a1; have a2 := ro_109_19; unfold In at a2; have a3 := ro_109_18; unfold In at a3; have a4 := i105; unfold In at a4; have a5 := i270; unfold In at a5; have a6 := t_add e270 i105 (in_c 1 rfl) rfl; have a7 := (in_c 1 rfl); unfold In at a7; have a8 := i104; unfold In at a8; have a9 := t_add e104 ro_109_19 (in_c 160 rfl) rfl; have a10 := (in_c 160 rfl); unfold In at a10; have oc := oc_407_109; omega)); simp only [sL_v]; exact nmi_4m (nmi_3h g96_0 ha (by rw [E0, vx]; have a0 := h2; unfold In at a0; have a1 := h1; unfold In at a1; have a2 := ro_109_19; unfold In at a2; have a3 := ro_109_18; unfold In at a3; have a4 := i105; unfold In at a4; have a5 := i270; unfold In at a5; have a6 := t_add e270 i105 (in_c 1 rfl) rfl; have a7 := (in_c 1 rfl); unfold In at a7; have a8 := i104; unfold In at a8; have a9 := t_add e104 ro_109_19 (in_c 160 rfl) rfl; have a10 := (in_c 160 rfl); unfold In at a10; have oc := oc_407_109; omega) e133 e135) (by rw [E1, vx]; have a0 := h2; unfold In at a0; have a1 := h1; unfold In at a1; have a2 := ro_109_19; unfold In at a2; have a3 := ro_109_18; unfold In at a3; have a4 := i105; unfold In at a4; have a5 := i270; unfold In at a5; have a6 := t_add e270 i105 (in_c 1 rfl) rfl; have a7 := (in_c 1 rfl); unfold In at a7; have a8 := i104; unfold In at a8; have a9 := t_add e104 ro_109_19 (in_c 160 rfl) rfl; have a10 := (in_c 160 rfl); unfold In at a10; have oc := oc_407_109; omega)
                exact gg_w (by omega) (gg_f (gf_cons rfl (gf_cons rfl (gf_cons rfl (gf_cons rfl gf_nil)))) (ih96 (sL sc96 194 (Int32.ofInt 3).toNatClampNeg z135) z270 hI136 (fr_sL rfl hFc96) (in_w 0 400 i270 rfl) n96 n96a n96b (m_up mm96 (t_add e270 i105 (in_c 1 rfl) rfl) (in_w 1 1 (in_c 1 rfl) rfl))))
              · skip
                refine g_aload_n 157 (gd rfl) rfl rfl ?_
                refine g_getA (q2 := 191) 160 (gd rfl) rfl rfl rfl rfl ?_
                refine g_aload_n 161 (gd rfl) rfl rfl ?_
                refine g_getA (q2 := 113) 164 (gd rfl) rfl rfl rfl rfl ?_
                refine g_iload_n 165 (gd rfl) rfl rfl ?_
                refine g_iaload 166 (gd rfl) rfl (n := 480) rfl (in_ix i105 rfl) (fun z165 e165 => ?_)
                have q165 : z122 = z165 := (sL_I (e122)).trans e165.symm
                subst q165
                refine g_laload 167 (gd rfl) rfl (n := 32) rfl (in_ix i122 rfl) (fun z166 e166 => ?_)
                refine g_lstore 169 (gd rfl) rfl (Nat.le_of_ble_eq_true rfl) ?_
                refine g_lload 171 (gd rfl) rfl rfl ?_
                refine g_aload_n 172 (gd rfl) rfl rfl ?_
                refine g_getA (q2 := 115) 175 (gd rfl) rfl rfl rfl rfl ?_
                refine g_iload_n 176 (gd rfl) rfl rfl ?_
                refine g_iaload 177 (gd rfl) rfl (n := 480) rfl (in_ix i105 rfl) (fun z176 e176 => ?_)
                have i176 := inv_I hI136 (n := 480) (t := 0) (-1000000) 1000000 rfl (in_ix i105 rfl) rfl e176
                refine g_i2l 178 (gd rfl) rfl (fun z177 e177 => ?_)
                have i177 := l_i e177 i176
                refine g_ladd 179 (gd rfl) rfl (fun z178 e178 => ?_)
                refine g_calls (As := [.long z178]) (r := []) 182 (gd rfl) rfl rfl rfl rfl rfl (Nat.le_of_ble_eq_true rfl) (Nat.zero_le _) (Nat.zero_le _) (f_405 (by omega) hI136 ) (fun v u h => ?_)
                obtain ⟨z179, rfl, rfl, p179⟩ := h
                show GG _ _ _ _ _ _ _ _ [.long z179] _ _ _
                refine g_lstore 184 (gd rfl) rfl (Nat.le_of_ble_eq_true rfl) ?_
                refine g_aload_n 185 (gd rfl) rfl rfl ?_
                refine g_getA (q2 := 194) 188 (gd rfl) rfl rfl rfl rfl ?_
                refine g_iconst 4 189 (gd rfl) rfl rfl ?_
                refine g_dup2 190 (gd rfl) rfl rfl rfl ?_
                refine g_laload 191 (gd rfl) rfl (n := 9) rfl (in_ix (in_c 4 rfl) rfl) (fun z190 e190 => ?_)
                refine g_lconst 1 192 (gd rfl) rfl rfl ?_
                refine g_ladd 193 (gd rfl) rfl (fun z192 e192 => ?_)
                refine g_lastore 194 (gd rfl) rfl (n := 9) rfl (in_ix (in_c 4 rfl) rfl) ?_
                have hI193 := inv_sL (q := 194) (j := (Int32.ofInt 4).toNatClampNeg) (x := z192) hI136 rfl (l_rng z192)
                refine g_aload_n 195 (gd rfl) rfl rfl ?_
                refine g_getA (q2 := 194) 198 (gd rfl) rfl rfl rfl rfl ?_
                refine g_bipush 6 200 (gd rfl) rfl rfl ?_
                refine g_dup2 201 (gd rfl) rfl rfl rfl ?_
                refine g_laload 202 (gd rfl) rfl (n := 9) rfl (in_ix (in_c 6 rfl) rfl) (fun z201 e201 => ?_)
                refine g_lload 204 (gd rfl) rfl rfl ?_
                refine g_ladd 205 (gd rfl) rfl (fun z204 e204 => ?_)
                refine g_lastore 206 (gd rfl) rfl (n := 9) rfl (in_ix (in_c 6 rfl) rfl) ?_
                have hI205 := inv_sL (q := 194) (j := (Int32.ofInt 6).toNatClampNeg) (x := z204) hI193 rfl (l_rng z204)
                refine g_aload_n 207 (gd rfl) rfl rfl ?_
                refine g_getA (q2 := 194) 210 (gd rfl) rfl rfl rfl rfl ?_
                refine g_bipush 7 212 (gd rfl) rfl rfl ?_
                refine g_lload 214 (gd rfl) rfl rfl ?_
                refine g_aload_n 215 (gd rfl) rfl rfl ?_
                refine g_getA (q2 := 194) 218 (gd rfl) rfl rfl rfl rfl ?_
                refine g_bipush 7 220 (gd rfl) rfl rfl ?_
                refine g_laload 221 (gd rfl) rfl (n := 9) rfl (in_ix (in_c 7 rfl) rfl) (fun z220 e220 => ?_)
                refine g_lcmp 222 (gd rfl) rfl (fun z221 e221 => ?_)
                have i221 := lc_in e221
                refine g_if_ge 225 230 (gd rfl) rfl rfl (fun c222 => ?_) (fun c222 => ?_)
                · skip
                  have i222 := z_ge 0 1 c222 i221 rfl
                  have c222a := lc_ge e221 c222
                  refine g_aload_n 231 (gd rfl) rfl rfl ?_
                  refine g_getA (q2 := 194) 234 (gd rfl) rfl rfl rfl rfl ?_
                  refine g_bipush 7 236 (gd rfl) rfl rfl ?_
                  refine g_laload 237 (gd rfl) rfl (n := 9) rfl (in_ix (in_c 7 rfl) rfl) (fun z236 e236 => ?_)
                  refine g_lastore 238 (gd rfl) rfl (n := 9) rfl (in_ix (in_c 7 rfl) rfl) ?_
                  have hI237 := inv_sL (q := 194) (j := (Int32.ofInt 7).toNatClampNeg) (x := z236) hI205 rfl (l_rng z236)
                  refine g_aload_n 239 (gd rfl) rfl rfl ?_
                  refine g_getA (q2 := 194) 242 (gd rfl) rfl rfl rfl rfl ?_
                  refine g_bipush 8 244 (gd rfl) rfl rfl ?_
                  refine g_lload 246 (gd rfl) rfl rfl ?_
                  refine g_aload_n 247 (gd rfl) rfl rfl ?_
                  refine g_getA (q2 := 194) 250 (gd rfl) rfl rfl rfl rfl ?_
                  refine g_bipush 8 252 (gd rfl) rfl rfl ?_
                  refine g_laload 253 (gd rfl) rfl (n := 9) rfl (in_ix (in_c 8 rfl) rfl) (fun z252 e252 => ?_)
                  refine g_lcmp 254 (gd rfl) rfl (fun z253 e253 => ?_)
                  have i253 := lc_in e253
                  refine g_if_le 257 262 (gd rfl) rfl rfl (fun c254 => ?_) (fun c254 => ?_)
                  · skip
                    have i254 := z_le (-1) 0 c254 i253 rfl
                    have c254a := lc_le e253 c254
                    refine g_aload_n 263 (gd rfl) rfl rfl ?_
                    refine g_getA (q2 := 194) 266 (gd rfl) rfl rfl rfl rfl ?_
                    refine g_bipush 8 268 (gd rfl) rfl rfl ?_
                    refine g_laload 269 (gd rfl) rfl (n := 9) rfl (in_ix (in_c 8 rfl) rfl) (fun z268 e268 => ?_)
                    refine g_lastore 270 (gd rfl) rfl (n := 9) rfl (in_ix (in_c 8 rfl) rfl) ?_
                    have hI269 := inv_sL (q := 194) (j := (Int32.ofInt 8).toNatClampNeg) (x := z268) hI237 rfl (l_rng z268)
                    refine g_iinc 273 (gd rfl) rfl rfl (Nat.le_of_ble_eq_true rfl) (fun z270 e270 => ?_)
                    have i270 := in_add 1 320 e270 i105 (in_c 1 rfl) rfl rfl
                    refine g_goto 96 (gd rfl) rfl ?_
                    have n96 : (u_109_19).toInt ≤ (z270).toInt := by have a0 := h2; unfold In at a0; have a1 := h1; unfold In at a1; have a2 := ro_109_19; unfold In at a2; have a3 := ro_109_18; unfold In at a3; have a4 := i105; unfold In at a4; have a5 := i270; unfold In at a5; have a6 := t_add e270 i105 (in_c 1 rfl) rfl; have a7 := (in_c 1 rfl); unfold In at a7; have a8 := tx_i2l e177; have a9 := i176; unfold In at a9; have a10 := i104; unfold In at a10; have a11 := t_add e104 ro_109_19 (in_c 160 rfl) rfl; have a12 := (in_c 160 rfl); unfold In at a12; have oc := oc_407_109; omega
                    have n96a : (z270).toInt ≤ (u_109_19).toInt + 160 := by have a0 := h2; unfold In at a0; have a1 := h1; unfold In at a1; have a2 := ro_109_19; unfold In at a2; have a3 := ro_109_18; unfold In at a3; have a4 := i105; unfold In at a4; have a5 := i270; unfold In at a5; have a6 := t_add e270 i105 (in_c 1 rfl) rfl; have a7 := (in_c 1 rfl); unfold In at a7; have a8 := tx_i2l e177; have a9 := i176; unfold In at a9; have a10 := i104; unfold In at a10; have a11 := t_add e104 ro_109_19 (in_c 160 rfl) rfl; have a12 := (in_c 160 rfl); unfold In at a12; have oc := oc_407_109; omega
                    have n96b : NMI (gvZ s) (fun u => (s.2.1 191 u).toInt) (x1).toNatClampNeg (x2).toInt ((z270).toInt - (u_109_19).toInt).toNat ((z270).toInt - (u_109_19).toInt).toNat ((sL (sL (sL (sL (sL sc96 194 (Int32.ofInt 3).toNatClampNeg z135) 194 (Int32.ofInt 4).toNatClampNeg z192) 194 (Int32.ofInt 6).toNatClampNeg z204) 194 (Int32.ofInt 7).toNatClampNeg z236) 194 (Int32.ofInt 8).toNatClampNeg z268).2.1 194) := by rw [show ((z270).toInt - (u_109_19).toInt).toNat = ((y96_3).toInt - (u_109_19).toInt).toNat + 1 from (by have a0 := h2; unfold In at a0; have a1 := h1; unfold In at a1; have a2 := ro_109_19; unfold In at a2; have a3 := ro_109_18; unfold In at a3; have a4 := i105; unfold In at a4; have a5 := i270; unfold In at a5; have a6 := t_add e270 i105 (in_c 1 rfl) rfl; have a7 := (in_c 1 rfl); unfold In at a7; have a8 := tx_i2l e177; have a9 := i176; unfold In at a9; have a10 := i104; unfold In at a10; have a11 := t_add e104 ro_109_19 (in_c 160 rfl) rfl; have a12 := (in_c 160 rfl); unfold In at a12; have oc := oc_407_109; omega)]; have hp : bs s + ((y96_3).toInt - (u_109_19).toInt).toNat = y96_3.toNatClampNeg := (by show (s.2.2.1 109 19).toInt.toNat + _ = y96_3.toInt.toNat; rw [← e_109_19]; have a0 := h2; unfold In at a0; have a1 := h1; unfold In at a1; have a2 := ro_109_19; unfold In at a2; have a3 := ro_109_18; unfold In at a3; have a4 := i105; unfold In at a4; have a5 := i270; unfold In at a5; have a6 := t_add e270 i105 (in_c 1 rfl) rfl; have a7 := (in_c 1 rfl); unfold In at a7; have a8 := tx_i2l e177; have a9 := i176; unfold In at a9; have a10 := i104; unfold In at a10; have a11 := t_add e104 ro_109_19 (in_c 160 rfl) rfl; have a12 := (in_c 160 rfl); unfold In at a12; have oc := oc_407_109; omega); have ha : ((y96_3).toInt - (u_109_19).toInt).toNat < 160 := (by have a0 := h2; unfold In at a0; have a1 := h1; unfold In at a1; have a2 := ro_109_19; unfold In at a2; have a3 := ro_109_18; unfold In at a3; have a4 := i105; unfold In at a4; have a5 := i270; unfold In at a5; have a6 := t_add e270 i105 (in_c 1 rfl) rfl; have a7 := (in_c 1 rfl); unfold In at a7; have a8 := tx_i2l e177; have a9 := i176; unfold In at a9; have a10 := i104; unfold In at a10; have a11 := t_add e104 ro_109_19 (in_c 160 rfl) rfl; have a12 := (in_c 160 rfl); unfold In at a12; have oc := oc_407_109; omega); have rt := (show z113 = s.1 112 (bs s + ((y96_3).toInt - (u_109_19).toInt).toNat) from (by rw [hp, ← hFc96.1 112 rfl]; exact e113)); have rf := (show z122 = s.1 113 (bs s + ((y96_3).toInt - (u_109_19).toInt).toNat) from (by rw [hp, ← hFc96.1 113 rfl]; exact e122)); have ro := (show z151 = s.1 114 (bs s + ((y96_3).toInt - (u_109_19).toInt).toNat) from (by rw [hp, ← hFc96.1 114 rfl]; exact e151)); have ay := arz_y hI ha rt (by have a0 := h2; unfold In at a0; have a1 := h1; unfold In at a1; have a2 := ro_109_19; unfold In at a2; have a3 := ro_109_18; unfold In at a3; have a4 := i105; unfold In at a4; have a5 := i270; unfold In at a5; have a6 := t_add e270 i105 (in_c 1 rfl) rfl; have a7 := (in_c 1 rfl); unfold In at a7; have a8 := tx_i2l e177; have a9 := i176; unfold In at a9; have a10 := i104; unfold In at a10; have a11 := t_add e104 ro_109_19 (in_c 160 rfl) rfl; have a12 := (in_c 160 rfl); unfold In at a12; have oc := oc_407_109; omega); have E0 : ARE (gvZ s) 0 ((y96_3).toInt - (u_109_19).toInt).toNat = (z122).toInt := ay.1.trans (by rw [← rf]; exact clx i122.1); have E1 : ARE (gvZ s) 1 ((y96_3).toInt - (u_109_19).toInt).toNat = (z151).toInt := ay.2.trans (by rw [← ro]; exact clx i151.1); have vx := (show (((x1).toNatClampNeg : Nat) : Int) = (x1).toInt from clx (by have a0 := h2; unfold In at a0; have a1 := h1; unfold In at a1; have a2 := ro_109_19; unfold In at a2; have a3 := ro_109_18; unfold In at a3; have a4 := i105; unfold In at a4; have a5 := i270; unfold In at a5; have a6 := t_add e270 i105 (in_c 1 rfl) rfl; have a7 := (in_c 1 rfl); unfold In at a7; have a8 := tx_i2l e177; have a9 := i176; unfold In at a9; have a10 := i104; unfold In at a10; have a11 := t_add e104 ro_109_19 (in_c 160 rfl) rfl; have a12 := (in_c 160 rfl); unfold In at a12; have oc := oc_407_109; omega)); have fz : ((gvZ s).2.1 ((y96_3).toInt - (u_109_19).toInt).toNat).toInt = (z122).toInt := (are_f ha rfl).symm.trans E0; have rw_ := (show z176 = s.1 115 (bs s + ((y96_3).toInt - (u_109_19).toInt).toNat) from (by rw [hp, ← hFc96.1 115 rfl]; exact e176)); have hF9 : (z166).toInt = vlF (gvZ s) (fun u => (s.2.1 191 u).toInt) ((y96_3).toInt - (u_109_19).toInt).toNat := (by unfold vlF; rw [fz]; exact congrArg Int64.toInt (e166.trans (congrFun (hFc96.2.1 191 rfl) _))); have hB := (vlf_b (ndq_z hI) (show XBD (gvZ s).2.2.2.2.2.2.1 (fun u => (s.2.1 191 u).toInt) from (by rw [gvz_n hI]; exact q_0)) ha E1 (by have a0 := h2; unfold In at a0; have a1 := h1; unfold In at a1; have a2 := ro_109_19; unfold In at a2; have a3 := ro_109_18; unfold In at a3; have a4 := i105; unfold In at a4; have a5 := i270; unfold In at a5; have a6 := t_add e270 i105 (in_c 1 rfl) rfl; have a7 := (in_c 1 rfl); unfold In at a7; have a8 := tx_i2l e177; have a9 := i176; unfold In at a9; have a10 := i104; unfold In at a10; have a11 := t_add e104 ro_109_19 (in_c 160 rfl) rfl; have a12 := (in_c 160 rfl); unfold In at a12; have oc := oc_407_109; omega)).1; rw [← hF9] at hB; unfold BD at hB; have hW9 : (z179).toInt = vlW (gvZ s) (fun u => (s.2.1 191 u).toInt) ((y96_3).toInt - (u_109_19).toInt).toNat := (by have t77 := tx_i2l e177; have t78 : z178.toInt = z166.toInt + z177.toInt := ladd_t e178 (by have a0 := h2; unfold In at a0; have a1 := h1; unfold In at a1; have a2 := ro_109_19; unfold In at a2; have a3 := ro_109_18; unfold In at a3; have a4 := i105; unfold In at a4; have a5 := i270; unfold In at a5; have a6 := t_add e270 i105 (in_c 1 rfl) rfl; have a7 := (in_c 1 rfl); unfold In at a7; have a8 := tx_i2l e177; have a9 := i176; unfold In at a9; have a10 := i104; unfold In at a10; have a11 := t_add e104 ro_109_19 (in_c 160 rfl) rfl; have a12 := (in_c 160 rfl); unfold In at a12; have oc := oc_407_109; omega) (by have a0 := h2; unfold In at a0; have a1 := h1; unfold In at a1; have a2 := ro_109_19; unfold In at a2; have a3 := ro_109_18; unfold In at a3; have a4 := i105; unfold In at a4; have a5 := i270; unfold In at a5; have a6 := t_add e270 i105 (in_c 1 rfl) rfl; have a7 := (in_c 1 rfl); unfold In at a7; have a8 := tx_i2l e177; have a9 := i176; unfold In at a9; have a10 := i104; unfold In at a10; have a11 := t_add e104 ro_109_19 (in_c 160 rfl) rfl; have a12 := (in_c 160 rfl); unfold In at a12; have oc := oc_407_109; omega); unfold vlW; rw [p179, t78, t77, hF9, gvz_w hI, rw_]); simp only [sL_v]; exact nmi_4h (nmi_3h g96_0 ha (by rw [E0, vx]; have a0 := h2; unfold In at a0; have a1 := h1; unfold In at a1; have a2 := ro_109_19; unfold In at a2; have a3 := ro_109_18; unfold In at a3; have a4 := i105; unfold In at a4; have a5 := i270; unfold In at a5; have a6 := t_add e270 i105 (in_c 1 rfl) rfl; have a7 := (in_c 1 rfl); unfold In at a7; have a8 := tx_i2l e177; have a9 := i176; unfold In at a9; have a10 := i104; unfold In at a10; have a11 := t_add e104 ro_109_19 (in_c 160 rfl) rfl; have a12 := (in_c 160 rfl); unfold In at a12; have oc := oc_407_109; omega) e133 e135) ha (ndq_z hI) (show XBD (gvZ s).2.2.2.2.2.2.1 (fun u => (s.2.1 191 u).toInt) from (by rw [gvz_n hI]; exact q_0)) (by rw [E1, vx]; have a0 := h2; unfold In at a0; have a1 := h1; unfold In at a1; have a2 := ro_109_19; unfold In at a2; have a3 := ro_109_18; unfold In at a3; have a4 := i105; unfold In at a4; have a5 := i270; unfold In at a5; have a6 := t_add e270 i105 (in_c 1 rfl) rfl; have a7 := (in_c 1 rfl); unfold In at a7; have a8 := tx_i2l e177; have a9 := i176; unfold In at a9; have a10 := i104; unfold In at a10; have a11 := t_add e104 ro_109_19 (in_c 160 rfl) rfl; have a12 := (in_c 160 rfl); unfold In at a12; have oc := oc_407_109; omega) e190 e192 e201 e204 hF9 hW9 e220 (by first | exact (congrArg Int64.toInt (e236.trans e220.symm)).trans (mnv_1 (by have a0 := h2; unfold In at a0; have a1 := h1; unfold In at a1; have a2 := ro_109_19; unfold In at a2; have a3 := ro_109_18; unfold In at a3; have a4 := i105; unfold In at a4; have a5 := i270; unfold In at a5; have a6 := t_add e270 i105 (in_c 1 rfl) rfl; have a7 := (in_c 1 rfl); unfold In at a7; have a8 := tx_i2l e177; have a9 := i176; unfold In at a9; have a10 := i104; unfold In at a10; have a11 := t_add e104 ro_109_19 (in_c 160 rfl) rfl; have a12 := (in_c 160 rfl); unfold In at a12; have oc := oc_407_109; omega)).symm | exact (mnv_2 (by have a0 := h2; unfold In at a0; have a1 := h1; unfold In at a1; have a2 := ro_109_19; unfold In at a2; have a3 := ro_109_18; unfold In at a3; have a4 := i105; unfold In at a4; have a5 := i270; unfold In at a5; have a6 := t_add e270 i105 (in_c 1 rfl) rfl; have a7 := (in_c 1 rfl); unfold In at a7; have a8 := tx_i2l e177; have a9 := i176; unfold In at a9; have a10 := i104; unfold In at a10; have a11 := t_add e104 ro_109_19 (in_c 160 rfl) rfl; have a12 := (in_c 160 rfl); unfold In at a12; have oc := oc_407_109; omega)).symm) e252 (by first | exact (congrArg Int64.toInt (e268.trans e252.symm)).trans (mxv_1 (by have a0 := h2; unfold In at a0; have a1 := h1; unfold In at a1; have a2 := ro_109_19; unfold In at a2; have a3 := ro_109_18; unfold In at a3; have a4 := i105; unfold In at a4; have a5 := i270; unfold In at a5; have a6 := t_add e270 i105 (in_c 1 rfl) rfl; have a7 := (in_c 1 rfl); unfold In at a7; have a8 := tx_i2l e177; have a9 := i176; unfold In at a9; have a10 := i104; unfold In at a10; have a11 := t_add e104 ro_109_19 (in_c 160 rfl) rfl; have a12 := (in_c 160 rfl); unfold In at a12; have oc := oc_407_109; omega)).symm | exact (mxv_2 (by have a0 := h2; unfold In at a0; have a1 := h1; unfold In at a1; have a2 := ro_109_19; unfold In at a2; have a3 := ro_109_18; unfold In at a3; have a4 := i105; unfold In at a4; have a5 := i270; unfold In at a5; have a6 := t_add e270 i105 (in_c 1 rfl) rfl; have a7 := (in_c 1 rfl); unfold In at a7; have a8 := tx_i2l e177; have a9 := i176; unfold In at a9; have a10 := i104; unfold In at a10; have a11 := t_add e104 ro_109_19 (in_c 160 rfl) rfl; have a12 := (in_c 160 rfl); unfold In at a12; have oc := oc_407_109; omega)).symm)
                    exact gg_w (by omega) (gg_f (gf_cons rfl (gf_cons rfl (gf_cons rfl (gf_cons rfl gf_nil)))) (ih96 (sL (sL (sL (sL (sL sc96 194 (Int32.ofInt 3).toNatClampNeg z135) 194 (Int32.ofInt 4).toNatClampNeg z192) 194 (Int32.ofInt 6).toNatClampNeg z204) 194 (Int32.ofInt 7).toNatClampNeg z236) 194 (Int32.ofInt 8).toNatClampNeg z268) z270 hI269 (fr_sL rfl (fr_sL rfl (fr_sL rfl (fr_sL rfl (fr_sL rfl hFc96))))) (in_w 0 400 i270 rfl) n96 n96a n96b (m_up mm96 (t_add e270 i105 (in_c 1 rfl) rfl) (in_w 1 1 (in_c 1 rfl) rfl))))
                  · skip
                    have i254 := z_gt 1 1 c254 i253 rfl
                    have c254a := lc_gt e253 c254
                    have i254a := lr_lt1 (-9223372036854775808) 9223372036854775806 c254a (l_rng z252) (l_rng z179) rfl
                    have i254b := lr_lt2 (-9223372036854775807) 9223372036854775807 c254a (l_rng z252) (l_rng z179) rfl
                    refine g_lload 259 (gd rfl) rfl rfl ?_
                    refine g_goto 269 (gd rfl) rfl ?_
                    refine g_lastore 270 (gd rfl) rfl (n := 9) rfl (in_ix (in_c 8 rfl) rfl) ?_
                    have hI269 := inv_sL (q := 194) (j := (Int32.ofInt 8).toNatClampNeg) (x := z179) hI237 rfl (l_rng z179)
                    refine g_iinc 273 (gd rfl) rfl rfl (Nat.le_of_ble_eq_true rfl) (fun z270 e270 => ?_)
                    have i270 := in_add 1 320 e270 i105 (in_c 1 rfl) rfl rfl
                    refine g_goto 96 (gd rfl) rfl ?_
                    have n96 : (u_109_19).toInt ≤ (z270).toInt := by have a0 := h2; unfold In at a0; have a1 := h1; unfold In at a1; have a2 := ro_109_19; unfold In at a2; have a3 := ro_109_18; unfold In at a3; have a4 := i105; unfold In at a4; have a5 := i270; unfold In at a5; have a6 := t_add e270 i105 (in_c 1 rfl) rfl; have a7 := (in_c 1 rfl); unfold In at a7; have a8 := tx_i2l e177; have a9 := i176; unfold In at a9; have a10 := i104; unfold In at a10; have a11 := t_add e104 ro_109_19 (in_c 160 rfl) rfl; have a12 := (in_c 160 rfl); unfold In at a12; have oc := oc_407_109; omega
                    have n96a : (z270).toInt ≤ (u_109_19).toInt + 160 := by have a0 := h2; unfold In at a0; have a1 := h1; unfold In at a1; have a2 := ro_109_19; unfold In at a2; have a3 := ro_109_18; unfold In at a3; have a4 := i105; unfold In at a4; have a5 := i270; unfold In at a5; have a6 := t_add e270 i105 (in_c 1 rfl) rfl; have a7 := (in_c 1 rfl); unfold In at a7; have a8 := tx_i2l e177; have a9 := i176; unfold In at a9; have a10 := i104; unfold In at a10; have a11 := t_add e104 ro_109_19 (in_c 160 rfl) rfl; have a12 := (in_c 160 rfl); unfold In at a12; have oc := oc_407_109; omega
                    have n96b : NMI (gvZ s) (fun u => (s.2.1 191 u).toInt) (x1).toNatClampNeg (x2).toInt ((z270).toInt - (u_109_19).toInt).toNat ((z270).toInt - (u_109_19).toInt).toNat ((sL (sL (sL (sL (sL sc96 194 (Int32.ofInt 3).toNatClampNeg z135) 194 (Int32.ofInt 4).toNatClampNeg z192) 194 (Int32.ofInt 6).toNatClampNeg z204) 194 (Int32.ofInt 7).toNatClampNeg z236) 194 (Int32.ofInt 8).toNatClampNeg z179).2.1 194) := by rw [show ((z270).toInt - (u_109_19).toInt).toNat = ((y96_3).toInt - (u_109_19).toInt).toNat + 1 from (by have a0 := h2; unfold In at a0; have a1 := h1; unfold In at a1; have a2 := ro_109_19; unfold In at a2; have a3 := ro_109_18; unfold In at a3; have a4 := i105; unfold In at a4; have a5 := i270; unfold In at a5; have a6 := t_add e270 i105 (in_c 1 rfl) rfl; have a7 := (in_c 1 rfl); unfold In at a7; have a8 := tx_i2l e177; have a9 := i176; unfold In at a9; have a10 := i104; unfold In at a10; have a11 := t_add e104 ro_109_19 (in_c 160 rfl) rfl; have a12 := (in_c 160 rfl); unfold In at a12; have oc := oc_407_109; omega)]; have hp : bs s + ((y96_3).toInt - (u_109_19).toInt).toNat = y96_3.toNatClampNeg := (by show (s.2.2.1 109 19).toInt.toNat + _ = y96_3.toInt.toNat; rw [← e_109_19]; have a0 := h2; unfold In at a0; have a1 := h1; unfold In at a1; have a2 := ro_109_19; unfold In at a2; have a3 := ro_109_18; unfold In at a3; have a4 := i105; unfold In at a4; have a5 := i270; unfold In at a5; have a6 := t_add e270 i105 (in_c 1 rfl) rfl; have a7 := (in_c 1 rfl); unfold In at a7; have a8 := tx_i2l e177; have a9 := i176; unfold In at a9; have a10 := i104; unfold In at a10; have a11 := t_add e104 ro_109_19 (in_c 160 rfl) rfl; have a12 := (in_c 160 rfl); unfold In at a12; have oc := oc_407_109; omega); have ha : ((y96_3).toInt - (u_109_19).toInt).toNat < 160 := (by have a0 := h2; unfold In at a0; have a1 := h1; unfold In at a1; have a2 := ro_109_19; unfold In at a2; have a3 := ro_109_18; unfold In at a3; have a4 := i105; unfold In at a4; have a5 := i270; unfold In at a5; have a6 := t_add e270 i105 (in_c 1 rfl) rfl; have a7 := (in_c 1 rfl); unfold In at a7; have a8 := tx_i2l e177; have a9 := i176; unfold In at a9; have a10 := i104; unfold In at a10; have a11 := t_add e104 ro_109_19 (in_c 160 rfl) rfl; have a12 := (in_c 160 rfl); unfold In at a12; have oc := oc_407_109; omega); have rt := (show z113 = s.1 112 (bs s + ((y96_3).toInt - (u_109_19).toInt).toNat) from (by rw [hp, ← hFc96.1 112 rfl]; exact e113)); have rf := (show z122 = s.1 113 (bs s + ((y96_3).toInt - (u_109_19).toInt).toNat) from (by rw [hp, ← hFc96.1 113 rfl]; exact e122)); have ro := (show z151 = s.1 114 (bs s + ((y96_3).toInt - (u_109_19).toInt).toNat) from (by rw [hp, ← hFc96.1 114 rfl]; exact e151)); have ay := arz_y hI ha rt (by have a0 := h2; unfold In at a0; have a1 := h1; unfold In at a1; have a2 := ro_109_19; unfold In at a2; have a3 := ro_109_18; unfold In at a3; have a4 := i105; unfold In at a4; have a5 := i270; unfold In at a5; have a6 := t_add e270 i105 (in_c 1 rfl) rfl; have a7 := (in_c 1 rfl); unfold In at a7; have a8 := tx_i2l e177; have a9 := i176; unfold In at a9; have a10 := i104; unfold In at a10; have a11 := t_add e104 ro_109_19 (in_c 160 rfl) rfl; have a12 := (in_c 160 rfl); unfold In at a12; have oc := oc_407_109; omega); have E0 : ARE (gvZ s) 0 ((y96_3).toInt - (u_109_19).toInt).toNat = (z122).toInt := ay.1.trans (by rw [← rf]; exact clx i122.1); have E1 : ARE (gvZ s) 1 ((y96_3).toInt - (u_109_19).toInt).toNat = (z151).toInt := ay.2.trans (by rw [← ro]; exact clx i151.1); have vx := (show (((x1).toNatClampNeg : Nat) : Int) = (x1).toInt from clx (by have a0 := h2; unfold In at a0; have a1 := h1; unfold In at a1; have a2 := ro_109_19; unfold In at a2; have a3 := ro_109_18; unfold In at a3; have a4 := i105; unfold In at a4; have a5 := i270; unfold In at a5; have a6 := t_add e270 i105 (in_c 1 rfl) rfl; have a7 := (in_c 1 rfl); unfold In at a7; have a8 := tx_i2l e177; have a9 := i176; unfold In at a9; have a10 := i104; unfold In at a10; have a11 := t_add e104 ro_109_19 (in_c 160 rfl) rfl; have a12 := (in_c 160 rfl); unfold In at a12; have oc := oc_407_109; omega)); have fz : ((gvZ s).2.1 ((y96_3).toInt - (u_109_19).toInt).toNat).toInt = (z122).toInt := (are_f ha rfl).symm.trans E0; have rw_ := (show z176 = s.1 115 (bs s + ((y96_3).toInt - (u_109_19).toInt).toNat) from (by rw [hp, ← hFc96.1 115 rfl]; exact e176)); have hF9 : (z166).toInt = vlF (gvZ s) (fun u => (s.2.1 191 u).toInt) ((y96_3).toInt - (u_109_19).toInt).toNat := (by unfold vlF; rw [fz]; exact congrArg Int64.toInt (e166.trans (congrFun (hFc96.2.1 191 rfl) _))); have hB := (vlf_b (ndq_z hI) (show XBD (gvZ s).2.2.2.2.2.2.1 (fun u => (s.2.1 191 u).toInt) from (by rw [gvz_n hI]; exact q_0)) ha E1 (by have a0 := h2; unfold In at a0; have a1 := h1; unfold In at a1; have a2 := ro_109_19; unfold In at a2; have a3 := ro_109_18; unfold In at a3; have a4 := i105; unfold In at a4; have a5 := i270; unfold In at a5; have a6 := t_add e270 i105 (in_c 1 rfl) rfl; have a7 := (in_c 1 rfl); unfold In at a7; have a8 := tx_i2l e177; have a9 := i176; unfold In at a9; have a10 := i104; unfold In at a10; have a11 := t_add e104 ro_109_19 (in_c 160 rfl) rfl; have a12 := (in_c 160 rfl); unfold In at a12; have oc := oc_407_109; omega)).1; rw [← hF9] at hB; unfold BD at hB; have hW9 : (z179).toInt = vlW (gvZ s) (fun u => (s.2.1 191 u).toInt) ((y96_3).toInt - (u_109_19).toInt).toNat := (by have t77 := tx_i2l e177; have t78 : z178.toInt = z166.toInt + z177.toInt := ladd_t e178 (by have a0 := h2; unfold In at a0; have a1 := h1; unfold In at a1; have a2 := ro_109_19; unfold In at a2; have a3 := ro_109_18; unfold In at a3; have a4 := i105; unfold In at a4; have a5 := i270; unfold In at a5; have a6 := t_add e270 i105 (in_c 1 rfl) rfl; have a7 := (in_c 1 rfl); unfold In at a7; have a8 := tx_i2l e177; have a9 := i176; unfold In at a9; have a10 := i104; unfold In at a10; have a11 := t_add e104 ro_109_19 (in_c 160 rfl) rfl; have a12 := (in_c 160 rfl); unfold In at a12; have oc := oc_407_109; omega) (by have a0 := h2; unfold In at a0; have a1 := h1; unfold In at a1; have a2 := ro_109_19; unfold In at a2; have a3 := ro_109_18; unfold In at a3; have a4 := i105; unfold In at a4; have a5 := i270; unfold In at a5; have a6 := t_add e270 i105 (in_c 1 rfl) rfl; have a7 := (in_c 1 rfl); unfold In at a7; have a8 := tx_i2l e177; have a9 := i176; unfold In at a9; have a10 := i104; unfold In at a10; have a11 := t_add e104 ro_109_19 (in_c 160 rfl) rfl; have a12 := (in_c 160 rfl); unfold In at a12; have oc := oc_407_109; omega); unfold vlW; rw [p179, t78, t77, hF9, gvz_w hI, rw_]); simp only [sL_v]; exact nmi_4h (nmi_3h g96_0 ha (by rw [E0, vx]; have a0 := h2; unfold In at a0; have a1 := h1; unfold In at a1; have a2 := ro_109_19; unfold In at a2; have a3 := ro_109_18; unfold In at a3; have a4 := i105; unfold In at a4; have a5 := i270; unfold In at a5; have a6 := t_add e270 i105 (in_c 1 rfl) rfl; have a7 := (in_c 1 rfl); unfold In at a7; have a8 := tx_i2l e177; have a9 := i176; unfold In at a9; have a10 := i104; unfold In at a10; have a11 := t_add e104 ro_109_19 (in_c 160 rfl) rfl; have a12 := (in_c 160 rfl); unfold In at a12; have oc := oc_407_109; omega) e133 e135) ha (ndq_z hI) (show XBD (gvZ s).2.2.2.2.2.2.1 (fun u => (s.2.1 191 u).toInt) from (by rw [gvz_n hI]; exact q_0)) (by rw [E1, vx]; have a0 := h2; unfold In at a0; have a1 := h1; unfold In at a1; have a2 := ro_109_19; unfold In at a2; have a3 := ro_109_18; unfold In at a3; have a4 := i105; unfold In at a4; have a5 := i270; unfold In at a5; have a6 := t_add e270 i105 (in_c 1 rfl) rfl; have a7 := (in_c 1 rfl); unfold In at a7; have a8 := tx_i2l e177; have a9 := i176; unfold In at a9; have a10 := i104; unfold In at a10; have a11 := t_add e104 ro_109_19 (in_c 160 rfl) rfl; have a12 := (in_c 160 rfl); unfold In at a12; have oc := oc_407_109; omega) e190 e192 e201 e204 hF9 hW9 e220 (by first | exact (congrArg Int64.toInt (e236.trans e220.symm)).trans (mnv_1 (by have a0 := h2; unfold In at a0; have a1 := h1; unfold In at a1; have a2 := ro_109_19; unfold In at a2; have a3 := ro_109_18; unfold In at a3; have a4 := i105; unfold In at a4; have a5 := i270; unfold In at a5; have a6 := t_add e270 i105 (in_c 1 rfl) rfl; have a7 := (in_c 1 rfl); unfold In at a7; have a8 := tx_i2l e177; have a9 := i176; unfold In at a9; have a10 := i104; unfold In at a10; have a11 := t_add e104 ro_109_19 (in_c 160 rfl) rfl; have a12 := (in_c 160 rfl); unfold In at a12; have oc := oc_407_109; omega)).symm | exact (mnv_2 (by have a0 := h2; unfold In at a0; have a1 := h1; unfold In at a1; have a2 := ro_109_19; unfold In at a2; have a3 := ro_109_18; unfold In at a3; have a4 := i105; unfold In at a4; have a5 := i270; unfold In at a5; have a6 := t_add e270 i105 (in_c 1 rfl) rfl; have a7 := (in_c 1 rfl); unfold In at a7; have a8 := tx_i2l e177; have a9 := i176; unfold In at a9; have a10 := i104; unfold In at a10; have a11 := t_add e104 ro_109_19 (in_c 160 rfl) rfl; have a12 := (in_c 160 rfl); unfold In at a12; have oc := oc_407_109; omega)).symm) e252 (by first | exact (congrArg Int64.toInt (e268.trans e252.symm)).trans (mxv_1 (by have a0 := h2; unfold In at a0; have a1 := h1; unfold In at a1; have a2 := ro_109_19; unfold In at a2; have a3 := ro_109_18; unfold In at a3; have a4 := i105; unfold In at a4; have a5 := i270; unfold In at a5; have a6 := t_add e270 i105 (in_c 1 rfl) rfl; have a7 := (in_c 1 rfl); unfold In at a7; have a8 := tx_i2l e177; have a9 := i176; unfold In at a9; have a10 := i104; unfold In at a10; have a11 := t_add e104 ro_109_19 (in_c 160 rfl) rfl; have a12 := (in_c 160 rfl); unfold In at a12; have oc := oc_407_109; omega)).symm | exact (mxv_2 (by have a0 := h2; unfold In at a0; have a1 := h1; unfold In at a1; have a2 := ro_109_19; unfold In at a2; have a3 := ro_109_18; unfold In at a3; have a4 := i105; unfold In at a4; have a5 := i270; unfold In at a5; have a6 := t_add e270 i105 (in_c 1 rfl) rfl; have a7 := (in_c 1 rfl); unfold In at a7; have a8 := tx_i2l e177; have a9 := i176; unfold In at a9; have a10 := i104; unfold In at a10; have a11 := t_add e104 ro_109_19 (in_c 160 rfl) rfl; have a12 := (in_c 160 rfl); unfold In at a12; have oc := oc_407_109; omega)).symm)
                    exact gg_w (by omega) (gg_f (gf_cons rfl (gf_cons rfl (gf_cons rfl (gf_cons rfl gf_nil)))) (ih96 (sL (sL (sL (sL (sL sc96 194 (Int32.ofInt 3).toNatClampNeg z135) 194 (Int32.ofInt 4).toNatClampNeg z192) 194 (Int32.ofInt 6).toNatClampNeg z204) 194 (Int32.ofInt 7).toNatClampNeg z236) 194 (Int32.ofInt 8).toNatClampNeg z179) z270 hI269 (fr_sL rfl (fr_sL rfl (fr_sL rfl (fr_sL rfl (fr_sL rfl hFc96))))) (in_w 0 400 i270 rfl) n96 n96a n96b (m_up mm96 (t_add e270 i105 (in_c 1 rfl) rfl) (in_w 1 1 (in_c 1 rfl) rfl))))
                · skip
                  have i222 := z_lt (-1) (-1) c222 i221 rfl
                  have c222a := lc_lt e221 c222
                  have i222a := lr_lt1 (-9223372036854775808) 9223372036854775806 c222a (l_rng z179) (l_rng z220) rfl
                  have i222b := lr_lt2 (-9223372036854775807) 9223372036854775807 c222a (l_rng z179) (l_rng z220) rfl
                  refine g_lload 227 (gd rfl) rfl rfl ?_
                  refine g_goto 237 (gd rfl) rfl ?_
                  refine g_lastore 238 (gd rfl) rfl (n := 9) rfl (in_ix (in_c 7 rfl) rfl) ?_
                  have hI237 := inv_sL (q := 194) (j := (Int32.ofInt 7).toNatClampNeg) (x := z179) hI205 rfl (l_rng z179)
                  refine g_aload_n 239 (gd rfl) rfl rfl ?_
                  refine g_getA (q2 := 194) 242 (gd rfl) rfl rfl rfl rfl ?_
                  refine g_bipush 8 244 (gd rfl) rfl rfl ?_
                  refine g_lload 246 (gd rfl) rfl rfl ?_
                  refine g_aload_n 247 (gd rfl) rfl rfl ?_
                  refine g_getA (q2 := 194) 250 (gd rfl) rfl rfl rfl rfl ?_
                  refine g_bipush 8 252 (gd rfl) rfl rfl ?_
                  refine g_laload 253 (gd rfl) rfl (n := 9) rfl (in_ix (in_c 8 rfl) rfl) (fun z252 e252 => ?_)
                  refine g_lcmp 254 (gd rfl) rfl (fun z253 e253 => ?_)
                  have i253 := lc_in e253
                  refine g_if_le 257 262 (gd rfl) rfl rfl (fun c254 => ?_) (fun c254 => ?_)
                  · skip
                    have i254 := z_le (-1) 0 c254 i253 rfl
                    have c254a := lc_le e253 c254
                    refine g_aload_n 263 (gd rfl) rfl rfl ?_
                    refine g_getA (q2 := 194) 266 (gd rfl) rfl rfl rfl rfl ?_
                    refine g_bipush 8 268 (gd rfl) rfl rfl ?_
                    refine g_laload 269 (gd rfl) rfl (n := 9) rfl (in_ix (in_c 8 rfl) rfl) (fun z268 e268 => ?_)
                    refine g_lastore 270 (gd rfl) rfl (n := 9) rfl (in_ix (in_c 8 rfl) rfl) ?_
                    have hI269 := inv_sL (q := 194) (j := (Int32.ofInt 8).toNatClampNeg) (x := z268) hI237 rfl (l_rng z268)
                    refine g_iinc 273 (gd rfl) rfl rfl (Nat.le_of_ble_eq_true rfl) (fun z270 e270 => ?_)
                    have i270 := in_add 1 320 e270 i105 (in_c 1 rfl) rfl rfl
                    refine g_goto 96 (gd rfl) rfl ?_
                    have n96 : (u_109_19).toInt ≤ (z270).toInt := by have a0 := h2; unfold In at a0; have a1 := h1; unfold In at a1; have a2 := ro_109_19; unfold In at a2; have a3 := ro_109_18; unfold In at a3; have a4 := i105; unfold In at a4; have a5 := i270; unfold In at a5; have a6 := t_add e270 i105 (in_c 1 rfl) rfl; have a7 := (in_c 1 rfl); unfold In at a7; have a8 := tx_i2l e177; have a9 := i176; unfold In at a9; have a10 := i104; unfold In at a10; have a11 := t_add e104 ro_109_19 (in_c 160 rfl) rfl; have a12 := (in_c 160 rfl); unfold In at a12; have oc := oc_407_109; omega
                    have n96a : (z270).toInt ≤ (u_109_19).toInt + 160 := by have a0 := h2; unfold In at a0; have a1 := h1; unfold In at a1; have a2 := ro_109_19; unfold In at a2; have a3 := ro_109_18; unfold In at a3; have a4 := i105; unfold In at a4; have a5 := i270; unfold In at a5; have a6 := t_add e270 i105 (in_c 1 rfl) rfl; have a7 := (in_c 1 rfl); unfold In at a7; have a8 := tx_i2l e177; have a9 := i176; unfold In at a9; have a10 := i104; unfold In at a10; have a11 := t_add e104 ro_109_19 (in_c 160 rfl) rfl; have a12 := (in_c 160 rfl); unfold In at a12; have oc := oc_407_109; omega
                    have n96b : NMI (gvZ s) (fun u => (s.2.1 191 u).toInt) (x1).toNatClampNeg (x2).toInt ((z270).toInt - (u_109_19).toInt).toNat ((z270).toInt - (u_109_19).toInt).toNat ((sL (sL (sL (sL (sL sc96 194 (Int32.ofInt 3).toNatClampNeg z135) 194 (Int32.ofInt 4).toNatClampNeg z192) 194 (Int32.ofInt 6).toNatClampNeg z204) 194 (Int32.ofInt 7).toNatClampNeg z179) 194 (Int32.ofInt 8).toNatClampNeg z268).2.1 194) := by rw [show ((z270).toInt - (u_109_19).toInt).toNat = ((y96_3).toInt - (u_109_19).toInt).toNat + 1 from (by have a0 := h2; unfold In at a0; have a1 := h1; unfold In at a1; have a2 := ro_109_19; unfold In at a2; have a3 := ro_109_18; unfold In at a3; have a4 := i105; unfold In at a4; have a5 := i270; unfold In at a5; have a6 := t_add e270 i105 (in_c 1 rfl) rfl; have a7 := (in_c 1 rfl); unfold In at a7; have a8 := tx_i2l e177; have a9 := i176; unfold In at a9; have a10 := i104; unfold In at a10; have a11 := t_add e104 ro_109_19 (in_c 160 rfl) rfl; have a12 := (in_c 160 rfl); unfold In at a12; have oc := oc_407_109; omega)]; have hp : bs s + ((y96_3).toInt - (u_109_19).toInt).toNat = y96_3.toNatClampNeg := (by show (s.2.2.1 109 19).toInt.toNat + _ = y96_3.toInt.toNat; rw [← e_109_19]; have a0 := h2; unfold In at a0; have a1 := h1; unfold In at a1; have a2 := ro_109_19; unfold In at a2; have a3 := ro_109_18; unfold In at a3; have a4 := i105; unfold In at a4; have a5 := i270; unfold In at a5; have a6 := t_add e270 i105 (in_c 1 rfl) rfl; have a7 := (in_c 1 rfl); unfold In at a7; have a8 := tx_i2l e177; have a9 := i176; unfold In at a9; have a10 := i104; unfold In at a10; have a11 := t_add e104 ro_109_19 (in_c 160 rfl) rfl; have a12 := (in_c 160 rfl); unfold In at a12; have oc := oc_407_109; omega); have ha : ((y96_3).toInt - (u_109_19).toInt).toNat < 160 := (by have a0 := h2; unfold In at a0; have a1 := h1; unfold In at a1; have a2 := ro_109_19; unfold In at a2; have a3 := ro_109_18; unfold In at a3; have a4 := i105; unfold In at a4; have a5 := i270; unfold In at a5; have a6 := t_add e270 i105 (in_c 1 rfl) rfl; have a7 := (in_c 1 rfl); unfold In at a7; have a8 := tx_i2l e177; have a9 := i176; unfold In at a9; have a10 := i104; unfold In at a10; have a11 := t_add e104 ro_109_19 (in_c 160 rfl) rfl; have a12 := (in_c 160 rfl); unfold In at a12; have oc := oc_407_109; omega); have rt := (show z113 = s.1 112 (bs s + ((y96_3).toInt - (u_109_19).toInt).toNat) from (by rw [hp, ← hFc96.1 112 rfl]; exact e113)); have rf := (show z122 = s.1 113 (bs s + ((y96_3).toInt - (u_109_19).toInt).toNat) from (by rw [hp, ← hFc96.1 113 rfl]; exact e122)); have ro := (show z151 = s.1 114 (bs s + ((y96_3).toInt - (u_109_19).toInt).toNat) from (by rw [hp, ← hFc96.1 114 rfl]; exact e151)); have ay := arz_y hI ha rt (by have a0 := h2; unfold In at a0; have a1 := h1; unfold In at a1; have a2 := ro_109_19; unfold In at a2; have a3 := ro_109_18; unfold In at a3; have a4 := i105; unfold In at a4; have a5 := i270; unfold In at a5; have a6 := t_add e270 i105 (in_c 1 rfl) rfl; have a7 := (in_c 1 rfl); unfold In at a7; have a8 := tx_i2l e177; have a9 := i176; unfold In at a9; have a10 := i104; unfold In at a10; have a11 := t_add e104 ro_109_19 (in_c 160 rfl) rfl; have a12 := (in_c 160 rfl); unfold In at a12; have oc := oc_407_109; omega); have E0 : ARE (gvZ s) 0 ((y96_3).toInt - (u_109_19).toInt).toNat = (z122).toInt := ay.1.trans (by rw [← rf]; exact clx i122.1); have E1 : ARE (gvZ s) 1 ((y96_3).toInt - (u_109_19).toInt).toNat = (z151).toInt := ay.2.trans (by rw [← ro]; exact clx i151.1); have vx := (show (((x1).toNatClampNeg : Nat) : Int) = (x1).toInt from clx (by have a0 := h2; unfold In at a0; have a1 := h1; unfold In at a1; have a2 := ro_109_19; unfold In at a2; have a3 := ro_109_18; unfold In at a3; have a4 := i105; unfold In at a4; have a5 := i270; unfold In at a5; have a6 := t_add e270 i105 (in_c 1 rfl) rfl; have a7 := (in_c 1 rfl); unfold In at a7; have a8 := tx_i2l e177; have a9 := i176; unfold In at a9; have a10 := i104; unfold In at a10; have a11 := t_add e104 ro_109_19 (in_c 160 rfl) rfl; have a12 := (in_c 160 rfl); unfold In at a12; have oc := oc_407_109; omega)); have fz : ((gvZ s).2.1 ((y96_3).toInt - (u_109_19).toInt).toNat).toInt = (z122).toInt := (are_f ha rfl).symm.trans E0; have rw_ := (show z176 = s.1 115 (bs s + ((y96_3).toInt - (u_109_19).toInt).toNat) from (by rw [hp, ← hFc96.1 115 rfl]; exact e176)); have hF9 : (z166).toInt = vlF (gvZ s) (fun u => (s.2.1 191 u).toInt) ((y96_3).toInt - (u_109_19).toInt).toNat := (by unfold vlF; rw [fz]; exact congrArg Int64.toInt (e166.trans (congrFun (hFc96.2.1 191 rfl) _))); have hB := (vlf_b (ndq_z hI) (show XBD (gvZ s).2.2.2.2.2.2.1 (fun u => (s.2.1 191 u).toInt) from (by rw [gvz_n hI]; exact q_0)) ha E1 (by have a0 := h2; unfold In at a0; have a1 := h1; unfold In at a1; have a2 := ro_109_19; unfold In at a2; have a3 := ro_109_18; unfold In at a3; have a4 := i105; unfold In at a4; have a5 := i270; unfold In at a5; have a6 := t_add e270 i105 (in_c 1 rfl) rfl; have a7 := (in_c 1 rfl); unfold In at a7; have a8 := tx_i2l e177; have a9 := i176; unfold In at a9; have a10 := i104; unfold In at a10; have a11 := t_add e104 ro_109_19 (in_c 160 rfl) rfl; have a12 := (in_c 160 rfl); unfold In at a12; have oc := oc_407_109; omega)).1; rw [← hF9] at hB; unfold BD at hB; have hW9 : (z179).toInt = vlW (gvZ s) (fun u => (s.2.1 191 u).toInt) ((y96_3).toInt - (u_109_19).toInt).toNat := (by have t77 := tx_i2l e177; have t78 : z178.toInt = z166.toInt + z177.toInt := ladd_t e178 (by have a0 := h2; unfold In at a0; have a1 := h1; unfold In at a1; have a2 := ro_109_19; unfold In at a2; have a3 := ro_109_18; unfold In at a3; have a4 := i105; unfold In at a4; have a5 := i270; unfold In at a5; have a6 := t_add e270 i105 (in_c 1 rfl) rfl; have a7 := (in_c 1 rfl); unfold In at a7; have a8 := tx_i2l e177; have a9 := i176; unfold In at a9; have a10 := i104; unfold In at a10; have a11 := t_add e104 ro_109_19 (in_c 160 rfl) rfl; have a12 := (in_c 160 rfl); unfold In at a12; have oc := oc_407_109; omega) (by have a0 := h2; unfold In at a0; have a1 := h1; unfold In at a1; have a2 := ro_109_19; unfold In at a2; have a3 := ro_109_18; unfold In at a3; have a4 := i105; unfold In at a4; have a5 := i270; unfold In at a5; have a6 := t_add e270 i105 (in_c 1 rfl) rfl; have a7 := (in_c 1 rfl); unfold In at a7; have a8 := tx_i2l e177; have a9 := i176; unfold In at a9; have a10 := i104; unfold In at a10; have a11 := t_add e104 ro_109_19 (in_c 160 rfl) rfl; have a12 := (in_c 160 rfl); unfold In at a12; have oc := oc_407_109; omega); unfold vlW; rw [p179, t78, t77, hF9, gvz_w hI, rw_]); simp only [sL_v]; exact nmi_4h (nmi_3h g96_0 ha (by rw [E0, vx]; have a0 := h2; unfold In at a0; have a1 := h1; unfold In at a1; have a2 := ro_109_19; unfold In at a2; have a3 := ro_109_18; unfold In at a3; have a4 := i105; unfold In at a4; have a5 := i270; unfold In at a5; have a6 := t_add e270 i105 (in_c 1 rfl) rfl; have a7 := (in_c 1 rfl); unfold In at a7; have a8 := tx_i2l e177; have a9 := i176; unfold In at a9; have a10 := i104; unfold In at a10; have a11 := t_add e104 ro_109_19 (in_c 160 rfl) rfl; have a12 := (in_c 160 rfl); unfold In at a12; have oc := oc_407_109; omega) e133 e135) ha (ndq_z hI) (show XBD (gvZ s).2.2.2.2.2.2.1 (fun u => (s.2.1 191 u).toInt) from (by rw [gvz_n hI]; exact q_0)) (by rw [E1, vx]; have a0 := h2; unfold In at a0; have a1 := h1; unfold In at a1; have a2 := ro_109_19; unfold In at a2; have a3 := ro_109_18; unfold In at a3; have a4 := i105; unfold In at a4; have a5 := i270; unfold In at a5; have a6 := t_add e270 i105 (in_c 1 rfl) rfl; have a7 := (in_c 1 rfl); unfold In at a7; have a8 := tx_i2l e177; have a9 := i176; unfold In at a9; have a10 := i104; unfold In at a10; have a11 := t_add e104 ro_109_19 (in_c 160 rfl) rfl; have a12 := (in_c 160 rfl); unfold In at a12; have oc := oc_407_109; omega) e190 e192 e201 e204 hF9 hW9 e220 (by first | exact (congrArg Int64.toInt (e236.trans e220.symm)).trans (mnv_1 (by have a0 := h2; unfold In at a0; have a1 := h1; unfold In at a1; have a2 := ro_109_19; unfold In at a2; have a3 := ro_109_18; unfold In at a3; have a4 := i105; unfold In at a4; have a5 := i270; unfold In at a5; have a6 := t_add e270 i105 (in_c 1 rfl) rfl; have a7 := (in_c 1 rfl); unfold In at a7; have a8 := tx_i2l e177; have a9 := i176; unfold In at a9; have a10 := i104; unfold In at a10; have a11 := t_add e104 ro_109_19 (in_c 160 rfl) rfl; have a12 := (in_c 160 rfl); unfold In at a12; have oc := oc_407_109; omega)).symm | exact (mnv_2 (by have a0 := h2; unfold In at a0; have a1 := h1; unfold In at a1; have a2 := ro_109_19; unfold In at a2; have a3 := ro_109_18; unfold In at a3; have a4 := i105; unfold In at a4; have a5 := i270; unfold In at a5; have a6 := t_add e270 i105 (in_c 1 rfl) rfl; have a7 := (in_c 1 rfl); unfold In at a7; have a8 := tx_i2l e177; have a9 := i176; unfold In at a9; have a10 := i104; unfold In at a10; have a11 := t_add e104 ro_109_19 (in_c 160 rfl) rfl; have a12 := (in_c 160 rfl); unfold In at a12; have oc := oc_407_109; omega)).symm) e252 (by first | exact (congrArg Int64.toInt (e268.trans e252.symm)).trans (mxv_1 (by have a0 := h2; unfold In at a0; have a1 := h1; unfold In at a1; have a2 := ro_109_19; unfold In at a2; have a3 := ro_109_18; unfold In at a3; have a4 := i105; unfold In at a4; have a5 := i270; unfold In at a5; have a6 := t_add e270 i105 (in_c 1 rfl) rfl; have a7 := (in_c 1 rfl); unfold In at a7; have a8 := tx_i2l e177; have a9 := i176; unfold In at a9; have a10 := i104; unfold In at a10; have a11 := t_add e104 ro_109_19 (in_c 160 rfl) rfl; have a12 := (in_c 160 rfl); unfold In at a12; have oc := oc_407_109; omega)).symm | exact (mxv_2 (by have a0 := h2; unfold In at a0; have a1 := h1; unfold In at a1; have a2 := ro_109_19; unfold In at a2; have a3 := ro_109_18; unfold In at a3; have a4 := i105; unfold In at a4; have a5 := i270; unfold In at a5; have a6 := t_add e270 i105 (in_c 1 rfl) rfl; have a7 := (in_c 1 rfl); unfold In at a7; have a8 := tx_i2l e177; have a9 := i176; unfold In at a9; have a10 := i104; unfold In at a10; have a11 := t_add e104 ro_109_19 (in_c 160 rfl) rfl; have a12 := (in_c 160 rfl); unfold In at a12; have oc := oc_407_109; omega)).symm)
                    exact gg_w (by omega) (gg_f (gf_cons rfl (gf_cons rfl (gf_cons rfl (gf_cons rfl gf_nil)))) (ih96 (sL (sL (sL (sL (sL sc96 194 (Int32.ofInt 3).toNatClampNeg z135) 194 (Int32.ofInt 4).toNatClampNeg z192) 194 (Int32.ofInt 6).toNatClampNeg z204) 194 (Int32.ofInt 7).toNatClampNeg z179) 194 (Int32.ofInt 8).toNatClampNeg z268) z270 hI269 (fr_sL rfl (fr_sL rfl (fr_sL rfl (fr_sL rfl (fr_sL rfl hFc96))))) (in_w 0 400 i270 rfl) n96 n96a n96b (m_up mm96 (t_add e270 i105 (in_c 1 rfl) rfl) (in_w 1 1 (in_c 1 rfl) rfl))))
                  · skip
                    have i254 := z_gt 1 1 c254 i253 rfl
                    have c254a := lc_gt e253 c254
                    have i254a := lr_lt1 (-9223372036854775808) 9223372036854775805 c254a (l_rng z252) i222a rfl
                    have i254b := lr_lt2 (-9223372036854775807) 9223372036854775806 c254a (l_rng z252) i222a rfl
                    refine g_lload 259 (gd rfl) rfl rfl ?_
                    refine g_goto 269 (gd rfl) rfl ?_
                    refine g_lastore 270 (gd rfl) rfl (n := 9) rfl (in_ix (in_c 8 rfl) rfl) ?_
                    have hI269 := inv_sL (q := 194) (j := (Int32.ofInt 8).toNatClampNeg) (x := z179) hI237 rfl (l_rng z179)
                    refine g_iinc 273 (gd rfl) rfl rfl (Nat.le_of_ble_eq_true rfl) (fun z270 e270 => ?_)
                    have i270 := in_add 1 320 e270 i105 (in_c 1 rfl) rfl rfl
                    refine g_goto 96 (gd rfl) rfl ?_
                    have n96 : (u_109_19).toInt ≤ (z270).toInt := by have a0 := h2; unfold In at a0; have a1 := h1; unfold In at a1; have a2 := ro_109_19; unfold In at a2; have a3 := ro_109_18; unfold In at a3; have a4 := i105; unfold In at a4; have a5 := i270; unfold In at a5; have a6 := t_add e270 i105 (in_c 1 rfl) rfl; have a7 := (in_c 1 rfl); unfold In at a7; have a8 := tx_i2l e177; have a9 := i176; unfold In at a9; have a10 := i104; unfold In at a10; have a11 := t_add e104 ro_109_19 (in_c 160 rfl) rfl; have a12 := (in_c 160 rfl); unfold In at a12; have oc := oc_407_109; omega
                    have n96a : (z270).toInt ≤ (u_109_19).toInt + 160 := by have a0 := h2; unfold In at a0; have a1 := h1; unfold In at a1; have a2 := ro_109_19; unfold In at a2; have a3 := ro_109_18; unfold In at a3; have a4 := i105; unfold In at a4; have a5 := i270; unfold In at a5; have a6 := t_add e270 i105 (in_c 1 rfl) rfl; have a7 := (in_c 1 rfl); unfold In at a7; have a8 := tx_i2l e177; have a9 := i176; unfold In at a9; have a10 := i104; unfold In at a10; have a11 := t_add e104 ro_109_19 (in_c 160 rfl) rfl; have a12 := (in_c 160 rfl); unfold In at a12; have oc := oc_407_109; omega
                    have n96b : NMI (gvZ s) (fun u => (s.2.1 191 u).toInt) (x1).toNatClampNeg (x2).toInt ((z270).toInt - (u_109_19).toInt).toNat ((z270).toInt - (u_109_19).toInt).toNat ((sL (sL (sL (sL (sL sc96 194 (Int32.ofInt 3).toNatClampNeg z135) 194 (Int32.ofInt 4).toNatClampNeg z192) 194 (Int32.ofInt 6).toNatClampNeg z204) 194 (Int32.ofInt 7).toNatClampNeg z179) 194 (Int32.ofInt 8).toNatClampNeg z179).2.1 194) := by rw [show ((z270).toInt - (u_109_19).toInt).toNat = ((y96_3).toInt - (u_109_19).toInt).toNat + 1 from (by have a0 := h2; unfold In at a0; have a1 := h1; unfold In at a1; have a2 := ro_109_19; unfold In at a2; have a3 := ro_109_18; unfold In at a3; have a4 := i105; unfold In at a4; have a5 := i270; unfold In at a5; have a6 := t_add e270 i105 (in_c 1 rfl) rfl; have a7 := (in_c 1 rfl); unfold In at a7; have a8 := tx_i2l e177; have a9 := i176; unfold In at a9; have a10 := i104; unfold In at a10; have a11 := t_add e104 ro_109_19 (in_c 160 rfl) rfl; have a12 := (in_c 160 rfl); unfold In at a12; have oc := oc_407_109; omega)]; have hp : bs s + ((y96_3).toInt - (u_109_19).toInt).toNat = y96_3.toNatClampNeg := (by show (s.2.2.1 109 19).toInt.toNat + _ = y96_3.toInt.toNat; rw [← e_109_19]; have a0 := h2; unfold In at a0; have a1 := h1; unfold In at a1; have a2 := ro_109_19; unfold In at a2; have a3 := ro_109_18; unfold In at a3; have a4 := i105; unfold In at a4; have a5 := i270; unfold In at a5; have a6 := t_add e270 i105 (in_c 1 rfl) rfl; have a7 := (in_c 1 rfl); unfold In at a7; have a8 := tx_i2l e177; have a9 := i176; unfold In at a9; have a10 := i104; unfold In at a10; have a11 := t_add e104 ro_109_19 (in_c 160 rfl) rfl; have a12 := (in_c 160 rfl); unfold In at a12; have oc := oc_407_109; omega); have ha : ((y96_3).toInt - (u_109_19).toInt).toNat < 160 := (by have a0 := h2; unfold In at a0; have a1 := h1; unfold In at a1; have a2 := ro_109_19; unfold In at a2; have a3 := ro_109_18; unfold In at a3; have a4 := i105; unfold In at a4; have a5 := i270; unfold In at a5; have a6 := t_add e270 i105 (in_c 1 rfl) rfl; have a7 := (in_c 1 rfl); unfold In at a7; have a8 := tx_i2l e177; have a9 := i176; unfold In at a9; have a10 := i104; unfold In at a10; have a11 := t_add e104 ro_109_19 (in_c 160 rfl) rfl; have a12 := (in_c 160 rfl); unfold In at a12; have oc := oc_407_109; omega); have rt := (show z113 = s.1 112 (bs s + ((y96_3).toInt - (u_109_19).toInt).toNat) from (by rw [hp, ← hFc96.1 112 rfl]; exact e113)); have rf := (show z122 = s.1 113 (bs s + ((y96_3).toInt - (u_109_19).toInt).toNat) from (by rw [hp, ← hFc96.1 113 rfl]; exact e122)); have ro := (show z151 = s.1 114 (bs s + ((y96_3).toInt - (u_109_19).toInt).toNat) from (by rw [hp, ← hFc96.1 114 rfl]; exact e151)); have ay := arz_y hI ha rt (by have a0 := h2; unfold In at a0; have a1 := h1; unfold In at a1; have a2 := ro_109_19; unfold In at a2; have a3 := ro_109_18; unfold In at a3; have a4 := i105; unfold In at a4; have a5 := i270; unfold In at a5; have a6 := t_add e270 i105 (in_c 1 rfl) rfl; have a7 := (in_c 1 rfl); unfold In at a7; have a8 := tx_i2l e177; have a9 := i176; unfold In at a9; have a10 := i104; unfold In at a10; have a11 := t_add e104 ro_109_19 (in_c 160 rfl) rfl; have a12 := (in_c 160 rfl); unfold In at a12; have oc := oc_407_109; omega); have E0 : ARE (gvZ s) 0 ((y96_3).toInt - (u_109_19).toInt).toNat = (z122).toInt := ay.1.trans (by rw [← rf]; exact clx i122.1); have E1 : ARE (gvZ s) 1 ((y96_3).toInt - (u_109_19).toInt).toNat = (z151).toInt := ay.2.trans (by rw [← ro]; exact clx i151.1); have vx := (show (((x1).toNatClampNeg : Nat) : Int) = (x1).toInt from clx (by have a0 := h2; unfold In at a0; have a1 := h1; unfold In at a1; have a2 := ro_109_19; unfold In at a2; have a3 := ro_109_18; unfold In at a3; have a4 := i105; unfold In at a4; have a5 := i270; unfold In at a5; have a6 := t_add e270 i105 (in_c 1 rfl) rfl; have a7 := (in_c 1 rfl); unfold In at a7; have a8 := tx_i2l e177; have a9 := i176; unfold In at a9; have a10 := i104; unfold In at a10; have a11 := t_add e104 ro_109_19 (in_c 160 rfl) rfl; have a12 := (in_c 160 rfl); unfold In at a12; have oc := oc_407_109; omega)); have fz : ((gvZ s).2.1 ((y96_3).toInt - (u_109_19).toInt).toNat).toInt = (z122).toInt := (are_f ha rfl).symm.trans E0; have rw_ := (show z176 = s.1 115 (bs s + ((y96_3).toInt - (u_109_19).toInt).toNat) from (by rw [hp, ← hFc96.1 115 rfl]; exact e176)); have hF9 : (z166).toInt = vlF (gvZ s) (fun u => (s.2.1 191 u).toInt) ((y96_3).toInt - (u_109_19).toInt).toNat := (by unfold vlF; rw [fz]; exact congrArg Int64.toInt (e166.trans (congrFun (hFc96.2.1 191 rfl) _))); have hB := (vlf_b (ndq_z hI) (show XBD (gvZ s).2.2.2.2.2.2.1 (fun u => (s.2.1 191 u).toInt) from (by rw [gvz_n hI]; exact q_0)) ha E1 (by have a0 := h2; unfold In at a0; have a1 := h1; unfold In at a1; have a2 := ro_109_19; unfold In at a2; have a3 := ro_109_18; unfold In at a3; have a4 := i105; unfold In at a4; have a5 := i270; unfold In at a5; have a6 := t_add e270 i105 (in_c 1 rfl) rfl; have a7 := (in_c 1 rfl); unfold In at a7; have a8 := tx_i2l e177; have a9 := i176; unfold In at a9; have a10 := i104; unfold In at a10; have a11 := t_add e104 ro_109_19 (in_c 160 rfl) rfl; have a12 := (in_c 160 rfl); unfold In at a12; have oc := oc_407_109; omega)).1; rw [← hF9] at hB; unfold BD at hB; have hW9 : (z179).toInt = vlW (gvZ s) (fun u => (s.2.1 191 u).toInt) ((y96_3).toInt - (u_109_19).toInt).toNat := (by have t77 := tx_i2l e177; have t78 : z178.toInt = z166.toInt + z177.toInt := ladd_t e178 (by have a0 := h2; unfold In at a0; have a1 := h1; unfold In at a1; have a2 := ro_109_19; unfold In at a2; have a3 := ro_109_18; unfold In at a3; have a4 := i105; unfold In at a4; have a5 := i270; unfold In at a5; have a6 := t_add e270 i105 (in_c 1 rfl) rfl; have a7 := (in_c 1 rfl); unfold In at a7; have a8 := tx_i2l e177; have a9 := i176; unfold In at a9; have a10 := i104; unfold In at a10; have a11 := t_add e104 ro_109_19 (in_c 160 rfl) rfl; have a12 := (in_c 160 rfl); unfold In at a12; have oc := oc_407_109; omega) (by have a0 := h2; unfold In at a0; have a1 := h1; unfold In at a1; have a2 := ro_109_19; unfold In at a2; have a3 := ro_109_18; unfold In at a3; have a4 := i105; unfold In at a4; have a5 := i270; unfold In at a5; have a6 := t_add e270 i105 (in_c 1 rfl) rfl; have a7 := (in_c 1 rfl); unfold In at a7; have a8 := tx_i2l e177; have a9 := i176; unfold In at a9; have a10 := i104; unfold In at a10; have a11 := t_add e104 ro_109_19 (in_c 160 rfl) rfl; have a12 := (in_c 160 rfl); unfold In at a12; have oc := oc_407_109; omega); unfold vlW; rw [p179, t78, t77, hF9, gvz_w hI, rw_]); simp only [sL_v]; exact nmi_4h (nmi_3h g96_0 ha (by rw [E0, vx]; have a0 := h2; unfold In at a0; have a1 := h1; unfold In at a1; have a2 := ro_109_19; unfold In at a2; have a3 := ro_109_18; unfold In at a3; have a4 := i105; unfold In at a4; have a5 := i270; unfold In at a5; have a6 := t_add e270 i105 (in_c 1 rfl) rfl; have a7 := (in_c 1 rfl); unfold In at a7; have a8 := tx_i2l e177; have a9 := i176; unfold In at a9; have a10 := i104; unfold In at a10; have a11 := t_add e104 ro_109_19 (in_c 160 rfl) rfl; have a12 := (in_c 160 rfl); unfold In at a12; have oc := oc_407_109; omega) e133 e135) ha (ndq_z hI) (show XBD (gvZ s).2.2.2.2.2.2.1 (fun u => (s.2.1 191 u).toInt) from (by rw [gvz_n hI]; exact q_0)) (by rw [E1, vx]; have a0 := h2; unfold In at a0; have a1 := h1; unfold In at a1; have a2 := ro_109_19; unfold In at a2; have a3 := ro_109_18; unfold In at a3; have a4 := i105; unfold In at a4; have a5 := i270; unfold In at a5; have a6 := t_add e270 i105 (in_c 1 rfl) rfl; have a7 := (in_c 1 rfl); unfold In at a7; have a8 := tx_i2l e177; have a9 := i176; unfold In at a9; have a10 := i104; unfold In at a10; have a11 := t_add e104 ro_109_19 (in_c 160 rfl) rfl; have a12 := (in_c 160 rfl); unfold In at a12; have oc := oc_407_109; omega) e190 e192 e201 e204 hF9 hW9 e220 (by first | exact (congrArg Int64.toInt (e236.trans e220.symm)).trans (mnv_1 (by have a0 := h2; unfold In at a0; have a1 := h1; unfold In at a1; have a2 := ro_109_19; unfold In at a2; have a3 := ro_109_18; unfold In at a3; have a4 := i105; unfold In at a4; have a5 := i270; unfold In at a5; have a6 := t_add e270 i105 (in_c 1 rfl) rfl; have a7 := (in_c 1 rfl); unfold In at a7; have a8 := tx_i2l e177; have a9 := i176; unfold In at a9; have a10 := i104; unfold In at a10; have a11 := t_add e104 ro_109_19 (in_c 160 rfl) rfl; have a12 := (in_c 160 rfl); unfold In at a12; have oc := oc_407_109; omega)).symm | exact (mnv_2 (by have a0 := h2; unfold In at a0; have a1 := h1; unfold In at a1; have a2 := ro_109_19; unfold In at a2; have a3 := ro_109_18; unfold In at a3; have a4 := i105; unfold In at a4; have a5 := i270; unfold In at a5; have a6 := t_add e270 i105 (in_c 1 rfl) rfl; have a7 := (in_c 1 rfl); unfold In at a7; have a8 := tx_i2l e177; have a9 := i176; unfold In at a9; have a10 := i104; unfold In at a10; have a11 := t_add e104 ro_109_19 (in_c 160 rfl) rfl; have a12 := (in_c 160 rfl); unfold In at a12; have oc := oc_407_109; omega)).symm) e252 (by first | exact (congrArg Int64.toInt (e268.trans e252.symm)).trans (mxv_1 (by have a0 := h2; unfold In at a0; have a1 := h1; unfold In at a1; have a2 := ro_109_19; unfold In at a2; have a3 := ro_109_18; unfold In at a3; have a4 := i105; unfold In at a4; have a5 := i270; unfold In at a5; have a6 := t_add e270 i105 (in_c 1 rfl) rfl; have a7 := (in_c 1 rfl); unfold In at a7; have a8 := tx_i2l e177; have a9 := i176; unfold In at a9; have a10 := i104; unfold In at a10; have a11 := t_add e104 ro_109_19 (in_c 160 rfl) rfl; have a12 := (in_c 160 rfl); unfold In at a12; have oc := oc_407_109; omega)).symm | exact (mxv_2 (by have a0 := h2; unfold In at a0; have a1 := h1; unfold In at a1; have a2 := ro_109_19; unfold In at a2; have a3 := ro_109_18; unfold In at a3; have a4 := i105; unfold In at a4; have a5 := i270; unfold In at a5; have a6 := t_add e270 i105 (in_c 1 rfl) rfl; have a7 := (in_c 1 rfl); unfold In at a7; have a8 := tx_i2l e177; have a9 := i176; unfold In at a9; have a10 := i104; unfold In at a10; have a11 := t_add e104 ro_109_19 (in_c 160 rfl) rfl; have a12 := (in_c 160 rfl); unfold In at a12; have oc := oc_407_109; omega)).symm)
                    exact gg_w (by omega) (gg_f (gf_cons rfl (gf_cons rfl (gf_cons rfl (gf_cons rfl gf_nil)))) (ih96 (sL (sL (sL (sL (sL sc96 194 (Int32.ofInt 3).toNatClampNeg z135) 194 (Int32.ofInt 4).toNatClampNeg z192) 194 (Int32.ofInt 6).toNatClampNeg z204) 194 (Int32.ofInt 7).toNatClampNeg z179) 194 (Int32.ofInt 8).toNatClampNeg z179) z270 hI269 (fr_sL rfl (fr_sL rfl (fr_sL rfl (fr_sL rfl (fr_sL rfl hFc96))))) (in_w 0 400 i270 rfl) n96 n96a n96b (m_up mm96 (t_add e270 i105 (in_c 1 rfl) rfl) (in_w 1 1 (in_c 1 rfl) rfl))))
  refine g_enter2 (k := 407) (N := 361801) (by omega) rfl (Nat.le_of_ble_eq_true rfl) ?_
  refine g_aload_n 1 (gd rfl) rfl rfl ?_
  refine g_getA (q2 := 194) 4 (gd rfl) rfl rfl rfl rfl ?_
  refine g_iconst 0 5 (gd rfl) rfl rfl ?_
  refine g_aload_n 6 (gd rfl) rfl rfl ?_
  refine g_getA (q2 := 191) 9 (gd rfl) rfl rfl rfl rfl ?_
  refine g_iload_n 10 (gd rfl) rfl rfl ?_
  refine g_laload 11 (gd rfl) rfl (n := 32) rfl (in_ix h1 rfl) (fun z10 e10 => ?_)
  refine g_lastore 12 (gd rfl) rfl (n := 9) rfl (in_ix (in_c 0 rfl) rfl) ?_
  have hI11 := inv_sL (q := 194) (j := (Int32.ofInt 0).toNatClampNeg) (x := z10) hI rfl (l_rng z10)
  refine g_aload_n 13 (gd rfl) rfl rfl ?_
  refine g_getA (q2 := 194) 16 (gd rfl) rfl rfl rfl rfl ?_
  refine g_iconst 1 17 (gd rfl) rfl rfl ?_
  refine g_iload_n 18 (gd rfl) rfl rfl ?_
  refine g_i2l 19 (gd rfl) rfl (fun z18 e18 => ?_)
  have i18 := l_i e18 h1
  refine g_lastore 20 (gd rfl) rfl (n := 9) rfl (in_ix (in_c 1 rfl) rfl) ?_
  have hI19 := inv_sL (q := 194) (j := (Int32.ofInt 1).toNatClampNeg) (x := z18) hI11 rfl (l_rng z18)
  refine g_aload_n 21 (gd rfl) rfl rfl ?_
  refine g_getA (q2 := 194) 24 (gd rfl) rfl rfl rfl rfl ?_
  refine g_iconst 2 25 (gd rfl) rfl rfl ?_
  refine g_aload_n 26 (gd rfl) rfl rfl ?_
  refine g_getA (q2 := 111) 29 (gd rfl) rfl rfl rfl rfl ?_
  refine g_bipush 32 31 (gd rfl) rfl rfl ?_
  refine g_aload_n 32 (gd rfl) rfl rfl ?_
  refine g_getI 35 (gd rfl) rfl rfl rfl (fun z32 e32 => ?_)
  have q32 : u_109_18 = z32 := (sL_F (sL_F (e_109_18))).trans e32.symm
  subst q32
  refine g_imul 36 (gd rfl) rfl (fun z35 e35 => ?_)
  have i35 := in_mulc 32 0 32 (Or.inl e35) ro_109_18 rfl rfl
  refine g_iload_n 37 (gd rfl) rfl rfl ?_
  refine g_iadd 38 (gd rfl) rfl (fun z37 e37 => ?_)
  have i37 := in_add 0 63 e37 i35 h1 rfl rfl
  refine g_iaload 39 (gd rfl) rfl (n := 96) rfl (in_ix i37 rfl) (fun z38 e38 => ?_)
  have i38 := inv_I hI19 (n := 96) (t := 0) 0 25 rfl (in_ix i37 rfl) rfl e38
  refine g_i2l 40 (gd rfl) rfl (fun z39 e39 => ?_)
  have i39 := l_i e39 i38
  refine g_lastore 41 (gd rfl) rfl (n := 9) rfl (in_ix (in_c 2 rfl) rfl) ?_
  have hI40 := inv_sL (q := 194) (j := (Int32.ofInt 2).toNatClampNeg) (x := z39) hI19 rfl (l_rng z39)
  refine g_aload_n 42 (gd rfl) rfl rfl ?_
  refine g_getA (q2 := 194) 45 (gd rfl) rfl rfl rfl rfl ?_
  refine g_iconst 3 46 (gd rfl) rfl rfl ?_
  refine g_lconst 0 47 (gd rfl) rfl rfl ?_
  refine g_lastore 48 (gd rfl) rfl (n := 9) rfl (in_ix (in_c 3 rfl) rfl) ?_
  have hI47 := inv_sL (q := 194) (j := (Int32.ofInt 3).toNatClampNeg) (x := (Int64.ofInt 0)) hI40 rfl (l_rng (Int64.ofInt 0))
  refine g_aload_n 49 (gd rfl) rfl rfl ?_
  refine g_getA (q2 := 194) 52 (gd rfl) rfl rfl rfl rfl ?_
  refine g_iconst 4 53 (gd rfl) rfl rfl ?_
  refine g_lconst 0 54 (gd rfl) rfl rfl ?_
  refine g_lastore 55 (gd rfl) rfl (n := 9) rfl (in_ix (in_c 4 rfl) rfl) ?_
  have hI54 := inv_sL (q := 194) (j := (Int32.ofInt 4).toNatClampNeg) (x := (Int64.ofInt 0)) hI47 rfl (l_rng (Int64.ofInt 0))
  refine g_aload_n 56 (gd rfl) rfl rfl ?_
  refine g_getA (q2 := 194) 59 (gd rfl) rfl rfl rfl rfl ?_
  refine g_iconst 5 60 (gd rfl) rfl rfl ?_
  refine g_iload_n 61 (gd rfl) rfl rfl ?_
  refine g_i2l 62 (gd rfl) rfl (fun z61 e61 => ?_)
  have i61 := l_i e61 h2
  refine g_lastore 63 (gd rfl) rfl (n := 9) rfl (in_ix (in_c 5 rfl) rfl) ?_
  have hI62 := inv_sL (q := 194) (j := (Int32.ofInt 5).toNatClampNeg) (x := z61) hI54 rfl (l_rng z61)
  refine g_aload_n 64 (gd rfl) rfl rfl ?_
  refine g_getA (q2 := 194) 67 (gd rfl) rfl rfl rfl rfl ?_
  refine g_bipush 6 69 (gd rfl) rfl rfl ?_
  refine g_lconst 0 70 (gd rfl) rfl rfl ?_
  refine g_lastore 71 (gd rfl) rfl (n := 9) rfl (in_ix (in_c 6 rfl) rfl) ?_
  have hI70 := inv_sL (q := 194) (j := (Int32.ofInt 6).toNatClampNeg) (x := (Int64.ofInt 0)) hI62 rfl (l_rng (Int64.ofInt 0))
  refine g_aload_n 72 (gd rfl) rfl rfl ?_
  refine g_getA (q2 := 194) 75 (gd rfl) rfl rfl rfl rfl ?_
  refine g_bipush 7 77 (gd rfl) rfl rfl ?_
  refine g_ldc2_w 1000000000000 80 (gd rfl) rfl rfl ?_
  refine g_lastore 81 (gd rfl) rfl (n := 9) rfl (in_ix (in_c 7 rfl) rfl) ?_
  have hI80 := inv_sL (q := 194) (j := (Int32.ofInt 7).toNatClampNeg) (x := (Int64.ofInt 1000000000000)) hI70 rfl (l_rng (Int64.ofInt 1000000000000))
  refine g_aload_n 82 (gd rfl) rfl rfl ?_
  refine g_getA (q2 := 194) 85 (gd rfl) rfl rfl rfl rfl ?_
  refine g_bipush 8 87 (gd rfl) rfl rfl ?_
  refine g_ldc2_w (-1000000000000) 90 (gd rfl) rfl rfl ?_
  refine g_lastore 91 (gd rfl) rfl (n := 9) rfl (in_ix (in_c 8 rfl) rfl) ?_
  have hI90 := inv_sL (q := 194) (j := (Int32.ofInt 8).toNatClampNeg) (x := (Int64.ofInt (-1000000000000))) hI80 rfl (l_rng (Int64.ofInt (-1000000000000)))
  refine g_aload_n 92 (gd rfl) rfl rfl ?_
  refine g_getI 95 (gd rfl) rfl rfl rfl (fun z92 e92 => ?_)
  have q92 : u_109_19 = z92 := (sL_F (sL_F (sL_F (sL_F (sL_F (sL_F (sL_F (sL_F (sL_F (e_109_19)))))))))).trans e92.symm
  subst q92
  refine g_istore_n 96 (gd rfl) rfl (Nat.le_of_ble_eq_true rfl) ?_
  have n96 : (u_109_19).toInt ≤ (u_109_19).toInt := by have a0 := ro_109_19; unfold In at a0; have a1 := ro_109_18; unfold In at a1; have a2 := h2; unfold In at a2; have a3 := h1; unfold In at a3; have a4 := tx_i2l e61; have a5 := tx_i2l e39; have a6 := i38; unfold In at a6; have a7 := i37; unfold In at a7; have a8 := t_add e37 i35 h1 rfl; have a9 := i35; unfold In at a9; have a10 := (t_mulc 32 (Or.inl e35) ro_109_18 rfl).1; have a11 := tx_i2l e18; have oc := oc_407_109; omega
  have n96a : (u_109_19).toInt ≤ (u_109_19).toInt + 160 := by have a0 := ro_109_19; unfold In at a0; have a1 := ro_109_18; unfold In at a1; have a2 := h2; unfold In at a2; have a3 := h1; unfold In at a3; have a4 := tx_i2l e61; have a5 := tx_i2l e39; have a6 := i38; unfold In at a6; have a7 := i37; unfold In at a7; have a8 := t_add e37 i35 h1 rfl; have a9 := i35; unfold In at a9; have a10 := (t_mulc 32 (Or.inl e35) ro_109_18 rfl).1; have a11 := tx_i2l e18; have oc := oc_407_109; omega
  have n96b : NMI (gvZ s) (fun u => (s.2.1 191 u).toInt) (x1).toNatClampNeg (x2).toInt ((u_109_19).toInt - (u_109_19).toInt).toNat ((u_109_19).toInt - (u_109_19).toInt).toNat ((sL (sL (sL (sL (sL (sL (sL (sL (sL s 194 (Int32.ofInt 0).toNatClampNeg z10) 194 (Int32.ofInt 1).toNatClampNeg z18) 194 (Int32.ofInt 2).toNatClampNeg z39) 194 (Int32.ofInt 3).toNatClampNeg (Int64.ofInt 0)) 194 (Int32.ofInt 4).toNatClampNeg (Int64.ofInt 0)) 194 (Int32.ofInt 5).toNatClampNeg z61) 194 (Int32.ofInt 6).toNatClampNeg (Int64.ofInt 0)) 194 (Int32.ofInt 7).toNatClampNeg (Int64.ofInt 1000000000000)) 194 (Int32.ofInt 8).toNatClampNeg (Int64.ofInt (-1000000000000))).2.1 194) := by rw [show ((u_109_19).toInt - (u_109_19).toInt).toNat = 0 from (by omega)]; simp only [sL_v]; exact nmi_0 (congrArg Int64.toInt e10) ((tx_i2l e18).trans (show (((x1).toNatClampNeg : Nat) : Int) = (x1).toInt from clx (by have a0 := ro_109_19; unfold In at a0; have a1 := ro_109_18; unfold In at a1; have a2 := h2; unfold In at a2; have a3 := h1; unfold In at a3; have a4 := tx_i2l e61; have a5 := tx_i2l e39; have a6 := i38; unfold In at a6; have a7 := i37; unfold In at a7; have a8 := t_add e37 i35 h1 rfl; have a9 := i35; unfold In at a9; have a10 := (t_mulc 32 (Or.inl e35) ro_109_18 rfl).1; have a11 := tx_i2l e18; have oc := oc_407_109; omega)).symm) ((tx_i2l e39).trans (congrArg Int32.toInt (e38.trans (congrArg (s.1 111) (show (z37).toInt.toNat = 32 * (s.2.2.1 109 18).toInt.toNat + (x1).toInt.toNat from (by rw [← e_109_18]; have a0 := ro_109_19; unfold In at a0; have a1 := ro_109_18; unfold In at a1; have a2 := h2; unfold In at a2; have a3 := h1; unfold In at a3; have a4 := tx_i2l e61; have a5 := tx_i2l e39; have a6 := i38; unfold In at a6; have a7 := i37; unfold In at a7; have a8 := t_add e37 i35 h1 rfl; have a9 := i35; unfold In at a9; have a10 := (t_mulc 32 (Or.inl e35) ro_109_18 rfl).1; have a11 := tx_i2l e18; have oc := oc_407_109; omega)))))) rfl rfl (tx_i2l e61) rfl rfl rfl
  exact gg_w (by omega) (gg_f (gf_cons rfl (gf_cons rfl (gf_cons rfl (gf_cons rfl gf_nil)))) (ct96 401 (sL (sL (sL (sL (sL (sL (sL (sL (sL s 194 (Int32.ofInt 0).toNatClampNeg z10) 194 (Int32.ofInt 1).toNatClampNeg z18) 194 (Int32.ofInt 2).toNatClampNeg z39) 194 (Int32.ofInt 3).toNatClampNeg (Int64.ofInt 0)) 194 (Int32.ofInt 4).toNatClampNeg (Int64.ofInt 0)) 194 (Int32.ofInt 5).toNatClampNeg z61) 194 (Int32.ofInt 6).toNatClampNeg (Int64.ofInt 0)) 194 (Int32.ofInt 7).toNatClampNeg (Int64.ofInt 1000000000000)) 194 (Int32.ofInt 8).toNatClampNeg (Int64.ofInt (-1000000000000))) u_109_19 hI90 (fr_sL rfl (fr_sL rfl (fr_sL rfl (fr_sL rfl (fr_sL rfl (fr_sL rfl (fr_sL rfl (fr_sL rfl (fr_sL rfl fr_rf))))))))) (in_w 0 400 ro_109_19 rfl) n96 n96a n96b (m_in 401 (in_w 0 400 ro_109_19 rfl) rfl)))
/-! FUNCTIONAL CONTRACTS, by fgen.py -/
theorem oc_408_109 : (Int32.ofInt (-1)).toInt = (-1) ∧ (Int32.ofInt 0).toInt = 0 ∧ (Int32.ofInt 1).toInt = 1 ∧ (Int32.ofInt 2).toInt = 2 ∧ (Int32.ofInt 42).toInt = 42 ∧ (Int32.ofInt 43).toInt = 43 ∧ (Int32.ofInt 45).toInt = 45 ∧ (Int32.ofInt 60).toInt = 60 ∧ (Int64.ofInt 0).toInt = 0 ∧ (Int64.ofInt 1).toInt = 1 := ⟨rfl, rfl, rfl, rfl, rfl, rfl, rfl, rfl, rfl, rfl⟩
set_option maxHeartbeats 4000000 in
/-- GraphHouseModel.workOut -/
theorem f_408 {Z : AmZ} {A : Nat → Nat} {s : GS} {ex : va_W} {d : Nat} {X : AmX} {x1 : Int32} (hd : 2 ≤ d) (hI : Inv s) (h1 : In x1 0 1) (q_0 : VBD (s.2.1 194)) (q_1 : POK s) (q_2 : RPC s) : GC Z d 408 [.ref (A 109), .int x1] (WW Z A s ++ ex) 0 0 (fun v u => ∃ t : GS, Inv t ∧ Fr fm_408 s t ∧ ∃ z : Int64, v = some (.long z) ∧ u = WW Z A t ++ ex ∧ ((z).toInt = EVP (fun j => rcd (s.1 184 j).toInt (s.1 185 j).toInt) (fun j => (s.2.1 194 j).toInt) (wa s x1) ((s.1 186 ((x1).toInt + 1).toNat)).toInt.toNat)) X := by
  intro post xp hP hX
  have ct17 : ∀ (k17 : Nat) (sc17 : GS) (y17_2 : Int32) (y17_3 : Int32), Inv sc17 → Fr fm_408 s sc17 → (In y17_2 0 120) → (In y17_3 0 120) → ((y17_2).toInt ≤ (y17_3).toInt) → (WS sc17 x1 y17_3 y17_2) → (EVI (fun j => rcd (s.1 184 j).toInt (s.1 185 j).toInt) (fun j => (s.2.1 194 j).toInt) ((wa s x1 : Nat) : Int) (y17_3).toInt (y17_2).toInt (sc17.2.1 193)) → ((y17_3).toInt ≤ ((s.1 186 ((x1).toInt + 1).toNat)).toInt) → 120 - (y17_3).toInt < (k17 : Int) → GG Z (d - 1) 408 post (gx xp) (1 + k17 * 900) 17 (fun j => xlook j [(0, .ref (A 109)), (1, .int x1), (2, .int y17_2), (3, .int y17_3)]) [] (WW Z A sc17 ++ ex) 0 0 := by
    intro k17
    induction k17 with
    | zero => intro sc17 y17_2 y17_3 hIc17 hFc17 j17_2 j17_3 n17_0 g17_0 g17_1 g17_2 mm17; exact m_no mm17 j17_3 rfl
    | succ k17 ih17 =>
      intro sc17 y17_2 y17_3 hIc17 hFc17 j17_2 j17_3 n17_0 g17_0 g17_1 g17_2 mm17
      refine gg_w (M := 1 + k17 * 900 + 900) (by omega) ?_
      refine g_iload_n 18 (gd rfl) rfl rfl ?_
      refine g_aload_n 19 (gd rfl) rfl rfl ?_
      refine g_getA (q2 := 186) 22 (gd rfl) rfl rfl rfl rfl ?_
      refine g_iload_n 23 (gd rfl) rfl rfl ?_
      refine g_iconst 1 24 (gd rfl) rfl rfl ?_
      refine g_iadd 25 (gd rfl) rfl (fun z24 e24 => ?_)
      have i24 := in_add 1 2 e24 h1 (in_c 1 rfl) rfl rfl
      refine g_iaload 26 (gd rfl) rfl (n := 3) rfl (in_ix i24 rfl) (fun z25 e25 => ?_)
      have i25 := inv_I hIc17 (n := 3) (t := 0) 0 120 rfl (in_ix i24 rfl) rfl e25
      refine g_cmp_ge 29 232 (gd rfl) rfl rfl (fun c26 => ?_) (fun c26 => ?_)
      · skip
        refine g_aload_n 233 (gd rfl) rfl rfl ?_
        refine g_getA (q2 := 193) 236 (gd rfl) rfl rfl rfl rfl ?_
        refine g_iconst 0 237 (gd rfl) rfl rfl ?_
        refine g_laload 238 (gd rfl) rfl (n := 200) rfl (in_ix (in_c 0 rfl) rfl) (fun z237 e237 => ?_)
        have n238 : (z237).toInt = EVP (fun j => rcd (s.1 184 j).toInt (s.1 185 j).toInt) (fun j => (s.2.1 194 j).toInt) (wa s x1) ((s.1 186 ((x1).toInt + 1).toNat)).toInt.toNat := by have he : z25 = (s.1 186 ((x1).toInt + 1).toNat) := (e25.trans ((congrFun (hFc17.1 186 rfl) _).trans (congrArg (s.1 186) (show (z24).toInt.toNat = ((x1).toInt + 1).toNat from (by rw [show (z24).toInt = (x1).toInt + 1 from (by have a0 := h1; unfold In at a0; have a1 := j17_3; unfold In at a1; have a2 := j17_2; unfold In at a2; have a3 := i24; unfold In at a3; have a4 := t_add e24 h1 (in_c 1 rfl) rfl; have a5 := (in_c 1 rfl); unfold In at a5; have oc := oc_408_109; omega)]))))); have h9 := g17_2; have h8 := c26; rw [he] at h8; have hie : ((s.1 186 ((x1).toInt + 1).toNat)).toInt = (y17_3).toInt := (by omega); rw [hie]; have hlt : ((wa s x1 : Nat) : Int) < (y17_3).toInt := (by rw [← hie]; unfold wa; by_cases hx : (x1).toInt = 0; (rw [if_pos hx, hx]; exact q_2.1); (rw [if_neg hx, show ((x1).toInt + 1).toNat = 2 from (by have a0 := h1; unfold In at a0; have a1 := j17_3; unfold In at a1; have a2 := j17_2; unfold In at a2; have a3 := i24; unfold In at a3; have a4 := t_add e24 h1 (in_c 1 rfl) rfl; have a5 := (in_c 1 rfl); unfold In at a5; have oc := oc_408_109; omega)]; have h7 := q_2.1; have h6 := q_2.2; show (((s.1 186 1).toInt.toNat : Nat) : Int) < _; omega)); have r9 := evi_e g17_1 hlt e237; rw [Int.toNat_natCast] at r9; exact r9
        exact g_lreturn (gd rfl) rfl (hP _ _ ⟨sc17, hIc17, hFc17, z237, rfl, rfl, n238⟩)
      · skip
        have i26 := r_lt1 0 119 c26 j17_3 i25 rfl
        have i26a := r_lt2 1 120 c26 j17_3 i25 rfl
        refine g_aload_n 30 (gd rfl) rfl rfl ?_
        refine g_getA (q2 := 184) 33 (gd rfl) rfl rfl rfl rfl ?_
        refine g_iload_n 34 (gd rfl) rfl rfl ?_
        refine g_iaload 35 (gd rfl) rfl (n := 400) rfl (in_ix i26 rfl) (fun z34 e34 => ?_)
        refine g_istore 37 (gd rfl) rfl (Nat.le_of_ble_eq_true rfl) ?_
        obtain ⟨kn, hk1, hk2⟩ := ws_ok hIc17 h1 g17_0 e34 (t_add e24 h1 (in_c 1 rfl) rfl) e25 c26; have hkle := ws_le g17_0; have hk0 := g17_0.1
        refine g_iload 39 (gd rfl) rfl rfl ?_
        refine g_iconst 2 40 (gd rfl) rfl rfl ?_
        refine g_cmp_ge 43 81 (gd rfl) rfl rfl (fun c40 => ?_) (fun c40 => ?_)
        · skip
          have i40 := r_le2 2 2147483647 c40 (in_c 2 rfl) (i_rng z34) rfl
          refine g_iload 83 (gd rfl) rfl rfl ?_
          refine g_iconst 2 84 (gd rfl) rfl rfl ?_
          refine g_cmp_ne 87 110 (gd rfl) rfl rfl (fun c84 => ?_) (fun c84 => ?_)
          · skip
            have i84 := r_ne1 3 2147483647 c84 i40 (in_c 2 rfl) rfl
            have hk3 := hs_3 hk1 (by have a0 := h1; unfold In at a0; have a1 := i26; unfold In at a1; have a2 := j17_2; unfold In at a2; have a3 := i84; unfold In at a3; have a4 := i24; unfold In at a4; have a5 := t_add e24 h1 (in_c 1 rfl) rfl; have a6 := (in_c 1 rfl); unfold In at a6; have oc := oc_408_109; omega) c84
            refine g_iinc 113 (gd rfl) rfl rfl (Nat.le_of_ble_eq_true rfl) (fun z110 e110 => ?_)
            have i110 := in_add (-1) 119 e110 j17_2 (in_c (-1) rfl) rfl rfl
            refine g_aload_n 114 (gd rfl) rfl rfl ?_
            refine g_getA (q2 := 193) 117 (gd rfl) rfl rfl rfl rfl ?_
            refine g_iload_n 118 (gd rfl) rfl rfl ?_
            refine g_iconst 1 119 (gd rfl) rfl rfl ?_
            refine g_isub 120 (gd rfl) rfl (fun z119 e119 => ?_)
            have i119 := in_sub (-2) 118 e119 i110 (in_c 1 rfl) rfl rfl
            have i120 : In z119 0 199 := by have a0 := h1; unfold In at a0; have a1 := i26; unfold In at a1; have a2 := j17_2; unfold In at a2; have a3 := i84; unfold In at a3; have a4 := i110; unfold In at a4; have a5 := t_add e110 j17_2 (in_c (-1) rfl) rfl; have a6 := (in_c (-1) rfl); unfold In at a6; have a7 := i119; unfold In at a7; have a8 := t_sub e119 i110 (in_c 1 rfl) rfl; have a9 := (in_c 1 rfl); unfold In at a9; have a10 := i24; unfold In at a10; have a11 := t_add e24 h1 (in_c 1 rfl) rfl; have oc := oc_408_109; exact ⟨by omega, by omega⟩
            refine g_laload 121 (gd rfl) rfl (n := 200) rfl (in_ix i120 rfl) (fun z120 e120 => ?_)
            refine g_lstore 123 (gd rfl) rfl (Nat.le_of_ble_eq_true rfl) ?_
            refine g_aload_n 124 (gd rfl) rfl rfl ?_
            refine g_getA (q2 := 193) 127 (gd rfl) rfl rfl rfl rfl ?_
            refine g_iload_n 128 (gd rfl) rfl rfl ?_
            have i128 : In z110 0 199 := by have a0 := h1; unfold In at a0; have a1 := i26; unfold In at a1; have a2 := j17_2; unfold In at a2; have a3 := i84; unfold In at a3; have a4 := i110; unfold In at a4; have a5 := t_add e110 j17_2 (in_c (-1) rfl) rfl; have a6 := (in_c (-1) rfl); unfold In at a6; have a7 := i120; unfold In at a7; have a8 := t_sub e119 i110 (in_c 1 rfl) rfl; have a9 := (in_c 1 rfl); unfold In at a9; have a10 := i24; unfold In at a10; have a11 := t_add e24 h1 (in_c 1 rfl) rfl; have oc := oc_408_109; exact ⟨by omega, by omega⟩
            refine g_laload 129 (gd rfl) rfl (n := 200) rfl (in_ix i128 rfl) (fun z128 e128 => ?_)
            refine g_lstore 131 (gd rfl) rfl (Nat.le_of_ble_eq_true rfl) ?_
            refine g_aload_n 132 (gd rfl) rfl rfl ?_
            refine g_getA (q2 := 193) 135 (gd rfl) rfl rfl rfl rfl ?_
            refine g_iload_n 136 (gd rfl) rfl rfl ?_
            refine g_iconst 1 137 (gd rfl) rfl rfl ?_
            refine g_isub 138 (gd rfl) rfl (fun z137 e137 => ?_)
            have i137 := in_sub (-1) 198 e137 i128 (in_c 1 rfl) rfl rfl
            refine g_iload 140 (gd rfl) rfl rfl ?_
            refine g_bipush 42 142 (gd rfl) rfl rfl ?_
            refine g_cmp_ne 145 158 (gd rfl) rfl rfl (fun c142 => ?_) (fun c142 => ?_)
            · skip
              refine g_iload 160 (gd rfl) rfl rfl ?_
              refine g_bipush 43 162 (gd rfl) rfl rfl ?_
              refine g_cmp_ne 165 176 (gd rfl) rfl rfl (fun c162 => ?_) (fun c162 => ?_)
              · skip
                refine g_iload 178 (gd rfl) rfl rfl ?_
                refine g_bipush 45 180 (gd rfl) rfl rfl ?_
                refine g_cmp_ne 183 194 (gd rfl) rfl rfl (fun c180 => ?_) (fun c180 => ?_)
                · skip
                  refine g_iload 196 (gd rfl) rfl rfl ?_
                  refine g_bipush 60 198 (gd rfl) rfl rfl ?_
                  refine g_cmp_ne 201 212 (gd rfl) rfl rfl (fun c198 => ?_) (fun c198 => ?_)
                  · skip
                    refine g_lload 214 (gd rfl) rfl rfl ?_
                    refine g_lload 216 (gd rfl) rfl rfl ?_
                    refine g_lcmp 217 (gd rfl) rfl (fun z216 e216 => ?_)
                    have i216 := lc_in e216
                    refine g_if_ne 220 224 (gd rfl) rfl rfl (fun c217 => ?_) (fun c217 => ?_)
                    · skip
                      have c217a := lc_ne e216 c217
                      refine g_lconst 0 225 (gd rfl) rfl rfl ?_
                      have i225 : In z137 0 199 := by have a0 := h1; unfold In at a0; have a1 := i26; unfold In at a1; have a2 := j17_2; unfold In at a2; have a3 := i84; unfold In at a3; have a4 := i128; unfold In at a4; have a5 := t_add e110 j17_2 (in_c (-1) rfl) rfl; have a6 := (in_c (-1) rfl); unfold In at a6; have a7 := i137; unfold In at a7; have a8 := t_sub e137 i128 (in_c 1 rfl) rfl; have a9 := (in_c 1 rfl); unfold In at a9; have a10 := i120; unfold In at a10; have a11 := t_sub e119 i110 (in_c 1 rfl) rfl; have a12 := i24; unfold In at a12; have a13 := t_add e24 h1 (in_c 1 rfl) rfl; have oc := oc_408_109; exact ⟨by omega, by omega⟩
                      refine g_lastore 226 (gd rfl) rfl (n := 200) rfl (in_ix i225 rfl) ?_
                      have hI225 := inv_sL (q := 193) (j := z137.toNatClampNeg) (x := (Int64.ofInt 0)) hIc17 rfl (l_rng (Int64.ofInt 0))
                      refine g_iinc 229 (gd rfl) rfl rfl (Nat.le_of_ble_eq_true rfl) (fun z226 e226 => ?_)
                      have i226 := in_add 1 120 e226 i26 (in_c 1 rfl) rfl rfl
                      refine g_goto 17 (gd rfl) rfl ?_
                      have i17 : In z110 0 120 := by exact ⟨by have a0 := h1; unfold In at a0; have a1 := i26; unfold In at a1; have a2 := j17_2; unfold In at a2; have a3 := i84; unfold In at a3; have a4 := i226; unfold In at a4; have a5 := t_add e226 i26 (in_c 1 rfl) rfl; have a6 := (in_c 1 rfl); unfold In at a6; have a7 := i128; unfold In at a7; have a8 := t_add e110 j17_2 (in_c (-1) rfl) rfl; have a9 := (in_c (-1) rfl); unfold In at a9; have a10 := i225; unfold In at a10; have a11 := t_sub e137 i128 (in_c 1 rfl) rfl; have a12 := i120; unfold In at a12; have a13 := t_sub e119 i110 (in_c 1 rfl) rfl; have a14 := i24; unfold In at a14; have a15 := t_add e24 h1 (in_c 1 rfl) rfl; have oc := oc_408_109; omega, by have a0 := h1; unfold In at a0; have a1 := i26; unfold In at a1; have a2 := j17_2; unfold In at a2; have a3 := i84; unfold In at a3; have a4 := i226; unfold In at a4; have a5 := t_add e226 i26 (in_c 1 rfl) rfl; have a6 := (in_c 1 rfl); unfold In at a6; have a7 := i128; unfold In at a7; have a8 := t_add e110 j17_2 (in_c (-1) rfl) rfl; have a9 := (in_c (-1) rfl); unfold In at a9; have a10 := i225; unfold In at a10; have a11 := t_sub e137 i128 (in_c 1 rfl) rfl; have a12 := i120; unfold In at a12; have a13 := t_sub e119 i110 (in_c 1 rfl) rfl; have a14 := i24; unfold In at a14; have a15 := t_add e24 h1 (in_c 1 rfl) rfl; have oc := oc_408_109; omega⟩
                      have n17 : (z110).toInt ≤ (z226).toInt := by have a0 := h1; unfold In at a0; have a1 := i26; unfold In at a1; have a2 := j17_2; unfold In at a2; have a3 := i84; unfold In at a3; have a4 := i226; unfold In at a4; have a5 := t_add e226 i26 (in_c 1 rfl) rfl; have a6 := (in_c 1 rfl); unfold In at a6; have a7 := i17; unfold In at a7; have a8 := t_add e110 j17_2 (in_c (-1) rfl) rfl; have a9 := (in_c (-1) rfl); unfold In at a9; have a10 := i225; unfold In at a10; have a11 := t_sub e137 i128 (in_c 1 rfl) rfl; have a12 := i120; unfold In at a12; have a13 := t_sub e119 i110 (in_c 1 rfl) rfl; have a14 := i24; unfold In at a14; have a15 := t_add e24 h1 (in_c 1 rfl) rfl; have oc := oc_408_109; omega
                      have n17a : WS (sL sc17 193 z137.toNatClampNeg (Int64.ofInt 0)) x1 z226 z110 := by first | exact hk2 _ _ (by have a0 := h1; unfold In at a0; have a1 := i26; unfold In at a1; have a2 := j17_2; unfold In at a2; have a3 := i84; unfold In at a3; have a4 := i226; unfold In at a4; have a5 := t_add e226 i26 (in_c 1 rfl) rfl; have a6 := (in_c 1 rfl); unfold In at a6; have a7 := i17; unfold In at a7; have a8 := t_add e110 j17_2 (in_c (-1) rfl) rfl; have a9 := (in_c (-1) rfl); unfold In at a9; have a10 := i225; unfold In at a10; have a11 := t_sub e137 i128 (in_c 1 rfl) rfl; have a12 := i120; unfold In at a12; have a13 := t_sub e119 i110 (in_c 1 rfl) rfl; have a14 := i24; unfold In at a14; have a15 := t_add e24 h1 (in_c 1 rfl) rfl; have oc := oc_408_109; omega) (by have a0 := h1; unfold In at a0; have a1 := i26; unfold In at a1; have a2 := j17_2; unfold In at a2; have a3 := i84; unfold In at a3; have a4 := i226; unfold In at a4; have a5 := t_add e226 i26 (in_c 1 rfl) rfl; have a6 := (in_c 1 rfl); unfold In at a6; have a7 := i17; unfold In at a7; have a8 := t_add e110 j17_2 (in_c (-1) rfl) rfl; have a9 := (in_c (-1) rfl); unfold In at a9; have a10 := i225; unfold In at a10; have a11 := t_sub e137 i128 (in_c 1 rfl) rfl; have a12 := i120; unfold In at a12; have a13 := t_sub e119 i110 (in_c 1 rfl) rfl; have a14 := i24; unfold In at a14; have a15 := t_add e24 h1 (in_c 1 rfl) rfl; have oc := oc_408_109; omega) | exact ws_0 rfl (by first | exact (by decide) | exact i15.1) (by unfold wa; first | (rw [if_pos c3]; rfl) | (rw [if_neg c3, e15]; rfl))
                      have n17b : EVI (fun j => rcd (s.1 184 j).toInt (s.1 185 j).toInt) (fun j => (s.2.1 194 j).toInt) ((wa s x1 : Nat) : Int) (z226).toInt (z110).toInt ((sL sc17 193 z137.toNatClampNeg (Int64.ofInt 0)).2.1 193) := by have he : z25 = (s.1 186 ((x1).toInt + 1).toNat) := (e25.trans ((congrFun (hFc17.1 186 rfl) _).trans (congrArg (s.1 186) (show (z24).toInt.toNat = ((x1).toInt + 1).toNat from (by rw [show (z24).toInt = (x1).toInt + 1 from (by have a0 := h1; unfold In at a0; have a1 := i26; unfold In at a1; have a2 := j17_2; unfold In at a2; have a3 := i84; unfold In at a3; have a4 := i226; unfold In at a4; have a5 := t_add e226 i26 (in_c 1 rfl) rfl; have a6 := (in_c 1 rfl); unfold In at a6; have a7 := i17; unfold In at a7; have a8 := t_add e110 j17_2 (in_c (-1) rfl) rfl; have a9 := (in_c (-1) rfl); unfold In at a9; have a10 := i225; unfold In at a10; have a11 := t_sub e137 i128 (in_c 1 rfl) rfl; have a12 := i120; unfold In at a12; have a13 := t_sub e119 i110 (in_c 1 rfl) rfl; have a14 := i24; unfold In at a14; have a15 := t_add e24 h1 (in_c 1 rfl) rfl; have oc := oc_408_109; omega)]))))); have hle : ((s.1 186 ((x1).toInt + 1).toNat)).toInt ≤ (s.1 186 2).toInt := (by have h9 := q_2.2; by_cases hx : (x1).toInt = 0; (rw [hx]; exact Int.le_of_lt h9); (rw [show ((x1).toInt + 1).toNat = 2 from (by have a0 := h1; unfold In at a0; have a1 := i26; unfold In at a1; have a2 := j17_2; unfold In at a2; have a3 := i84; unfold In at a3; have a4 := i226; unfold In at a4; have a5 := t_add e226 i26 (in_c 1 rfl) rfl; have a6 := (in_c 1 rfl); unfold In at a6; have a7 := i17; unfold In at a7; have a8 := t_add e110 j17_2 (in_c (-1) rfl) rfl; have a9 := (in_c (-1) rfl); unfold In at a9; have a10 := i225; unfold In at a10; have a11 := t_sub e137 i128 (in_c 1 rfl) rfl; have a12 := i120; unfold In at a12; have a13 := t_sub e119 i110 (in_c 1 rfl) rfl; have a14 := i24; unfold In at a14; have a15 := t_add e24 h1 (in_c 1 rfl) rfl; have oc := oc_408_109; omega)]; exact Int.le_refl _)); have hw : s.1 184 (y17_3).toInt.toNat = z34 := (e34.trans (congrFun (hFc17.1 184 rfl) _)).symm; have ok := q_1 (y17_3).toInt.toNat (by have h8 := c26; have ei : (((y17_3).toInt.toNat : Nat) : Int) = (y17_3).toInt := clx (by have a0 := h1; unfold In at a0; have a1 := i26; unfold In at a1; have a2 := j17_2; unfold In at a2; have a3 := i84; unfold In at a3; have a4 := i226; unfold In at a4; have a5 := t_add e226 i26 (in_c 1 rfl) rfl; have a6 := (in_c 1 rfl); unfold In at a6; have a7 := i17; unfold In at a7; have a8 := t_add e110 j17_2 (in_c (-1) rfl) rfl; have a9 := (in_c (-1) rfl); unfold In at a9; have a10 := i225; unfold In at a10; have a11 := t_sub e137 i128 (in_c 1 rfl) rfl; have a12 := i120; unfold In at a12; have a13 := t_sub e119 i110 (in_c 1 rfl) rfl; have a14 := i24; unfold In at a14; have a15 := t_add e24 h1 (in_c 1 rfl) rfl; have oc := oc_408_109; omega); rw [he] at h8; omega); rw [hw] at ok; have ew := ok.1; have wl : wa s x1 ≤ (y17_3).toInt.toNat := (by have h7 := g17_0.2.2.1; unfold wa at h7 ⊢; rw [hFc17.1 186 rfl] at h7; exact h7); have hz : z119 = z137 := (by rw [e119, e137]); have e9 := e120; rw [hz] at e9; have ba : BD (z120).toInt := (by rw [e9]; exact evi_2 g17_1 (by have a0 := h1; unfold In at a0; have a1 := i26; unfold In at a1; have a2 := j17_2; unfold In at a2; have a3 := i84; unfold In at a3; have a4 := i226; unfold In at a4; have a5 := t_add e226 i26 (in_c 1 rfl) rfl; have a6 := (in_c 1 rfl); unfold In at a6; have a7 := i17; unfold In at a7; have a8 := t_add e110 j17_2 (in_c (-1) rfl) rfl; have a9 := (in_c (-1) rfl); unfold In at a9; have a10 := i225; unfold In at a10; have a11 := t_sub e137 i128 (in_c 1 rfl) rfl; have a12 := i120; unfold In at a12; have a13 := t_sub e119 i110 (in_c 1 rfl) rfl; have a14 := i24; unfold In at a14; have a15 := t_add e24 h1 (in_c 1 rfl) rfl; have oc := oc_408_109; omega) (by rw [(show ((z137).toNatClampNeg : Int) = (z137).toInt from clx (by have a0 := h1; unfold In at a0; have a1 := i26; unfold In at a1; have a2 := j17_2; unfold In at a2; have a3 := i84; unfold In at a3; have a4 := i226; unfold In at a4; have a5 := t_add e226 i26 (in_c 1 rfl) rfl; have a6 := (in_c 1 rfl); unfold In at a6; have a7 := i17; unfold In at a7; have a8 := t_add e110 j17_2 (in_c (-1) rfl) rfl; have a9 := (in_c (-1) rfl); unfold In at a9; have a10 := i225; unfold In at a10; have a11 := t_sub e137 i128 (in_c 1 rfl) rfl; have a12 := i120; unfold In at a12; have a13 := t_sub e119 i110 (in_c 1 rfl) rfl; have a14 := i24; unfold In at a14; have a15 := t_add e24 h1 (in_c 1 rfl) rfl; have oc := oc_408_109; omega))]; have a0 := h1; unfold In at a0; have a1 := i26; unfold In at a1; have a2 := j17_2; unfold In at a2; have a3 := i84; unfold In at a3; have a4 := i226; unfold In at a4; have a5 := t_add e226 i26 (in_c 1 rfl) rfl; have a6 := (in_c 1 rfl); unfold In at a6; have a7 := i17; unfold In at a7; have a8 := t_add e110 j17_2 (in_c (-1) rfl) rfl; have a9 := (in_c (-1) rfl); unfold In at a9; have a10 := i225; unfold In at a10; have a11 := t_sub e137 i128 (in_c 1 rfl) rfl; have a12 := i120; unfold In at a12; have a13 := t_sub e119 i110 (in_c 1 rfl) rfl; have a14 := i24; unfold In at a14; have a15 := t_add e24 h1 (in_c 1 rfl) rfl; have oc := oc_408_109; omega)); have bb : BD (z128).toInt := (by rw [e128]; exact evi_1 g17_1 (by have a0 := h1; unfold In at a0; have a1 := i26; unfold In at a1; have a2 := j17_2; unfold In at a2; have a3 := i84; unfold In at a3; have a4 := i226; unfold In at a4; have a5 := t_add e226 i26 (in_c 1 rfl) rfl; have a6 := (in_c 1 rfl); unfold In at a6; have a7 := i17; unfold In at a7; have a8 := t_add e110 j17_2 (in_c (-1) rfl) rfl; have a9 := (in_c (-1) rfl); unfold In at a9; have a10 := i225; unfold In at a10; have a11 := t_sub e137 i128 (in_c 1 rfl) rfl; have a12 := i120; unfold In at a12; have a13 := t_sub e119 i110 (in_c 1 rfl) rfl; have a14 := i24; unfold In at a14; have a15 := t_add e24 h1 (in_c 1 rfl) rfl; have oc := oc_408_109; omega) (by rw [(show ((z110).toNatClampNeg : Int) = (z110).toInt from clx (by have a0 := h1; unfold In at a0; have a1 := i26; unfold In at a1; have a2 := j17_2; unfold In at a2; have a3 := i84; unfold In at a3; have a4 := i226; unfold In at a4; have a5 := t_add e226 i26 (in_c 1 rfl) rfl; have a6 := (in_c 1 rfl); unfold In at a6; have a7 := i17; unfold In at a7; have a8 := t_add e110 j17_2 (in_c (-1) rfl) rfl; have a9 := (in_c (-1) rfl); unfold In at a9; have a10 := i225; unfold In at a10; have a11 := t_sub e137 i128 (in_c 1 rfl) rfl; have a12 := i120; unfold In at a12; have a13 := t_sub e119 i110 (in_c 1 rfl) rfl; have a14 := i24; unfold In at a14; have a15 := t_add e24 h1 (in_c 1 rfl) rfl; have oc := oc_408_109; omega))]; have a0 := h1; unfold In at a0; have a1 := i26; unfold In at a1; have a2 := j17_2; unfold In at a2; have a3 := i84; unfold In at a3; have a4 := i226; unfold In at a4; have a5 := t_add e226 i26 (in_c 1 rfl) rfl; have a6 := (in_c 1 rfl); unfold In at a6; have a7 := i17; unfold In at a7; have a8 := t_add e110 j17_2 (in_c (-1) rfl) rfl; have a9 := (in_c (-1) rfl); unfold In at a9; have a10 := i225; unfold In at a10; have a11 := t_sub e137 i128 (in_c 1 rfl) rfl; have a12 := i120; unfold In at a12; have a13 := t_sub e119 i110 (in_c 1 rfl) rfl; have a14 := i24; unfold In at a14; have a15 := t_add e24 h1 (in_c 1 rfl) rfl; have oc := oc_408_109; omega)); rw [sL_v]; exact evi_b (j1 := (z110).toNatClampNeg) g17_1 (Int.natCast_nonneg _) (by have a0 := h1; unfold In at a0; have a1 := i26; unfold In at a1; have a2 := j17_2; unfold In at a2; have a3 := i84; unfold In at a3; have a4 := i226; unfold In at a4; have a5 := t_add e226 i26 (in_c 1 rfl) rfl; have a6 := (in_c 1 rfl); unfold In at a6; have a7 := i17; unfold In at a7; have a8 := t_add e110 j17_2 (in_c (-1) rfl) rfl; have a9 := (in_c (-1) rfl); unfold In at a9; have a10 := i225; unfold In at a10; have a11 := t_sub e137 i128 (in_c 1 rfl) rfl; have a12 := i120; unfold In at a12; have a13 := t_sub e119 i110 (in_c 1 rfl) rfl; have a14 := i24; unfold In at a14; have a15 := t_add e24 h1 (in_c 1 rfl) rfl; have oc := oc_408_109; omega) (by have a0 := h1; unfold In at a0; have a1 := i26; unfold In at a1; have a2 := j17_2; unfold In at a2; have a3 := i84; unfold In at a3; have a4 := i226; unfold In at a4; have a5 := t_add e226 i26 (in_c 1 rfl) rfl; have a6 := (in_c 1 rfl); unfold In at a6; have a7 := i17; unfold In at a7; have a8 := t_add e110 j17_2 (in_c (-1) rfl) rfl; have a9 := (in_c (-1) rfl); unfold In at a9; have a10 := i225; unfold In at a10; have a11 := t_sub e137 i128 (in_c 1 rfl) rfl; have a12 := i120; unfold In at a12; have a13 := t_sub e119 i110 (in_c 1 rfl) rfl; have a14 := i24; unfold In at a14; have a15 := t_add e24 h1 (in_c 1 rfl) rfl; have oc := oc_408_109; omega) (by have a0 := h1; unfold In at a0; have a1 := i26; unfold In at a1; have a2 := j17_2; unfold In at a2; have a3 := i84; unfold In at a3; have a4 := i226; unfold In at a4; have a5 := t_add e226 i26 (in_c 1 rfl) rfl; have a6 := (in_c 1 rfl); unfold In at a6; have a7 := i17; unfold In at a7; have a8 := t_add e110 j17_2 (in_c (-1) rfl) rfl; have a9 := (in_c (-1) rfl); unfold In at a9; have a10 := i225; unfold In at a10; have a11 := t_sub e137 i128 (in_c 1 rfl) rfl; have a12 := i120; unfold In at a12; have a13 := t_sub e119 i110 (in_c 1 rfl) rfl; have a14 := i24; unfold In at a14; have a15 := t_add e24 h1 (in_c 1 rfl) rfl; have oc := oc_408_109; omega) (by have a0 := h1; unfold In at a0; have a1 := i26; unfold In at a1; have a2 := j17_2; unfold In at a2; have a3 := i84; unfold In at a3; have a4 := i226; unfold In at a4; have a5 := t_add e226 i26 (in_c 1 rfl) rfl; have a6 := (in_c 1 rfl); unfold In at a6; have a7 := i17; unfold In at a7; have a8 := t_add e110 j17_2 (in_c (-1) rfl) rfl; have a9 := (in_c (-1) rfl); unfold In at a9; have a10 := i225; unfold In at a10; have a11 := t_sub e137 i128 (in_c 1 rfl) rfl; have a12 := i120; unfold In at a12; have a13 := t_sub e119 i110 (in_c 1 rfl) rfl; have a14 := i24; unfold In at a14; have a15 := t_add e24 h1 (in_c 1 rfl) rfl; have oc := oc_408_109; omega) (by rw [(show ((z137).toNatClampNeg : Int) = (z137).toInt from clx (by have a0 := h1; unfold In at a0; have a1 := i26; unfold In at a1; have a2 := j17_2; unfold In at a2; have a3 := i84; unfold In at a3; have a4 := i226; unfold In at a4; have a5 := t_add e226 i26 (in_c 1 rfl) rfl; have a6 := (in_c 1 rfl); unfold In at a6; have a7 := i17; unfold In at a7; have a8 := t_add e110 j17_2 (in_c (-1) rfl) rfl; have a9 := (in_c (-1) rfl); unfold In at a9; have a10 := i225; unfold In at a10; have a11 := t_sub e137 i128 (in_c 1 rfl) rfl; have a12 := i120; unfold In at a12; have a13 := t_sub e119 i110 (in_c 1 rfl) rfl; have a14 := i24; unfold In at a14; have a15 := t_add e24 h1 (in_c 1 rfl) rfl; have oc := oc_408_109; omega))]; have a0 := h1; unfold In at a0; have a1 := i26; unfold In at a1; have a2 := j17_2; unfold In at a2; have a3 := i84; unfold In at a3; have a4 := i226; unfold In at a4; have a5 := t_add e226 i26 (in_c 1 rfl) rfl; have a6 := (in_c 1 rfl); unfold In at a6; have a7 := i17; unfold In at a7; have a8 := t_add e110 j17_2 (in_c (-1) rfl) rfl; have a9 := (in_c (-1) rfl); unfold In at a9; have a10 := i225; unfold In at a10; have a11 := t_sub e137 i128 (in_c 1 rfl) rfl; have a12 := i120; unfold In at a12; have a13 := t_sub e119 i110 (in_c 1 rfl) rfl; have a14 := i24; unfold In at a14; have a15 := t_add e24 h1 (in_c 1 rfl) rfl; have oc := oc_408_109; omega) (by rw [(show ((z110).toNatClampNeg : Int) = (z110).toInt from clx (by have a0 := h1; unfold In at a0; have a1 := i26; unfold In at a1; have a2 := j17_2; unfold In at a2; have a3 := i84; unfold In at a3; have a4 := i226; unfold In at a4; have a5 := t_add e226 i26 (in_c 1 rfl) rfl; have a6 := (in_c 1 rfl); unfold In at a6; have a7 := i17; unfold In at a7; have a8 := t_add e110 j17_2 (in_c (-1) rfl) rfl; have a9 := (in_c (-1) rfl); unfold In at a9; have a10 := i225; unfold In at a10; have a11 := t_sub e137 i128 (in_c 1 rfl) rfl; have a12 := i120; unfold In at a12; have a13 := t_sub e119 i110 (in_c 1 rfl) rfl; have a14 := i24; unfold In at a14; have a15 := t_add e24 h1 (in_c 1 rfl) rfl; have oc := oc_408_109; omega))]; have a0 := h1; unfold In at a0; have a1 := i26; unfold In at a1; have a2 := j17_2; unfold In at a2; have a3 := i84; unfold In at a3; have a4 := i226; unfold In at a4; have a5 := t_add e226 i26 (in_c 1 rfl) rfl; have a6 := (in_c 1 rfl); unfold In at a6; have a7 := i17; unfold In at a7; have a8 := t_add e110 j17_2 (in_c (-1) rfl) rfl; have a9 := (in_c (-1) rfl); unfold In at a9; have a10 := i225; unfold In at a10; have a11 := t_sub e137 i128 (in_c 1 rfl) rfl; have a12 := i120; unfold In at a12; have a13 := t_sub e119 i110 (in_c 1 rfl) rfl; have a14 := i24; unfold In at a14; have a15 := t_add e24 h1 (in_c 1 rfl) rfl; have oc := oc_408_109; omega) (by show rcd (s.1 184 (y17_3).toInt.toNat).toInt (s.1 185 (y17_3).toInt.toNat).toInt = _; rw [hw]; exact rcd_d (by have a0 := h1; unfold In at a0; have a1 := i26; unfold In at a1; have a2 := j17_2; unfold In at a2; have a3 := i84; unfold In at a3; have a4 := i226; unfold In at a4; have a5 := t_add e226 i26 (in_c 1 rfl) rfl; have a6 := (in_c 1 rfl); unfold In at a6; have a7 := i17; unfold In at a7; have a8 := t_add e110 j17_2 (in_c (-1) rfl) rfl; have a9 := (in_c (-1) rfl); unfold In at a9; have a10 := i225; unfold In at a10; have a11 := t_sub e137 i128 (in_c 1 rfl) rfl; have a12 := i120; unfold In at a12; have a13 := t_sub e119 i110 (in_c 1 rfl) rfl; have a14 := i24; unfold In at a14; have a15 := t_add e24 h1 (in_c 1 rfl) rfl; have oc := oc_408_109; omega)) (by have a0 := h1; unfold In at a0; have a1 := i26; unfold In at a1; have a2 := j17_2; unfold In at a2; have a3 := i84; unfold In at a3; have a4 := i226; unfold In at a4; have a5 := t_add e226 i26 (in_c 1 rfl) rfl; have a6 := (in_c 1 rfl); unfold In at a6; have a7 := i17; unfold In at a7; have a8 := t_add e110 j17_2 (in_c (-1) rfl) rfl; have a9 := (in_c (-1) rfl); unfold In at a9; have a10 := i225; unfold In at a10; have a11 := t_sub e137 i128 (in_c 1 rfl) rfl; have a12 := i120; unfold In at a12; have a13 := t_sub e119 i110 (in_c 1 rfl) rfl; have a14 := i24; unfold In at a14; have a15 := t_add e24 h1 (in_c 1 rfl) rfl; have oc := oc_408_109; omega) (by omega) (by rw [← e9, ← e128, show 1000100 + (z34).toInt - 1000100 = (z34).toInt from (by omega)]; rw [cmb_e (by have a0 := h1; unfold In at a0; have a1 := i26; unfold In at a1; have a2 := j17_2; unfold In at a2; have a3 := i84; unfold In at a3; have a4 := i226; unfold In at a4; have a5 := t_add e226 i26 (in_c 1 rfl) rfl; have a6 := (in_c 1 rfl); unfold In at a6; have a7 := i17; unfold In at a7; have a8 := t_add e110 j17_2 (in_c (-1) rfl) rfl; have a9 := (in_c (-1) rfl); unfold In at a9; have a10 := i225; unfold In at a10; have a11 := t_sub e137 i128 (in_c 1 rfl) rfl; have a12 := i120; unfold In at a12; have a13 := t_sub e119 i110 (in_c 1 rfl) rfl; have a14 := i24; unfold In at a14; have a15 := t_add e24 h1 (in_c 1 rfl) rfl; have oc := oc_408_109; omega) (by have a0 := h1; unfold In at a0; have a1 := i26; unfold In at a1; have a2 := j17_2; unfold In at a2; have a3 := i84; unfold In at a3; have a4 := i226; unfold In at a4; have a5 := t_add e226 i26 (in_c 1 rfl) rfl; have a6 := (in_c 1 rfl); unfold In at a6; have a7 := i17; unfold In at a7; have a8 := t_add e110 j17_2 (in_c (-1) rfl) rfl; have a9 := (in_c (-1) rfl); unfold In at a9; have a10 := i225; unfold In at a10; have a11 := t_sub e137 i128 (in_c 1 rfl) rfl; have a12 := i120; unfold In at a12; have a13 := t_sub e119 i110 (in_c 1 rfl) rfl; have a14 := i24; unfold In at a14; have a15 := t_add e24 h1 (in_c 1 rfl) rfl; have oc := oc_408_109; omega) (by have a0 := h1; unfold In at a0; have a1 := i26; unfold In at a1; have a2 := j17_2; unfold In at a2; have a3 := i84; unfold In at a3; have a4 := i226; unfold In at a4; have a5 := t_add e226 i26 (in_c 1 rfl) rfl; have a6 := (in_c 1 rfl); unfold In at a6; have a7 := i17; unfold In at a7; have a8 := t_add e110 j17_2 (in_c (-1) rfl) rfl; have a9 := (in_c (-1) rfl); unfold In at a9; have a10 := i225; unfold In at a10; have a11 := t_sub e137 i128 (in_c 1 rfl) rfl; have a12 := i120; unfold In at a12; have a13 := t_sub e119 i110 (in_c 1 rfl) rfl; have a14 := i24; unfold In at a14; have a15 := t_add e24 h1 (in_c 1 rfl) rfl; have oc := oc_408_109; omega) (by have a0 := h1; unfold In at a0; have a1 := i26; unfold In at a1; have a2 := j17_2; unfold In at a2; have a3 := i84; unfold In at a3; have a4 := i226; unfold In at a4; have a5 := t_add e226 i26 (in_c 1 rfl) rfl; have a6 := (in_c 1 rfl); unfold In at a6; have a7 := i17; unfold In at a7; have a8 := t_add e110 j17_2 (in_c (-1) rfl) rfl; have a9 := (in_c (-1) rfl); unfold In at a9; have a10 := i225; unfold In at a10; have a11 := t_sub e137 i128 (in_c 1 rfl) rfl; have a12 := i120; unfold In at a12; have a13 := t_sub e119 i110 (in_c 1 rfl) rfl; have a14 := i24; unfold In at a14; have a15 := t_add e24 h1 (in_c 1 rfl) rfl; have oc := oc_408_109; omega)]; first | (rw [if_pos (by have a0 := h1; unfold In at a0; have a1 := i26; unfold In at a1; have a2 := j17_2; unfold In at a2; have a3 := i84; unfold In at a3; have a4 := i226; unfold In at a4; have a5 := t_add e226 i26 (in_c 1 rfl) rfl; have a6 := (in_c 1 rfl); unfold In at a6; have a7 := i17; unfold In at a7; have a8 := t_add e110 j17_2 (in_c (-1) rfl) rfl; have a9 := (in_c (-1) rfl); unfold In at a9; have a10 := i225; unfold In at a10; have a11 := t_sub e137 i128 (in_c 1 rfl) rfl; have a12 := i120; unfold In at a12; have a13 := t_sub e119 i110 (in_c 1 rfl) rfl; have a14 := i24; unfold In at a14; have a15 := t_add e24 h1 (in_c 1 rfl) rfl; have oc := oc_408_109; omega)]; rfl) | (rw [if_neg (by have a0 := h1; unfold In at a0; have a1 := i26; unfold In at a1; have a2 := j17_2; unfold In at a2; have a3 := i84; unfold In at a3; have a4 := i226; unfold In at a4; have a5 := t_add e226 i26 (in_c 1 rfl) rfl; have a6 := (in_c 1 rfl); unfold In at a6; have a7 := i17; unfold In at a7; have a8 := t_add e110 j17_2 (in_c (-1) rfl) rfl; have a9 := (in_c (-1) rfl); unfold In at a9; have a10 := i225; unfold In at a10; have a11 := t_sub e137 i128 (in_c 1 rfl) rfl; have a12 := i120; unfold In at a12; have a13 := t_sub e119 i110 (in_c 1 rfl) rfl; have a14 := i24; unfold In at a14; have a15 := t_add e24 h1 (in_c 1 rfl) rfl; have oc := oc_408_109; omega)]; rfl))
                      have n17c : (z226).toInt ≤ ((s.1 186 ((x1).toInt + 1).toNat)).toInt := by have he : z25 = (s.1 186 ((x1).toInt + 1).toNat) := (e25.trans ((congrFun (hFc17.1 186 rfl) _).trans (congrArg (s.1 186) (show (z24).toInt.toNat = ((x1).toInt + 1).toNat from (by rw [show (z24).toInt = (x1).toInt + 1 from (by have a0 := h1; unfold In at a0; have a1 := i26; unfold In at a1; have a2 := j17_2; unfold In at a2; have a3 := i84; unfold In at a3; have a4 := i226; unfold In at a4; have a5 := t_add e226 i26 (in_c 1 rfl) rfl; have a6 := (in_c 1 rfl); unfold In at a6; have a7 := i17; unfold In at a7; have a8 := t_add e110 j17_2 (in_c (-1) rfl) rfl; have a9 := (in_c (-1) rfl); unfold In at a9; have a10 := i225; unfold In at a10; have a11 := t_sub e137 i128 (in_c 1 rfl) rfl; have a12 := i120; unfold In at a12; have a13 := t_sub e119 i110 (in_c 1 rfl) rfl; have a14 := i24; unfold In at a14; have a15 := t_add e24 h1 (in_c 1 rfl) rfl; have oc := oc_408_109; omega)]))))); have h8 := c26; rw [he] at h8; have a0 := h1; unfold In at a0; have a1 := i26; unfold In at a1; have a2 := j17_2; unfold In at a2; have a3 := i84; unfold In at a3; have a4 := i226; unfold In at a4; have a5 := t_add e226 i26 (in_c 1 rfl) rfl; have a6 := (in_c 1 rfl); unfold In at a6; have a7 := i17; unfold In at a7; have a8 := t_add e110 j17_2 (in_c (-1) rfl) rfl; have a9 := (in_c (-1) rfl); unfold In at a9; have a10 := i225; unfold In at a10; have a11 := t_sub e137 i128 (in_c 1 rfl) rfl; have a12 := i120; unfold In at a12; have a13 := t_sub e119 i110 (in_c 1 rfl) rfl; have a14 := i24; unfold In at a14; have a15 := t_add e24 h1 (in_c 1 rfl) rfl; have oc := oc_408_109; omega
                      exact gg_w (by omega) (gg_f (gf_cons rfl (gf_cons rfl (gf_cons rfl (gf_cons rfl gf_nil)))) (ih17 (sL sc17 193 z137.toNatClampNeg (Int64.ofInt 0)) z110 z226 hI225 (fr_sL rfl hFc17) i17 (in_w 0 120 i226 rfl) n17 n17a n17b n17c (m_up mm17 (t_add e226 i26 (in_c 1 rfl) rfl) (in_w 1 1 (in_c 1 rfl) rfl))))
                    · skip
                      have i217 := z_eq 0 0 c217 i216 rfl
                      have c217a := lc_eq e216 c217
                      refine g_lconst 1 221 (gd rfl) rfl rfl ?_
                      refine g_goto 225 (gd rfl) rfl ?_
                      have i225 : In z137 0 199 := by have a0 := h1; unfold In at a0; have a1 := i26; unfold In at a1; have a2 := j17_2; unfold In at a2; have a3 := i84; unfold In at a3; have a4 := i128; unfold In at a4; have a5 := t_add e110 j17_2 (in_c (-1) rfl) rfl; have a6 := (in_c (-1) rfl); unfold In at a6; have a7 := i137; unfold In at a7; have a8 := t_sub e137 i128 (in_c 1 rfl) rfl; have a9 := (in_c 1 rfl); unfold In at a9; have a10 := i120; unfold In at a10; have a11 := t_sub e119 i110 (in_c 1 rfl) rfl; have a12 := i24; unfold In at a12; have a13 := t_add e24 h1 (in_c 1 rfl) rfl; have oc := oc_408_109; exact ⟨by omega, by omega⟩
                      refine g_lastore 226 (gd rfl) rfl (n := 200) rfl (in_ix i225 rfl) ?_
                      have hI225 := inv_sL (q := 193) (j := z137.toNatClampNeg) (x := (Int64.ofInt 1)) hIc17 rfl (l_rng (Int64.ofInt 1))
                      refine g_iinc 229 (gd rfl) rfl rfl (Nat.le_of_ble_eq_true rfl) (fun z226 e226 => ?_)
                      have i226 := in_add 1 120 e226 i26 (in_c 1 rfl) rfl rfl
                      refine g_goto 17 (gd rfl) rfl ?_
                      have i17 : In z110 0 120 := by exact ⟨by have a0 := h1; unfold In at a0; have a1 := i26; unfold In at a1; have a2 := j17_2; unfold In at a2; have a3 := i84; unfold In at a3; have a4 := i226; unfold In at a4; have a5 := t_add e226 i26 (in_c 1 rfl) rfl; have a6 := (in_c 1 rfl); unfold In at a6; have a7 := i128; unfold In at a7; have a8 := t_add e110 j17_2 (in_c (-1) rfl) rfl; have a9 := (in_c (-1) rfl); unfold In at a9; have a10 := i225; unfold In at a10; have a11 := t_sub e137 i128 (in_c 1 rfl) rfl; have a12 := i120; unfold In at a12; have a13 := t_sub e119 i110 (in_c 1 rfl) rfl; have a14 := i24; unfold In at a14; have a15 := t_add e24 h1 (in_c 1 rfl) rfl; have oc := oc_408_109; omega, by have a0 := h1; unfold In at a0; have a1 := i26; unfold In at a1; have a2 := j17_2; unfold In at a2; have a3 := i84; unfold In at a3; have a4 := i226; unfold In at a4; have a5 := t_add e226 i26 (in_c 1 rfl) rfl; have a6 := (in_c 1 rfl); unfold In at a6; have a7 := i128; unfold In at a7; have a8 := t_add e110 j17_2 (in_c (-1) rfl) rfl; have a9 := (in_c (-1) rfl); unfold In at a9; have a10 := i225; unfold In at a10; have a11 := t_sub e137 i128 (in_c 1 rfl) rfl; have a12 := i120; unfold In at a12; have a13 := t_sub e119 i110 (in_c 1 rfl) rfl; have a14 := i24; unfold In at a14; have a15 := t_add e24 h1 (in_c 1 rfl) rfl; have oc := oc_408_109; omega⟩
                      have n17 : (z110).toInt ≤ (z226).toInt := by have a0 := h1; unfold In at a0; have a1 := i26; unfold In at a1; have a2 := j17_2; unfold In at a2; have a3 := i84; unfold In at a3; have a4 := i226; unfold In at a4; have a5 := t_add e226 i26 (in_c 1 rfl) rfl; have a6 := (in_c 1 rfl); unfold In at a6; have a7 := i17; unfold In at a7; have a8 := t_add e110 j17_2 (in_c (-1) rfl) rfl; have a9 := (in_c (-1) rfl); unfold In at a9; have a10 := i225; unfold In at a10; have a11 := t_sub e137 i128 (in_c 1 rfl) rfl; have a12 := i120; unfold In at a12; have a13 := t_sub e119 i110 (in_c 1 rfl) rfl; have a14 := i24; unfold In at a14; have a15 := t_add e24 h1 (in_c 1 rfl) rfl; have oc := oc_408_109; omega
                      have n17a : WS (sL sc17 193 z137.toNatClampNeg (Int64.ofInt 1)) x1 z226 z110 := by first | exact hk2 _ _ (by have a0 := h1; unfold In at a0; have a1 := i26; unfold In at a1; have a2 := j17_2; unfold In at a2; have a3 := i84; unfold In at a3; have a4 := i226; unfold In at a4; have a5 := t_add e226 i26 (in_c 1 rfl) rfl; have a6 := (in_c 1 rfl); unfold In at a6; have a7 := i17; unfold In at a7; have a8 := t_add e110 j17_2 (in_c (-1) rfl) rfl; have a9 := (in_c (-1) rfl); unfold In at a9; have a10 := i225; unfold In at a10; have a11 := t_sub e137 i128 (in_c 1 rfl) rfl; have a12 := i120; unfold In at a12; have a13 := t_sub e119 i110 (in_c 1 rfl) rfl; have a14 := i24; unfold In at a14; have a15 := t_add e24 h1 (in_c 1 rfl) rfl; have oc := oc_408_109; omega) (by have a0 := h1; unfold In at a0; have a1 := i26; unfold In at a1; have a2 := j17_2; unfold In at a2; have a3 := i84; unfold In at a3; have a4 := i226; unfold In at a4; have a5 := t_add e226 i26 (in_c 1 rfl) rfl; have a6 := (in_c 1 rfl); unfold In at a6; have a7 := i17; unfold In at a7; have a8 := t_add e110 j17_2 (in_c (-1) rfl) rfl; have a9 := (in_c (-1) rfl); unfold In at a9; have a10 := i225; unfold In at a10; have a11 := t_sub e137 i128 (in_c 1 rfl) rfl; have a12 := i120; unfold In at a12; have a13 := t_sub e119 i110 (in_c 1 rfl) rfl; have a14 := i24; unfold In at a14; have a15 := t_add e24 h1 (in_c 1 rfl) rfl; have oc := oc_408_109; omega) | exact ws_0 rfl (by first | exact (by decide) | exact i15.1) (by unfold wa; first | (rw [if_pos c3]; rfl) | (rw [if_neg c3, e15]; rfl))
                      have n17b : EVI (fun j => rcd (s.1 184 j).toInt (s.1 185 j).toInt) (fun j => (s.2.1 194 j).toInt) ((wa s x1 : Nat) : Int) (z226).toInt (z110).toInt ((sL sc17 193 z137.toNatClampNeg (Int64.ofInt 1)).2.1 193) := by have he : z25 = (s.1 186 ((x1).toInt + 1).toNat) := (e25.trans ((congrFun (hFc17.1 186 rfl) _).trans (congrArg (s.1 186) (show (z24).toInt.toNat = ((x1).toInt + 1).toNat from (by rw [show (z24).toInt = (x1).toInt + 1 from (by have a0 := h1; unfold In at a0; have a1 := i26; unfold In at a1; have a2 := j17_2; unfold In at a2; have a3 := i84; unfold In at a3; have a4 := i226; unfold In at a4; have a5 := t_add e226 i26 (in_c 1 rfl) rfl; have a6 := (in_c 1 rfl); unfold In at a6; have a7 := i17; unfold In at a7; have a8 := t_add e110 j17_2 (in_c (-1) rfl) rfl; have a9 := (in_c (-1) rfl); unfold In at a9; have a10 := i225; unfold In at a10; have a11 := t_sub e137 i128 (in_c 1 rfl) rfl; have a12 := i120; unfold In at a12; have a13 := t_sub e119 i110 (in_c 1 rfl) rfl; have a14 := i24; unfold In at a14; have a15 := t_add e24 h1 (in_c 1 rfl) rfl; have oc := oc_408_109; omega)]))))); have hle : ((s.1 186 ((x1).toInt + 1).toNat)).toInt ≤ (s.1 186 2).toInt := (by have h9 := q_2.2; by_cases hx : (x1).toInt = 0; (rw [hx]; exact Int.le_of_lt h9); (rw [show ((x1).toInt + 1).toNat = 2 from (by have a0 := h1; unfold In at a0; have a1 := i26; unfold In at a1; have a2 := j17_2; unfold In at a2; have a3 := i84; unfold In at a3; have a4 := i226; unfold In at a4; have a5 := t_add e226 i26 (in_c 1 rfl) rfl; have a6 := (in_c 1 rfl); unfold In at a6; have a7 := i17; unfold In at a7; have a8 := t_add e110 j17_2 (in_c (-1) rfl) rfl; have a9 := (in_c (-1) rfl); unfold In at a9; have a10 := i225; unfold In at a10; have a11 := t_sub e137 i128 (in_c 1 rfl) rfl; have a12 := i120; unfold In at a12; have a13 := t_sub e119 i110 (in_c 1 rfl) rfl; have a14 := i24; unfold In at a14; have a15 := t_add e24 h1 (in_c 1 rfl) rfl; have oc := oc_408_109; omega)]; exact Int.le_refl _)); have hw : s.1 184 (y17_3).toInt.toNat = z34 := (e34.trans (congrFun (hFc17.1 184 rfl) _)).symm; have ok := q_1 (y17_3).toInt.toNat (by have h8 := c26; have ei : (((y17_3).toInt.toNat : Nat) : Int) = (y17_3).toInt := clx (by have a0 := h1; unfold In at a0; have a1 := i26; unfold In at a1; have a2 := j17_2; unfold In at a2; have a3 := i84; unfold In at a3; have a4 := i226; unfold In at a4; have a5 := t_add e226 i26 (in_c 1 rfl) rfl; have a6 := (in_c 1 rfl); unfold In at a6; have a7 := i17; unfold In at a7; have a8 := t_add e110 j17_2 (in_c (-1) rfl) rfl; have a9 := (in_c (-1) rfl); unfold In at a9; have a10 := i225; unfold In at a10; have a11 := t_sub e137 i128 (in_c 1 rfl) rfl; have a12 := i120; unfold In at a12; have a13 := t_sub e119 i110 (in_c 1 rfl) rfl; have a14 := i24; unfold In at a14; have a15 := t_add e24 h1 (in_c 1 rfl) rfl; have oc := oc_408_109; omega); rw [he] at h8; omega); rw [hw] at ok; have ew := ok.1; have wl : wa s x1 ≤ (y17_3).toInt.toNat := (by have h7 := g17_0.2.2.1; unfold wa at h7 ⊢; rw [hFc17.1 186 rfl] at h7; exact h7); have hz : z119 = z137 := (by rw [e119, e137]); have e9 := e120; rw [hz] at e9; have ba : BD (z120).toInt := (by rw [e9]; exact evi_2 g17_1 (by have a0 := h1; unfold In at a0; have a1 := i26; unfold In at a1; have a2 := j17_2; unfold In at a2; have a3 := i84; unfold In at a3; have a4 := i226; unfold In at a4; have a5 := t_add e226 i26 (in_c 1 rfl) rfl; have a6 := (in_c 1 rfl); unfold In at a6; have a7 := i17; unfold In at a7; have a8 := t_add e110 j17_2 (in_c (-1) rfl) rfl; have a9 := (in_c (-1) rfl); unfold In at a9; have a10 := i225; unfold In at a10; have a11 := t_sub e137 i128 (in_c 1 rfl) rfl; have a12 := i120; unfold In at a12; have a13 := t_sub e119 i110 (in_c 1 rfl) rfl; have a14 := i24; unfold In at a14; have a15 := t_add e24 h1 (in_c 1 rfl) rfl; have oc := oc_408_109; omega) (by rw [(show ((z137).toNatClampNeg : Int) = (z137).toInt from clx (by have a0 := h1; unfold In at a0; have a1 := i26; unfold In at a1; have a2 := j17_2; unfold In at a2; have a3 := i84; unfold In at a3; have a4 := i226; unfold In at a4; have a5 := t_add e226 i26 (in_c 1 rfl) rfl; have a6 := (in_c 1 rfl); unfold In at a6; have a7 := i17; unfold In at a7; have a8 := t_add e110 j17_2 (in_c (-1) rfl) rfl; have a9 := (in_c (-1) rfl); unfold In at a9; have a10 := i225; unfold In at a10; have a11 := t_sub e137 i128 (in_c 1 rfl) rfl; have a12 := i120; unfold In at a12; have a13 := t_sub e119 i110 (in_c 1 rfl) rfl; have a14 := i24; unfold In at a14; have a15 := t_add e24 h1 (in_c 1 rfl) rfl; have oc := oc_408_109; omega))]; have a0 := h1; unfold In at a0; have a1 := i26; unfold In at a1; have a2 := j17_2; unfold In at a2; have a3 := i84; unfold In at a3; have a4 := i226; unfold In at a4; have a5 := t_add e226 i26 (in_c 1 rfl) rfl; have a6 := (in_c 1 rfl); unfold In at a6; have a7 := i17; unfold In at a7; have a8 := t_add e110 j17_2 (in_c (-1) rfl) rfl; have a9 := (in_c (-1) rfl); unfold In at a9; have a10 := i225; unfold In at a10; have a11 := t_sub e137 i128 (in_c 1 rfl) rfl; have a12 := i120; unfold In at a12; have a13 := t_sub e119 i110 (in_c 1 rfl) rfl; have a14 := i24; unfold In at a14; have a15 := t_add e24 h1 (in_c 1 rfl) rfl; have oc := oc_408_109; omega)); have bb : BD (z128).toInt := (by rw [e128]; exact evi_1 g17_1 (by have a0 := h1; unfold In at a0; have a1 := i26; unfold In at a1; have a2 := j17_2; unfold In at a2; have a3 := i84; unfold In at a3; have a4 := i226; unfold In at a4; have a5 := t_add e226 i26 (in_c 1 rfl) rfl; have a6 := (in_c 1 rfl); unfold In at a6; have a7 := i17; unfold In at a7; have a8 := t_add e110 j17_2 (in_c (-1) rfl) rfl; have a9 := (in_c (-1) rfl); unfold In at a9; have a10 := i225; unfold In at a10; have a11 := t_sub e137 i128 (in_c 1 rfl) rfl; have a12 := i120; unfold In at a12; have a13 := t_sub e119 i110 (in_c 1 rfl) rfl; have a14 := i24; unfold In at a14; have a15 := t_add e24 h1 (in_c 1 rfl) rfl; have oc := oc_408_109; omega) (by rw [(show ((z110).toNatClampNeg : Int) = (z110).toInt from clx (by have a0 := h1; unfold In at a0; have a1 := i26; unfold In at a1; have a2 := j17_2; unfold In at a2; have a3 := i84; unfold In at a3; have a4 := i226; unfold In at a4; have a5 := t_add e226 i26 (in_c 1 rfl) rfl; have a6 := (in_c 1 rfl); unfold In at a6; have a7 := i17; unfold In at a7; have a8 := t_add e110 j17_2 (in_c (-1) rfl) rfl; have a9 := (in_c (-1) rfl); unfold In at a9; have a10 := i225; unfold In at a10; have a11 := t_sub e137 i128 (in_c 1 rfl) rfl; have a12 := i120; unfold In at a12; have a13 := t_sub e119 i110 (in_c 1 rfl) rfl; have a14 := i24; unfold In at a14; have a15 := t_add e24 h1 (in_c 1 rfl) rfl; have oc := oc_408_109; omega))]; have a0 := h1; unfold In at a0; have a1 := i26; unfold In at a1; have a2 := j17_2; unfold In at a2; have a3 := i84; unfold In at a3; have a4 := i226; unfold In at a4; have a5 := t_add e226 i26 (in_c 1 rfl) rfl; have a6 := (in_c 1 rfl); unfold In at a6; have a7 := i17; unfold In at a7; have a8 := t_add e110 j17_2 (in_c (-1) rfl) rfl; have a9 := (in_c (-1) rfl); unfold In at a9; have a10 := i225; unfold In at a10; have a11 := t_sub e137 i128 (in_c 1 rfl) rfl; have a12 := i120; unfold In at a12; have a13 := t_sub e119 i110 (in_c 1 rfl) rfl; have a14 := i24; unfold In at a14; have a15 := t_add e24 h1 (in_c 1 rfl) rfl; have oc := oc_408_109; omega)); rw [sL_v]; exact evi_b (j1 := (z110).toNatClampNeg) g17_1 (Int.natCast_nonneg _) (by have a0 := h1; unfold In at a0; have a1 := i26; unfold In at a1; have a2 := j17_2; unfold In at a2; have a3 := i84; unfold In at a3; have a4 := i226; unfold In at a4; have a5 := t_add e226 i26 (in_c 1 rfl) rfl; have a6 := (in_c 1 rfl); unfold In at a6; have a7 := i17; unfold In at a7; have a8 := t_add e110 j17_2 (in_c (-1) rfl) rfl; have a9 := (in_c (-1) rfl); unfold In at a9; have a10 := i225; unfold In at a10; have a11 := t_sub e137 i128 (in_c 1 rfl) rfl; have a12 := i120; unfold In at a12; have a13 := t_sub e119 i110 (in_c 1 rfl) rfl; have a14 := i24; unfold In at a14; have a15 := t_add e24 h1 (in_c 1 rfl) rfl; have oc := oc_408_109; omega) (by have a0 := h1; unfold In at a0; have a1 := i26; unfold In at a1; have a2 := j17_2; unfold In at a2; have a3 := i84; unfold In at a3; have a4 := i226; unfold In at a4; have a5 := t_add e226 i26 (in_c 1 rfl) rfl; have a6 := (in_c 1 rfl); unfold In at a6; have a7 := i17; unfold In at a7; have a8 := t_add e110 j17_2 (in_c (-1) rfl) rfl; have a9 := (in_c (-1) rfl); unfold In at a9; have a10 := i225; unfold In at a10; have a11 := t_sub e137 i128 (in_c 1 rfl) rfl; have a12 := i120; unfold In at a12; have a13 := t_sub e119 i110 (in_c 1 rfl) rfl; have a14 := i24; unfold In at a14; have a15 := t_add e24 h1 (in_c 1 rfl) rfl; have oc := oc_408_109; omega) (by have a0 := h1; unfold In at a0; have a1 := i26; unfold In at a1; have a2 := j17_2; unfold In at a2; have a3 := i84; unfold In at a3; have a4 := i226; unfold In at a4; have a5 := t_add e226 i26 (in_c 1 rfl) rfl; have a6 := (in_c 1 rfl); unfold In at a6; have a7 := i17; unfold In at a7; have a8 := t_add e110 j17_2 (in_c (-1) rfl) rfl; have a9 := (in_c (-1) rfl); unfold In at a9; have a10 := i225; unfold In at a10; have a11 := t_sub e137 i128 (in_c 1 rfl) rfl; have a12 := i120; unfold In at a12; have a13 := t_sub e119 i110 (in_c 1 rfl) rfl; have a14 := i24; unfold In at a14; have a15 := t_add e24 h1 (in_c 1 rfl) rfl; have oc := oc_408_109; omega) (by have a0 := h1; unfold In at a0; have a1 := i26; unfold In at a1; have a2 := j17_2; unfold In at a2; have a3 := i84; unfold In at a3; have a4 := i226; unfold In at a4; have a5 := t_add e226 i26 (in_c 1 rfl) rfl; have a6 := (in_c 1 rfl); unfold In at a6; have a7 := i17; unfold In at a7; have a8 := t_add e110 j17_2 (in_c (-1) rfl) rfl; have a9 := (in_c (-1) rfl); unfold In at a9; have a10 := i225; unfold In at a10; have a11 := t_sub e137 i128 (in_c 1 rfl) rfl; have a12 := i120; unfold In at a12; have a13 := t_sub e119 i110 (in_c 1 rfl) rfl; have a14 := i24; unfold In at a14; have a15 := t_add e24 h1 (in_c 1 rfl) rfl; have oc := oc_408_109; omega) (by rw [(show ((z137).toNatClampNeg : Int) = (z137).toInt from clx (by have a0 := h1; unfold In at a0; have a1 := i26; unfold In at a1; have a2 := j17_2; unfold In at a2; have a3 := i84; unfold In at a3; have a4 := i226; unfold In at a4; have a5 := t_add e226 i26 (in_c 1 rfl) rfl; have a6 := (in_c 1 rfl); unfold In at a6; have a7 := i17; unfold In at a7; have a8 := t_add e110 j17_2 (in_c (-1) rfl) rfl; have a9 := (in_c (-1) rfl); unfold In at a9; have a10 := i225; unfold In at a10; have a11 := t_sub e137 i128 (in_c 1 rfl) rfl; have a12 := i120; unfold In at a12; have a13 := t_sub e119 i110 (in_c 1 rfl) rfl; have a14 := i24; unfold In at a14; have a15 := t_add e24 h1 (in_c 1 rfl) rfl; have oc := oc_408_109; omega))]; have a0 := h1; unfold In at a0; have a1 := i26; unfold In at a1; have a2 := j17_2; unfold In at a2; have a3 := i84; unfold In at a3; have a4 := i226; unfold In at a4; have a5 := t_add e226 i26 (in_c 1 rfl) rfl; have a6 := (in_c 1 rfl); unfold In at a6; have a7 := i17; unfold In at a7; have a8 := t_add e110 j17_2 (in_c (-1) rfl) rfl; have a9 := (in_c (-1) rfl); unfold In at a9; have a10 := i225; unfold In at a10; have a11 := t_sub e137 i128 (in_c 1 rfl) rfl; have a12 := i120; unfold In at a12; have a13 := t_sub e119 i110 (in_c 1 rfl) rfl; have a14 := i24; unfold In at a14; have a15 := t_add e24 h1 (in_c 1 rfl) rfl; have oc := oc_408_109; omega) (by rw [(show ((z110).toNatClampNeg : Int) = (z110).toInt from clx (by have a0 := h1; unfold In at a0; have a1 := i26; unfold In at a1; have a2 := j17_2; unfold In at a2; have a3 := i84; unfold In at a3; have a4 := i226; unfold In at a4; have a5 := t_add e226 i26 (in_c 1 rfl) rfl; have a6 := (in_c 1 rfl); unfold In at a6; have a7 := i17; unfold In at a7; have a8 := t_add e110 j17_2 (in_c (-1) rfl) rfl; have a9 := (in_c (-1) rfl); unfold In at a9; have a10 := i225; unfold In at a10; have a11 := t_sub e137 i128 (in_c 1 rfl) rfl; have a12 := i120; unfold In at a12; have a13 := t_sub e119 i110 (in_c 1 rfl) rfl; have a14 := i24; unfold In at a14; have a15 := t_add e24 h1 (in_c 1 rfl) rfl; have oc := oc_408_109; omega))]; have a0 := h1; unfold In at a0; have a1 := i26; unfold In at a1; have a2 := j17_2; unfold In at a2; have a3 := i84; unfold In at a3; have a4 := i226; unfold In at a4; have a5 := t_add e226 i26 (in_c 1 rfl) rfl; have a6 := (in_c 1 rfl); unfold In at a6; have a7 := i17; unfold In at a7; have a8 := t_add e110 j17_2 (in_c (-1) rfl) rfl; have a9 := (in_c (-1) rfl); unfold In at a9; have a10 := i225; unfold In at a10; have a11 := t_sub e137 i128 (in_c 1 rfl) rfl; have a12 := i120; unfold In at a12; have a13 := t_sub e119 i110 (in_c 1 rfl) rfl; have a14 := i24; unfold In at a14; have a15 := t_add e24 h1 (in_c 1 rfl) rfl; have oc := oc_408_109; omega) (by show rcd (s.1 184 (y17_3).toInt.toNat).toInt (s.1 185 (y17_3).toInt.toNat).toInt = _; rw [hw]; exact rcd_d (by have a0 := h1; unfold In at a0; have a1 := i26; unfold In at a1; have a2 := j17_2; unfold In at a2; have a3 := i84; unfold In at a3; have a4 := i226; unfold In at a4; have a5 := t_add e226 i26 (in_c 1 rfl) rfl; have a6 := (in_c 1 rfl); unfold In at a6; have a7 := i17; unfold In at a7; have a8 := t_add e110 j17_2 (in_c (-1) rfl) rfl; have a9 := (in_c (-1) rfl); unfold In at a9; have a10 := i225; unfold In at a10; have a11 := t_sub e137 i128 (in_c 1 rfl) rfl; have a12 := i120; unfold In at a12; have a13 := t_sub e119 i110 (in_c 1 rfl) rfl; have a14 := i24; unfold In at a14; have a15 := t_add e24 h1 (in_c 1 rfl) rfl; have oc := oc_408_109; omega)) (by have a0 := h1; unfold In at a0; have a1 := i26; unfold In at a1; have a2 := j17_2; unfold In at a2; have a3 := i84; unfold In at a3; have a4 := i226; unfold In at a4; have a5 := t_add e226 i26 (in_c 1 rfl) rfl; have a6 := (in_c 1 rfl); unfold In at a6; have a7 := i17; unfold In at a7; have a8 := t_add e110 j17_2 (in_c (-1) rfl) rfl; have a9 := (in_c (-1) rfl); unfold In at a9; have a10 := i225; unfold In at a10; have a11 := t_sub e137 i128 (in_c 1 rfl) rfl; have a12 := i120; unfold In at a12; have a13 := t_sub e119 i110 (in_c 1 rfl) rfl; have a14 := i24; unfold In at a14; have a15 := t_add e24 h1 (in_c 1 rfl) rfl; have oc := oc_408_109; omega) (by omega) (by rw [← e9, ← e128, show 1000100 + (z34).toInt - 1000100 = (z34).toInt from (by omega)]; rw [cmb_e (by have a0 := h1; unfold In at a0; have a1 := i26; unfold In at a1; have a2 := j17_2; unfold In at a2; have a3 := i84; unfold In at a3; have a4 := i226; unfold In at a4; have a5 := t_add e226 i26 (in_c 1 rfl) rfl; have a6 := (in_c 1 rfl); unfold In at a6; have a7 := i17; unfold In at a7; have a8 := t_add e110 j17_2 (in_c (-1) rfl) rfl; have a9 := (in_c (-1) rfl); unfold In at a9; have a10 := i225; unfold In at a10; have a11 := t_sub e137 i128 (in_c 1 rfl) rfl; have a12 := i120; unfold In at a12; have a13 := t_sub e119 i110 (in_c 1 rfl) rfl; have a14 := i24; unfold In at a14; have a15 := t_add e24 h1 (in_c 1 rfl) rfl; have oc := oc_408_109; omega) (by have a0 := h1; unfold In at a0; have a1 := i26; unfold In at a1; have a2 := j17_2; unfold In at a2; have a3 := i84; unfold In at a3; have a4 := i226; unfold In at a4; have a5 := t_add e226 i26 (in_c 1 rfl) rfl; have a6 := (in_c 1 rfl); unfold In at a6; have a7 := i17; unfold In at a7; have a8 := t_add e110 j17_2 (in_c (-1) rfl) rfl; have a9 := (in_c (-1) rfl); unfold In at a9; have a10 := i225; unfold In at a10; have a11 := t_sub e137 i128 (in_c 1 rfl) rfl; have a12 := i120; unfold In at a12; have a13 := t_sub e119 i110 (in_c 1 rfl) rfl; have a14 := i24; unfold In at a14; have a15 := t_add e24 h1 (in_c 1 rfl) rfl; have oc := oc_408_109; omega) (by have a0 := h1; unfold In at a0; have a1 := i26; unfold In at a1; have a2 := j17_2; unfold In at a2; have a3 := i84; unfold In at a3; have a4 := i226; unfold In at a4; have a5 := t_add e226 i26 (in_c 1 rfl) rfl; have a6 := (in_c 1 rfl); unfold In at a6; have a7 := i17; unfold In at a7; have a8 := t_add e110 j17_2 (in_c (-1) rfl) rfl; have a9 := (in_c (-1) rfl); unfold In at a9; have a10 := i225; unfold In at a10; have a11 := t_sub e137 i128 (in_c 1 rfl) rfl; have a12 := i120; unfold In at a12; have a13 := t_sub e119 i110 (in_c 1 rfl) rfl; have a14 := i24; unfold In at a14; have a15 := t_add e24 h1 (in_c 1 rfl) rfl; have oc := oc_408_109; omega) (by have a0 := h1; unfold In at a0; have a1 := i26; unfold In at a1; have a2 := j17_2; unfold In at a2; have a3 := i84; unfold In at a3; have a4 := i226; unfold In at a4; have a5 := t_add e226 i26 (in_c 1 rfl) rfl; have a6 := (in_c 1 rfl); unfold In at a6; have a7 := i17; unfold In at a7; have a8 := t_add e110 j17_2 (in_c (-1) rfl) rfl; have a9 := (in_c (-1) rfl); unfold In at a9; have a10 := i225; unfold In at a10; have a11 := t_sub e137 i128 (in_c 1 rfl) rfl; have a12 := i120; unfold In at a12; have a13 := t_sub e119 i110 (in_c 1 rfl) rfl; have a14 := i24; unfold In at a14; have a15 := t_add e24 h1 (in_c 1 rfl) rfl; have oc := oc_408_109; omega)]; first | (rw [if_pos (by have a0 := h1; unfold In at a0; have a1 := i26; unfold In at a1; have a2 := j17_2; unfold In at a2; have a3 := i84; unfold In at a3; have a4 := i226; unfold In at a4; have a5 := t_add e226 i26 (in_c 1 rfl) rfl; have a6 := (in_c 1 rfl); unfold In at a6; have a7 := i17; unfold In at a7; have a8 := t_add e110 j17_2 (in_c (-1) rfl) rfl; have a9 := (in_c (-1) rfl); unfold In at a9; have a10 := i225; unfold In at a10; have a11 := t_sub e137 i128 (in_c 1 rfl) rfl; have a12 := i120; unfold In at a12; have a13 := t_sub e119 i110 (in_c 1 rfl) rfl; have a14 := i24; unfold In at a14; have a15 := t_add e24 h1 (in_c 1 rfl) rfl; have oc := oc_408_109; omega)]; rfl) | (rw [if_neg (by have a0 := h1; unfold In at a0; have a1 := i26; unfold In at a1; have a2 := j17_2; unfold In at a2; have a3 := i84; unfold In at a3; have a4 := i226; unfold In at a4; have a5 := t_add e226 i26 (in_c 1 rfl) rfl; have a6 := (in_c 1 rfl); unfold In at a6; have a7 := i17; unfold In at a7; have a8 := t_add e110 j17_2 (in_c (-1) rfl) rfl; have a9 := (in_c (-1) rfl); unfold In at a9; have a10 := i225; unfold In at a10; have a11 := t_sub e137 i128 (in_c 1 rfl) rfl; have a12 := i120; unfold In at a12; have a13 := t_sub e119 i110 (in_c 1 rfl) rfl; have a14 := i24; unfold In at a14; have a15 := t_add e24 h1 (in_c 1 rfl) rfl; have oc := oc_408_109; omega)]; rfl))
                      have n17c : (z226).toInt ≤ ((s.1 186 ((x1).toInt + 1).toNat)).toInt := by have he : z25 = (s.1 186 ((x1).toInt + 1).toNat) := (e25.trans ((congrFun (hFc17.1 186 rfl) _).trans (congrArg (s.1 186) (show (z24).toInt.toNat = ((x1).toInt + 1).toNat from (by rw [show (z24).toInt = (x1).toInt + 1 from (by have a0 := h1; unfold In at a0; have a1 := i26; unfold In at a1; have a2 := j17_2; unfold In at a2; have a3 := i84; unfold In at a3; have a4 := i226; unfold In at a4; have a5 := t_add e226 i26 (in_c 1 rfl) rfl; have a6 := (in_c 1 rfl); unfold In at a6; have a7 := i17; unfold In at a7; have a8 := t_add e110 j17_2 (in_c (-1) rfl) rfl; have a9 := (in_c (-1) rfl); unfold In at a9; have a10 := i225; unfold In at a10; have a11 := t_sub e137 i128 (in_c 1 rfl) rfl; have a12 := i120; unfold In at a12; have a13 := t_sub e119 i110 (in_c 1 rfl) rfl; have a14 := i24; unfold In at a14; have a15 := t_add e24 h1 (in_c 1 rfl) rfl; have oc := oc_408_109; omega)]))))); have h8 := c26; rw [he] at h8; have a0 := h1; unfold In at a0; have a1 := i26; unfold In at a1; have a2 := j17_2; unfold In at a2; have a3 := i84; unfold In at a3; have a4 := i226; unfold In at a4; have a5 := t_add e226 i26 (in_c 1 rfl) rfl; have a6 := (in_c 1 rfl); unfold In at a6; have a7 := i17; unfold In at a7; have a8 := t_add e110 j17_2 (in_c (-1) rfl) rfl; have a9 := (in_c (-1) rfl); unfold In at a9; have a10 := i225; unfold In at a10; have a11 := t_sub e137 i128 (in_c 1 rfl) rfl; have a12 := i120; unfold In at a12; have a13 := t_sub e119 i110 (in_c 1 rfl) rfl; have a14 := i24; unfold In at a14; have a15 := t_add e24 h1 (in_c 1 rfl) rfl; have oc := oc_408_109; omega
                      exact gg_w (by omega) (gg_f (gf_cons rfl (gf_cons rfl (gf_cons rfl (gf_cons rfl gf_nil)))) (ih17 (sL sc17 193 z137.toNatClampNeg (Int64.ofInt 1)) z110 z226 hI225 (fr_sL rfl hFc17) i17 (in_w 0 120 i226 rfl) n17 n17a n17b n17c (m_up mm17 (t_add e226 i26 (in_c 1 rfl) rfl) (in_w 1 1 (in_c 1 rfl) rfl))))
                  · skip
                    have i198 := r_eq1 60 60 c198 i84 (in_c 60 rfl) rfl
                    refine g_lload 203 (gd rfl) rfl rfl ?_
                    refine g_lload 205 (gd rfl) rfl rfl ?_
                    refine g_lcmp 206 (gd rfl) rfl (fun z205 e205 => ?_)
                    have i205 := lc_in e205
                    refine g_if_ge 209 224 (gd rfl) rfl rfl (fun c206 => ?_) (fun c206 => ?_)
                    · skip
                      have i206 := z_ge 0 1 c206 i205 rfl
                      have c206a := lc_ge e205 c206
                      refine g_lconst 0 225 (gd rfl) rfl rfl ?_
                      have i225 : In z137 0 199 := by have a0 := h1; unfold In at a0; have a1 := i26; unfold In at a1; have a2 := j17_2; unfold In at a2; have a3 := i198; unfold In at a3; have a4 := i128; unfold In at a4; have a5 := t_add e110 j17_2 (in_c (-1) rfl) rfl; have a6 := (in_c (-1) rfl); unfold In at a6; have a7 := i137; unfold In at a7; have a8 := t_sub e137 i128 (in_c 1 rfl) rfl; have a9 := (in_c 1 rfl); unfold In at a9; have a10 := i120; unfold In at a10; have a11 := t_sub e119 i110 (in_c 1 rfl) rfl; have a12 := i24; unfold In at a12; have a13 := t_add e24 h1 (in_c 1 rfl) rfl; have oc := oc_408_109; exact ⟨by omega, by omega⟩
                      refine g_lastore 226 (gd rfl) rfl (n := 200) rfl (in_ix i225 rfl) ?_
                      have hI225 := inv_sL (q := 193) (j := z137.toNatClampNeg) (x := (Int64.ofInt 0)) hIc17 rfl (l_rng (Int64.ofInt 0))
                      refine g_iinc 229 (gd rfl) rfl rfl (Nat.le_of_ble_eq_true rfl) (fun z226 e226 => ?_)
                      have i226 := in_add 1 120 e226 i26 (in_c 1 rfl) rfl rfl
                      refine g_goto 17 (gd rfl) rfl ?_
                      have i17 : In z110 0 120 := by exact ⟨by have a0 := h1; unfold In at a0; have a1 := i26; unfold In at a1; have a2 := j17_2; unfold In at a2; have a3 := i198; unfold In at a3; have a4 := i226; unfold In at a4; have a5 := t_add e226 i26 (in_c 1 rfl) rfl; have a6 := (in_c 1 rfl); unfold In at a6; have a7 := i128; unfold In at a7; have a8 := t_add e110 j17_2 (in_c (-1) rfl) rfl; have a9 := (in_c (-1) rfl); unfold In at a9; have a10 := i225; unfold In at a10; have a11 := t_sub e137 i128 (in_c 1 rfl) rfl; have a12 := i120; unfold In at a12; have a13 := t_sub e119 i110 (in_c 1 rfl) rfl; have a14 := i24; unfold In at a14; have a15 := t_add e24 h1 (in_c 1 rfl) rfl; have oc := oc_408_109; omega, by have a0 := h1; unfold In at a0; have a1 := i26; unfold In at a1; have a2 := j17_2; unfold In at a2; have a3 := i198; unfold In at a3; have a4 := i226; unfold In at a4; have a5 := t_add e226 i26 (in_c 1 rfl) rfl; have a6 := (in_c 1 rfl); unfold In at a6; have a7 := i128; unfold In at a7; have a8 := t_add e110 j17_2 (in_c (-1) rfl) rfl; have a9 := (in_c (-1) rfl); unfold In at a9; have a10 := i225; unfold In at a10; have a11 := t_sub e137 i128 (in_c 1 rfl) rfl; have a12 := i120; unfold In at a12; have a13 := t_sub e119 i110 (in_c 1 rfl) rfl; have a14 := i24; unfold In at a14; have a15 := t_add e24 h1 (in_c 1 rfl) rfl; have oc := oc_408_109; omega⟩
                      have n17 : (z110).toInt ≤ (z226).toInt := by have a0 := h1; unfold In at a0; have a1 := i26; unfold In at a1; have a2 := j17_2; unfold In at a2; have a3 := i198; unfold In at a3; have a4 := i226; unfold In at a4; have a5 := t_add e226 i26 (in_c 1 rfl) rfl; have a6 := (in_c 1 rfl); unfold In at a6; have a7 := i17; unfold In at a7; have a8 := t_add e110 j17_2 (in_c (-1) rfl) rfl; have a9 := (in_c (-1) rfl); unfold In at a9; have a10 := i225; unfold In at a10; have a11 := t_sub e137 i128 (in_c 1 rfl) rfl; have a12 := i120; unfold In at a12; have a13 := t_sub e119 i110 (in_c 1 rfl) rfl; have a14 := i24; unfold In at a14; have a15 := t_add e24 h1 (in_c 1 rfl) rfl; have oc := oc_408_109; omega
                      have n17a : WS (sL sc17 193 z137.toNatClampNeg (Int64.ofInt 0)) x1 z226 z110 := by first | exact hk2 _ _ (by have a0 := h1; unfold In at a0; have a1 := i26; unfold In at a1; have a2 := j17_2; unfold In at a2; have a3 := i198; unfold In at a3; have a4 := i226; unfold In at a4; have a5 := t_add e226 i26 (in_c 1 rfl) rfl; have a6 := (in_c 1 rfl); unfold In at a6; have a7 := i17; unfold In at a7; have a8 := t_add e110 j17_2 (in_c (-1) rfl) rfl; have a9 := (in_c (-1) rfl); unfold In at a9; have a10 := i225; unfold In at a10; have a11 := t_sub e137 i128 (in_c 1 rfl) rfl; have a12 := i120; unfold In at a12; have a13 := t_sub e119 i110 (in_c 1 rfl) rfl; have a14 := i24; unfold In at a14; have a15 := t_add e24 h1 (in_c 1 rfl) rfl; have oc := oc_408_109; omega) (by have a0 := h1; unfold In at a0; have a1 := i26; unfold In at a1; have a2 := j17_2; unfold In at a2; have a3 := i198; unfold In at a3; have a4 := i226; unfold In at a4; have a5 := t_add e226 i26 (in_c 1 rfl) rfl; have a6 := (in_c 1 rfl); unfold In at a6; have a7 := i17; unfold In at a7; have a8 := t_add e110 j17_2 (in_c (-1) rfl) rfl; have a9 := (in_c (-1) rfl); unfold In at a9; have a10 := i225; unfold In at a10; have a11 := t_sub e137 i128 (in_c 1 rfl) rfl; have a12 := i120; unfold In at a12; have a13 := t_sub e119 i110 (in_c 1 rfl) rfl; have a14 := i24; unfold In at a14; have a15 := t_add e24 h1 (in_c 1 rfl) rfl; have oc := oc_408_109; omega) | exact ws_0 rfl (by first | exact (by decide) | exact i15.1) (by unfold wa; first | (rw [if_pos c3]; rfl) | (rw [if_neg c3, e15]; rfl))
                      have n17b : EVI (fun j => rcd (s.1 184 j).toInt (s.1 185 j).toInt) (fun j => (s.2.1 194 j).toInt) ((wa s x1 : Nat) : Int) (z226).toInt (z110).toInt ((sL sc17 193 z137.toNatClampNeg (Int64.ofInt 0)).2.1 193) := by have he : z25 = (s.1 186 ((x1).toInt + 1).toNat) := (e25.trans ((congrFun (hFc17.1 186 rfl) _).trans (congrArg (s.1 186) (show (z24).toInt.toNat = ((x1).toInt + 1).toNat from (by rw [show (z24).toInt = (x1).toInt + 1 from (by have a0 := h1; unfold In at a0; have a1 := i26; unfold In at a1; have a2 := j17_2; unfold In at a2; have a3 := i198; unfold In at a3; have a4 := i226; unfold In at a4; have a5 := t_add e226 i26 (in_c 1 rfl) rfl; have a6 := (in_c 1 rfl); unfold In at a6; have a7 := i17; unfold In at a7; have a8 := t_add e110 j17_2 (in_c (-1) rfl) rfl; have a9 := (in_c (-1) rfl); unfold In at a9; have a10 := i225; unfold In at a10; have a11 := t_sub e137 i128 (in_c 1 rfl) rfl; have a12 := i120; unfold In at a12; have a13 := t_sub e119 i110 (in_c 1 rfl) rfl; have a14 := i24; unfold In at a14; have a15 := t_add e24 h1 (in_c 1 rfl) rfl; have oc := oc_408_109; omega)]))))); have hle : ((s.1 186 ((x1).toInt + 1).toNat)).toInt ≤ (s.1 186 2).toInt := (by have h9 := q_2.2; by_cases hx : (x1).toInt = 0; (rw [hx]; exact Int.le_of_lt h9); (rw [show ((x1).toInt + 1).toNat = 2 from (by have a0 := h1; unfold In at a0; have a1 := i26; unfold In at a1; have a2 := j17_2; unfold In at a2; have a3 := i198; unfold In at a3; have a4 := i226; unfold In at a4; have a5 := t_add e226 i26 (in_c 1 rfl) rfl; have a6 := (in_c 1 rfl); unfold In at a6; have a7 := i17; unfold In at a7; have a8 := t_add e110 j17_2 (in_c (-1) rfl) rfl; have a9 := (in_c (-1) rfl); unfold In at a9; have a10 := i225; unfold In at a10; have a11 := t_sub e137 i128 (in_c 1 rfl) rfl; have a12 := i120; unfold In at a12; have a13 := t_sub e119 i110 (in_c 1 rfl) rfl; have a14 := i24; unfold In at a14; have a15 := t_add e24 h1 (in_c 1 rfl) rfl; have oc := oc_408_109; omega)]; exact Int.le_refl _)); have hw : s.1 184 (y17_3).toInt.toNat = z34 := (e34.trans (congrFun (hFc17.1 184 rfl) _)).symm; have ok := q_1 (y17_3).toInt.toNat (by have h8 := c26; have ei : (((y17_3).toInt.toNat : Nat) : Int) = (y17_3).toInt := clx (by have a0 := h1; unfold In at a0; have a1 := i26; unfold In at a1; have a2 := j17_2; unfold In at a2; have a3 := i198; unfold In at a3; have a4 := i226; unfold In at a4; have a5 := t_add e226 i26 (in_c 1 rfl) rfl; have a6 := (in_c 1 rfl); unfold In at a6; have a7 := i17; unfold In at a7; have a8 := t_add e110 j17_2 (in_c (-1) rfl) rfl; have a9 := (in_c (-1) rfl); unfold In at a9; have a10 := i225; unfold In at a10; have a11 := t_sub e137 i128 (in_c 1 rfl) rfl; have a12 := i120; unfold In at a12; have a13 := t_sub e119 i110 (in_c 1 rfl) rfl; have a14 := i24; unfold In at a14; have a15 := t_add e24 h1 (in_c 1 rfl) rfl; have oc := oc_408_109; omega); rw [he] at h8; omega); rw [hw] at ok; have ew := ok.1; have wl : wa s x1 ≤ (y17_3).toInt.toNat := (by have h7 := g17_0.2.2.1; unfold wa at h7 ⊢; rw [hFc17.1 186 rfl] at h7; exact h7); have hz : z119 = z137 := (by rw [e119, e137]); have e9 := e120; rw [hz] at e9; have ba : BD (z120).toInt := (by rw [e9]; exact evi_2 g17_1 (by have a0 := h1; unfold In at a0; have a1 := i26; unfold In at a1; have a2 := j17_2; unfold In at a2; have a3 := i198; unfold In at a3; have a4 := i226; unfold In at a4; have a5 := t_add e226 i26 (in_c 1 rfl) rfl; have a6 := (in_c 1 rfl); unfold In at a6; have a7 := i17; unfold In at a7; have a8 := t_add e110 j17_2 (in_c (-1) rfl) rfl; have a9 := (in_c (-1) rfl); unfold In at a9; have a10 := i225; unfold In at a10; have a11 := t_sub e137 i128 (in_c 1 rfl) rfl; have a12 := i120; unfold In at a12; have a13 := t_sub e119 i110 (in_c 1 rfl) rfl; have a14 := i24; unfold In at a14; have a15 := t_add e24 h1 (in_c 1 rfl) rfl; have oc := oc_408_109; omega) (by rw [(show ((z137).toNatClampNeg : Int) = (z137).toInt from clx (by have a0 := h1; unfold In at a0; have a1 := i26; unfold In at a1; have a2 := j17_2; unfold In at a2; have a3 := i198; unfold In at a3; have a4 := i226; unfold In at a4; have a5 := t_add e226 i26 (in_c 1 rfl) rfl; have a6 := (in_c 1 rfl); unfold In at a6; have a7 := i17; unfold In at a7; have a8 := t_add e110 j17_2 (in_c (-1) rfl) rfl; have a9 := (in_c (-1) rfl); unfold In at a9; have a10 := i225; unfold In at a10; have a11 := t_sub e137 i128 (in_c 1 rfl) rfl; have a12 := i120; unfold In at a12; have a13 := t_sub e119 i110 (in_c 1 rfl) rfl; have a14 := i24; unfold In at a14; have a15 := t_add e24 h1 (in_c 1 rfl) rfl; have oc := oc_408_109; omega))]; have a0 := h1; unfold In at a0; have a1 := i26; unfold In at a1; have a2 := j17_2; unfold In at a2; have a3 := i198; unfold In at a3; have a4 := i226; unfold In at a4; have a5 := t_add e226 i26 (in_c 1 rfl) rfl; have a6 := (in_c 1 rfl); unfold In at a6; have a7 := i17; unfold In at a7; have a8 := t_add e110 j17_2 (in_c (-1) rfl) rfl; have a9 := (in_c (-1) rfl); unfold In at a9; have a10 := i225; unfold In at a10; have a11 := t_sub e137 i128 (in_c 1 rfl) rfl; have a12 := i120; unfold In at a12; have a13 := t_sub e119 i110 (in_c 1 rfl) rfl; have a14 := i24; unfold In at a14; have a15 := t_add e24 h1 (in_c 1 rfl) rfl; have oc := oc_408_109; omega)); have bb : BD (z128).toInt := (by rw [e128]; exact evi_1 g17_1 (by have a0 := h1; unfold In at a0; have a1 := i26; unfold In at a1; have a2 := j17_2; unfold In at a2; have a3 := i198; unfold In at a3; have a4 := i226; unfold In at a4; have a5 := t_add e226 i26 (in_c 1 rfl) rfl; have a6 := (in_c 1 rfl); unfold In at a6; have a7 := i17; unfold In at a7; have a8 := t_add e110 j17_2 (in_c (-1) rfl) rfl; have a9 := (in_c (-1) rfl); unfold In at a9; have a10 := i225; unfold In at a10; have a11 := t_sub e137 i128 (in_c 1 rfl) rfl; have a12 := i120; unfold In at a12; have a13 := t_sub e119 i110 (in_c 1 rfl) rfl; have a14 := i24; unfold In at a14; have a15 := t_add e24 h1 (in_c 1 rfl) rfl; have oc := oc_408_109; omega) (by rw [(show ((z110).toNatClampNeg : Int) = (z110).toInt from clx (by have a0 := h1; unfold In at a0; have a1 := i26; unfold In at a1; have a2 := j17_2; unfold In at a2; have a3 := i198; unfold In at a3; have a4 := i226; unfold In at a4; have a5 := t_add e226 i26 (in_c 1 rfl) rfl; have a6 := (in_c 1 rfl); unfold In at a6; have a7 := i17; unfold In at a7; have a8 := t_add e110 j17_2 (in_c (-1) rfl) rfl; have a9 := (in_c (-1) rfl); unfold In at a9; have a10 := i225; unfold In at a10; have a11 := t_sub e137 i128 (in_c 1 rfl) rfl; have a12 := i120; unfold In at a12; have a13 := t_sub e119 i110 (in_c 1 rfl) rfl; have a14 := i24; unfold In at a14; have a15 := t_add e24 h1 (in_c 1 rfl) rfl; have oc := oc_408_109; omega))]; have a0 := h1; unfold In at a0; have a1 := i26; unfold In at a1; have a2 := j17_2; unfold In at a2; have a3 := i198; unfold In at a3; have a4 := i226; unfold In at a4; have a5 := t_add e226 i26 (in_c 1 rfl) rfl; have a6 := (in_c 1 rfl); unfold In at a6; have a7 := i17; unfold In at a7; have a8 := t_add e110 j17_2 (in_c (-1) rfl) rfl; have a9 := (in_c (-1) rfl); unfold In at a9; have a10 := i225; unfold In at a10; have a11 := t_sub e137 i128 (in_c 1 rfl) rfl; have a12 := i120; unfold In at a12; have a13 := t_sub e119 i110 (in_c 1 rfl) rfl; have a14 := i24; unfold In at a14; have a15 := t_add e24 h1 (in_c 1 rfl) rfl; have oc := oc_408_109; omega)); rw [sL_v]; exact evi_b (j1 := (z110).toNatClampNeg) g17_1 (Int.natCast_nonneg _) (by have a0 := h1; unfold In at a0; have a1 := i26; unfold In at a1; have a2 := j17_2; unfold In at a2; have a3 := i198; unfold In at a3; have a4 := i226; unfold In at a4; have a5 := t_add e226 i26 (in_c 1 rfl) rfl; have a6 := (in_c 1 rfl); unfold In at a6; have a7 := i17; unfold In at a7; have a8 := t_add e110 j17_2 (in_c (-1) rfl) rfl; have a9 := (in_c (-1) rfl); unfold In at a9; have a10 := i225; unfold In at a10; have a11 := t_sub e137 i128 (in_c 1 rfl) rfl; have a12 := i120; unfold In at a12; have a13 := t_sub e119 i110 (in_c 1 rfl) rfl; have a14 := i24; unfold In at a14; have a15 := t_add e24 h1 (in_c 1 rfl) rfl; have oc := oc_408_109; omega) (by have a0 := h1; unfold In at a0; have a1 := i26; unfold In at a1; have a2 := j17_2; unfold In at a2; have a3 := i198; unfold In at a3; have a4 := i226; unfold In at a4; have a5 := t_add e226 i26 (in_c 1 rfl) rfl; have a6 := (in_c 1 rfl); unfold In at a6; have a7 := i17; unfold In at a7; have a8 := t_add e110 j17_2 (in_c (-1) rfl) rfl; have a9 := (in_c (-1) rfl); unfold In at a9; have a10 := i225; unfold In at a10; have a11 := t_sub e137 i128 (in_c 1 rfl) rfl; have a12 := i120; unfold In at a12; have a13 := t_sub e119 i110 (in_c 1 rfl) rfl; have a14 := i24; unfold In at a14; have a15 := t_add e24 h1 (in_c 1 rfl) rfl; have oc := oc_408_109; omega) (by have a0 := h1; unfold In at a0; have a1 := i26; unfold In at a1; have a2 := j17_2; unfold In at a2; have a3 := i198; unfold In at a3; have a4 := i226; unfold In at a4; have a5 := t_add e226 i26 (in_c 1 rfl) rfl; have a6 := (in_c 1 rfl); unfold In at a6; have a7 := i17; unfold In at a7; have a8 := t_add e110 j17_2 (in_c (-1) rfl) rfl; have a9 := (in_c (-1) rfl); unfold In at a9; have a10 := i225; unfold In at a10; have a11 := t_sub e137 i128 (in_c 1 rfl) rfl; have a12 := i120; unfold In at a12; have a13 := t_sub e119 i110 (in_c 1 rfl) rfl; have a14 := i24; unfold In at a14; have a15 := t_add e24 h1 (in_c 1 rfl) rfl; have oc := oc_408_109; omega) (by have a0 := h1; unfold In at a0; have a1 := i26; unfold In at a1; have a2 := j17_2; unfold In at a2; have a3 := i198; unfold In at a3; have a4 := i226; unfold In at a4; have a5 := t_add e226 i26 (in_c 1 rfl) rfl; have a6 := (in_c 1 rfl); unfold In at a6; have a7 := i17; unfold In at a7; have a8 := t_add e110 j17_2 (in_c (-1) rfl) rfl; have a9 := (in_c (-1) rfl); unfold In at a9; have a10 := i225; unfold In at a10; have a11 := t_sub e137 i128 (in_c 1 rfl) rfl; have a12 := i120; unfold In at a12; have a13 := t_sub e119 i110 (in_c 1 rfl) rfl; have a14 := i24; unfold In at a14; have a15 := t_add e24 h1 (in_c 1 rfl) rfl; have oc := oc_408_109; omega) (by rw [(show ((z137).toNatClampNeg : Int) = (z137).toInt from clx (by have a0 := h1; unfold In at a0; have a1 := i26; unfold In at a1; have a2 := j17_2; unfold In at a2; have a3 := i198; unfold In at a3; have a4 := i226; unfold In at a4; have a5 := t_add e226 i26 (in_c 1 rfl) rfl; have a6 := (in_c 1 rfl); unfold In at a6; have a7 := i17; unfold In at a7; have a8 := t_add e110 j17_2 (in_c (-1) rfl) rfl; have a9 := (in_c (-1) rfl); unfold In at a9; have a10 := i225; unfold In at a10; have a11 := t_sub e137 i128 (in_c 1 rfl) rfl; have a12 := i120; unfold In at a12; have a13 := t_sub e119 i110 (in_c 1 rfl) rfl; have a14 := i24; unfold In at a14; have a15 := t_add e24 h1 (in_c 1 rfl) rfl; have oc := oc_408_109; omega))]; have a0 := h1; unfold In at a0; have a1 := i26; unfold In at a1; have a2 := j17_2; unfold In at a2; have a3 := i198; unfold In at a3; have a4 := i226; unfold In at a4; have a5 := t_add e226 i26 (in_c 1 rfl) rfl; have a6 := (in_c 1 rfl); unfold In at a6; have a7 := i17; unfold In at a7; have a8 := t_add e110 j17_2 (in_c (-1) rfl) rfl; have a9 := (in_c (-1) rfl); unfold In at a9; have a10 := i225; unfold In at a10; have a11 := t_sub e137 i128 (in_c 1 rfl) rfl; have a12 := i120; unfold In at a12; have a13 := t_sub e119 i110 (in_c 1 rfl) rfl; have a14 := i24; unfold In at a14; have a15 := t_add e24 h1 (in_c 1 rfl) rfl; have oc := oc_408_109; omega) (by rw [(show ((z110).toNatClampNeg : Int) = (z110).toInt from clx (by have a0 := h1; unfold In at a0; have a1 := i26; unfold In at a1; have a2 := j17_2; unfold In at a2; have a3 := i198; unfold In at a3; have a4 := i226; unfold In at a4; have a5 := t_add e226 i26 (in_c 1 rfl) rfl; have a6 := (in_c 1 rfl); unfold In at a6; have a7 := i17; unfold In at a7; have a8 := t_add e110 j17_2 (in_c (-1) rfl) rfl; have a9 := (in_c (-1) rfl); unfold In at a9; have a10 := i225; unfold In at a10; have a11 := t_sub e137 i128 (in_c 1 rfl) rfl; have a12 := i120; unfold In at a12; have a13 := t_sub e119 i110 (in_c 1 rfl) rfl; have a14 := i24; unfold In at a14; have a15 := t_add e24 h1 (in_c 1 rfl) rfl; have oc := oc_408_109; omega))]; have a0 := h1; unfold In at a0; have a1 := i26; unfold In at a1; have a2 := j17_2; unfold In at a2; have a3 := i198; unfold In at a3; have a4 := i226; unfold In at a4; have a5 := t_add e226 i26 (in_c 1 rfl) rfl; have a6 := (in_c 1 rfl); unfold In at a6; have a7 := i17; unfold In at a7; have a8 := t_add e110 j17_2 (in_c (-1) rfl) rfl; have a9 := (in_c (-1) rfl); unfold In at a9; have a10 := i225; unfold In at a10; have a11 := t_sub e137 i128 (in_c 1 rfl) rfl; have a12 := i120; unfold In at a12; have a13 := t_sub e119 i110 (in_c 1 rfl) rfl; have a14 := i24; unfold In at a14; have a15 := t_add e24 h1 (in_c 1 rfl) rfl; have oc := oc_408_109; omega) (by show rcd (s.1 184 (y17_3).toInt.toNat).toInt (s.1 185 (y17_3).toInt.toNat).toInt = _; rw [hw]; exact rcd_d (by have a0 := h1; unfold In at a0; have a1 := i26; unfold In at a1; have a2 := j17_2; unfold In at a2; have a3 := i198; unfold In at a3; have a4 := i226; unfold In at a4; have a5 := t_add e226 i26 (in_c 1 rfl) rfl; have a6 := (in_c 1 rfl); unfold In at a6; have a7 := i17; unfold In at a7; have a8 := t_add e110 j17_2 (in_c (-1) rfl) rfl; have a9 := (in_c (-1) rfl); unfold In at a9; have a10 := i225; unfold In at a10; have a11 := t_sub e137 i128 (in_c 1 rfl) rfl; have a12 := i120; unfold In at a12; have a13 := t_sub e119 i110 (in_c 1 rfl) rfl; have a14 := i24; unfold In at a14; have a15 := t_add e24 h1 (in_c 1 rfl) rfl; have oc := oc_408_109; omega)) (by have a0 := h1; unfold In at a0; have a1 := i26; unfold In at a1; have a2 := j17_2; unfold In at a2; have a3 := i198; unfold In at a3; have a4 := i226; unfold In at a4; have a5 := t_add e226 i26 (in_c 1 rfl) rfl; have a6 := (in_c 1 rfl); unfold In at a6; have a7 := i17; unfold In at a7; have a8 := t_add e110 j17_2 (in_c (-1) rfl) rfl; have a9 := (in_c (-1) rfl); unfold In at a9; have a10 := i225; unfold In at a10; have a11 := t_sub e137 i128 (in_c 1 rfl) rfl; have a12 := i120; unfold In at a12; have a13 := t_sub e119 i110 (in_c 1 rfl) rfl; have a14 := i24; unfold In at a14; have a15 := t_add e24 h1 (in_c 1 rfl) rfl; have oc := oc_408_109; omega) (by omega) (by rw [← e9, ← e128, show 1000100 + (z34).toInt - 1000100 = (z34).toInt from (by omega)]; rw [cmb_l (by have a0 := h1; unfold In at a0; have a1 := i26; unfold In at a1; have a2 := j17_2; unfold In at a2; have a3 := i198; unfold In at a3; have a4 := i226; unfold In at a4; have a5 := t_add e226 i26 (in_c 1 rfl) rfl; have a6 := (in_c 1 rfl); unfold In at a6; have a7 := i17; unfold In at a7; have a8 := t_add e110 j17_2 (in_c (-1) rfl) rfl; have a9 := (in_c (-1) rfl); unfold In at a9; have a10 := i225; unfold In at a10; have a11 := t_sub e137 i128 (in_c 1 rfl) rfl; have a12 := i120; unfold In at a12; have a13 := t_sub e119 i110 (in_c 1 rfl) rfl; have a14 := i24; unfold In at a14; have a15 := t_add e24 h1 (in_c 1 rfl) rfl; have oc := oc_408_109; omega)]; first | (rw [if_pos (by have a0 := h1; unfold In at a0; have a1 := i26; unfold In at a1; have a2 := j17_2; unfold In at a2; have a3 := i198; unfold In at a3; have a4 := i226; unfold In at a4; have a5 := t_add e226 i26 (in_c 1 rfl) rfl; have a6 := (in_c 1 rfl); unfold In at a6; have a7 := i17; unfold In at a7; have a8 := t_add e110 j17_2 (in_c (-1) rfl) rfl; have a9 := (in_c (-1) rfl); unfold In at a9; have a10 := i225; unfold In at a10; have a11 := t_sub e137 i128 (in_c 1 rfl) rfl; have a12 := i120; unfold In at a12; have a13 := t_sub e119 i110 (in_c 1 rfl) rfl; have a14 := i24; unfold In at a14; have a15 := t_add e24 h1 (in_c 1 rfl) rfl; have oc := oc_408_109; omega)]; rfl) | (rw [if_neg (by have a0 := h1; unfold In at a0; have a1 := i26; unfold In at a1; have a2 := j17_2; unfold In at a2; have a3 := i198; unfold In at a3; have a4 := i226; unfold In at a4; have a5 := t_add e226 i26 (in_c 1 rfl) rfl; have a6 := (in_c 1 rfl); unfold In at a6; have a7 := i17; unfold In at a7; have a8 := t_add e110 j17_2 (in_c (-1) rfl) rfl; have a9 := (in_c (-1) rfl); unfold In at a9; have a10 := i225; unfold In at a10; have a11 := t_sub e137 i128 (in_c 1 rfl) rfl; have a12 := i120; unfold In at a12; have a13 := t_sub e119 i110 (in_c 1 rfl) rfl; have a14 := i24; unfold In at a14; have a15 := t_add e24 h1 (in_c 1 rfl) rfl; have oc := oc_408_109; omega)]; rfl))
                      have n17c : (z226).toInt ≤ ((s.1 186 ((x1).toInt + 1).toNat)).toInt := by have he : z25 = (s.1 186 ((x1).toInt + 1).toNat) := (e25.trans ((congrFun (hFc17.1 186 rfl) _).trans (congrArg (s.1 186) (show (z24).toInt.toNat = ((x1).toInt + 1).toNat from (by rw [show (z24).toInt = (x1).toInt + 1 from (by have a0 := h1; unfold In at a0; have a1 := i26; unfold In at a1; have a2 := j17_2; unfold In at a2; have a3 := i198; unfold In at a3; have a4 := i226; unfold In at a4; have a5 := t_add e226 i26 (in_c 1 rfl) rfl; have a6 := (in_c 1 rfl); unfold In at a6; have a7 := i17; unfold In at a7; have a8 := t_add e110 j17_2 (in_c (-1) rfl) rfl; have a9 := (in_c (-1) rfl); unfold In at a9; have a10 := i225; unfold In at a10; have a11 := t_sub e137 i128 (in_c 1 rfl) rfl; have a12 := i120; unfold In at a12; have a13 := t_sub e119 i110 (in_c 1 rfl) rfl; have a14 := i24; unfold In at a14; have a15 := t_add e24 h1 (in_c 1 rfl) rfl; have oc := oc_408_109; omega)]))))); have h8 := c26; rw [he] at h8; have a0 := h1; unfold In at a0; have a1 := i26; unfold In at a1; have a2 := j17_2; unfold In at a2; have a3 := i198; unfold In at a3; have a4 := i226; unfold In at a4; have a5 := t_add e226 i26 (in_c 1 rfl) rfl; have a6 := (in_c 1 rfl); unfold In at a6; have a7 := i17; unfold In at a7; have a8 := t_add e110 j17_2 (in_c (-1) rfl) rfl; have a9 := (in_c (-1) rfl); unfold In at a9; have a10 := i225; unfold In at a10; have a11 := t_sub e137 i128 (in_c 1 rfl) rfl; have a12 := i120; unfold In at a12; have a13 := t_sub e119 i110 (in_c 1 rfl) rfl; have a14 := i24; unfold In at a14; have a15 := t_add e24 h1 (in_c 1 rfl) rfl; have oc := oc_408_109; omega
                      exact gg_w (by omega) (gg_f (gf_cons rfl (gf_cons rfl (gf_cons rfl (gf_cons rfl gf_nil)))) (ih17 (sL sc17 193 z137.toNatClampNeg (Int64.ofInt 0)) z110 z226 hI225 (fr_sL rfl hFc17) i17 (in_w 0 120 i226 rfl) n17 n17a n17b n17c (m_up mm17 (t_add e226 i26 (in_c 1 rfl) rfl) (in_w 1 1 (in_c 1 rfl) rfl))))
                    · skip
                      have i206 := z_lt (-1) (-1) c206 i205 rfl
                      have c206a := lc_lt e205 c206
                      have i206a := lr_lt1 (-9223372036854775808) 9223372036854775806 c206a (l_rng z120) (l_rng z128) rfl
                      have i206b := lr_lt2 (-9223372036854775807) 9223372036854775807 c206a (l_rng z120) (l_rng z128) rfl
                      refine g_goto 220 (gd rfl) rfl ?_
                      refine g_lconst 1 221 (gd rfl) rfl rfl ?_
                      refine g_goto 225 (gd rfl) rfl ?_
                      have i225 : In z137 0 199 := by have a0 := h1; unfold In at a0; have a1 := i26; unfold In at a1; have a2 := j17_2; unfold In at a2; have a3 := i198; unfold In at a3; have a4 := i128; unfold In at a4; have a5 := t_add e110 j17_2 (in_c (-1) rfl) rfl; have a6 := (in_c (-1) rfl); unfold In at a6; have a7 := i137; unfold In at a7; have a8 := t_sub e137 i128 (in_c 1 rfl) rfl; have a9 := (in_c 1 rfl); unfold In at a9; have a10 := i120; unfold In at a10; have a11 := t_sub e119 i110 (in_c 1 rfl) rfl; have a12 := i24; unfold In at a12; have a13 := t_add e24 h1 (in_c 1 rfl) rfl; have oc := oc_408_109; exact ⟨by omega, by omega⟩
                      refine g_lastore 226 (gd rfl) rfl (n := 200) rfl (in_ix i225 rfl) ?_
                      have hI225 := inv_sL (q := 193) (j := z137.toNatClampNeg) (x := (Int64.ofInt 1)) hIc17 rfl (l_rng (Int64.ofInt 1))
                      refine g_iinc 229 (gd rfl) rfl rfl (Nat.le_of_ble_eq_true rfl) (fun z226 e226 => ?_)
                      have i226 := in_add 1 120 e226 i26 (in_c 1 rfl) rfl rfl
                      refine g_goto 17 (gd rfl) rfl ?_
                      have i17 : In z110 0 120 := by exact ⟨by have a0 := h1; unfold In at a0; have a1 := i26; unfold In at a1; have a2 := j17_2; unfold In at a2; have a3 := i198; unfold In at a3; have a4 := i226; unfold In at a4; have a5 := t_add e226 i26 (in_c 1 rfl) rfl; have a6 := (in_c 1 rfl); unfold In at a6; have a7 := i128; unfold In at a7; have a8 := t_add e110 j17_2 (in_c (-1) rfl) rfl; have a9 := (in_c (-1) rfl); unfold In at a9; have a10 := i225; unfold In at a10; have a11 := t_sub e137 i128 (in_c 1 rfl) rfl; have a12 := i120; unfold In at a12; have a13 := t_sub e119 i110 (in_c 1 rfl) rfl; have a14 := i24; unfold In at a14; have a15 := t_add e24 h1 (in_c 1 rfl) rfl; have oc := oc_408_109; omega, by have a0 := h1; unfold In at a0; have a1 := i26; unfold In at a1; have a2 := j17_2; unfold In at a2; have a3 := i198; unfold In at a3; have a4 := i226; unfold In at a4; have a5 := t_add e226 i26 (in_c 1 rfl) rfl; have a6 := (in_c 1 rfl); unfold In at a6; have a7 := i128; unfold In at a7; have a8 := t_add e110 j17_2 (in_c (-1) rfl) rfl; have a9 := (in_c (-1) rfl); unfold In at a9; have a10 := i225; unfold In at a10; have a11 := t_sub e137 i128 (in_c 1 rfl) rfl; have a12 := i120; unfold In at a12; have a13 := t_sub e119 i110 (in_c 1 rfl) rfl; have a14 := i24; unfold In at a14; have a15 := t_add e24 h1 (in_c 1 rfl) rfl; have oc := oc_408_109; omega⟩
                      have n17 : (z110).toInt ≤ (z226).toInt := by have a0 := h1; unfold In at a0; have a1 := i26; unfold In at a1; have a2 := j17_2; unfold In at a2; have a3 := i198; unfold In at a3; have a4 := i226; unfold In at a4; have a5 := t_add e226 i26 (in_c 1 rfl) rfl; have a6 := (in_c 1 rfl); unfold In at a6; have a7 := i17; unfold In at a7; have a8 := t_add e110 j17_2 (in_c (-1) rfl) rfl; have a9 := (in_c (-1) rfl); unfold In at a9; have a10 := i225; unfold In at a10; have a11 := t_sub e137 i128 (in_c 1 rfl) rfl; have a12 := i120; unfold In at a12; have a13 := t_sub e119 i110 (in_c 1 rfl) rfl; have a14 := i24; unfold In at a14; have a15 := t_add e24 h1 (in_c 1 rfl) rfl; have oc := oc_408_109; omega
                      have n17a : WS (sL sc17 193 z137.toNatClampNeg (Int64.ofInt 1)) x1 z226 z110 := by first | exact hk2 _ _ (by have a0 := h1; unfold In at a0; have a1 := i26; unfold In at a1; have a2 := j17_2; unfold In at a2; have a3 := i198; unfold In at a3; have a4 := i226; unfold In at a4; have a5 := t_add e226 i26 (in_c 1 rfl) rfl; have a6 := (in_c 1 rfl); unfold In at a6; have a7 := i17; unfold In at a7; have a8 := t_add e110 j17_2 (in_c (-1) rfl) rfl; have a9 := (in_c (-1) rfl); unfold In at a9; have a10 := i225; unfold In at a10; have a11 := t_sub e137 i128 (in_c 1 rfl) rfl; have a12 := i120; unfold In at a12; have a13 := t_sub e119 i110 (in_c 1 rfl) rfl; have a14 := i24; unfold In at a14; have a15 := t_add e24 h1 (in_c 1 rfl) rfl; have oc := oc_408_109; omega) (by have a0 := h1; unfold In at a0; have a1 := i26; unfold In at a1; have a2 := j17_2; unfold In at a2; have a3 := i198; unfold In at a3; have a4 := i226; unfold In at a4; have a5 := t_add e226 i26 (in_c 1 rfl) rfl; have a6 := (in_c 1 rfl); unfold In at a6; have a7 := i17; unfold In at a7; have a8 := t_add e110 j17_2 (in_c (-1) rfl) rfl; have a9 := (in_c (-1) rfl); unfold In at a9; have a10 := i225; unfold In at a10; have a11 := t_sub e137 i128 (in_c 1 rfl) rfl; have a12 := i120; unfold In at a12; have a13 := t_sub e119 i110 (in_c 1 rfl) rfl; have a14 := i24; unfold In at a14; have a15 := t_add e24 h1 (in_c 1 rfl) rfl; have oc := oc_408_109; omega) | exact ws_0 rfl (by first | exact (by decide) | exact i15.1) (by unfold wa; first | (rw [if_pos c3]; rfl) | (rw [if_neg c3, e15]; rfl))
                      have n17b : EVI (fun j => rcd (s.1 184 j).toInt (s.1 185 j).toInt) (fun j => (s.2.1 194 j).toInt) ((wa s x1 : Nat) : Int) (z226).toInt (z110).toInt ((sL sc17 193 z137.toNatClampNeg (Int64.ofInt 1)).2.1 193) := by have he : z25 = (s.1 186 ((x1).toInt + 1).toNat) := (e25.trans ((congrFun (hFc17.1 186 rfl) _).trans (congrArg (s.1 186) (show (z24).toInt.toNat = ((x1).toInt + 1).toNat from (by rw [show (z24).toInt = (x1).toInt + 1 from (by have a0 := h1; unfold In at a0; have a1 := i26; unfold In at a1; have a2 := j17_2; unfold In at a2; have a3 := i198; unfold In at a3; have a4 := i226; unfold In at a4; have a5 := t_add e226 i26 (in_c 1 rfl) rfl; have a6 := (in_c 1 rfl); unfold In at a6; have a7 := i17; unfold In at a7; have a8 := t_add e110 j17_2 (in_c (-1) rfl) rfl; have a9 := (in_c (-1) rfl); unfold In at a9; have a10 := i225; unfold In at a10; have a11 := t_sub e137 i128 (in_c 1 rfl) rfl; have a12 := i120; unfold In at a12; have a13 := t_sub e119 i110 (in_c 1 rfl) rfl; have a14 := i24; unfold In at a14; have a15 := t_add e24 h1 (in_c 1 rfl) rfl; have oc := oc_408_109; omega)]))))); have hle : ((s.1 186 ((x1).toInt + 1).toNat)).toInt ≤ (s.1 186 2).toInt := (by have h9 := q_2.2; by_cases hx : (x1).toInt = 0; (rw [hx]; exact Int.le_of_lt h9); (rw [show ((x1).toInt + 1).toNat = 2 from (by have a0 := h1; unfold In at a0; have a1 := i26; unfold In at a1; have a2 := j17_2; unfold In at a2; have a3 := i198; unfold In at a3; have a4 := i226; unfold In at a4; have a5 := t_add e226 i26 (in_c 1 rfl) rfl; have a6 := (in_c 1 rfl); unfold In at a6; have a7 := i17; unfold In at a7; have a8 := t_add e110 j17_2 (in_c (-1) rfl) rfl; have a9 := (in_c (-1) rfl); unfold In at a9; have a10 := i225; unfold In at a10; have a11 := t_sub e137 i128 (in_c 1 rfl) rfl; have a12 := i120; unfold In at a12; have a13 := t_sub e119 i110 (in_c 1 rfl) rfl; have a14 := i24; unfold In at a14; have a15 := t_add e24 h1 (in_c 1 rfl) rfl; have oc := oc_408_109; omega)]; exact Int.le_refl _)); have hw : s.1 184 (y17_3).toInt.toNat = z34 := (e34.trans (congrFun (hFc17.1 184 rfl) _)).symm; have ok := q_1 (y17_3).toInt.toNat (by have h8 := c26; have ei : (((y17_3).toInt.toNat : Nat) : Int) = (y17_3).toInt := clx (by have a0 := h1; unfold In at a0; have a1 := i26; unfold In at a1; have a2 := j17_2; unfold In at a2; have a3 := i198; unfold In at a3; have a4 := i226; unfold In at a4; have a5 := t_add e226 i26 (in_c 1 rfl) rfl; have a6 := (in_c 1 rfl); unfold In at a6; have a7 := i17; unfold In at a7; have a8 := t_add e110 j17_2 (in_c (-1) rfl) rfl; have a9 := (in_c (-1) rfl); unfold In at a9; have a10 := i225; unfold In at a10; have a11 := t_sub e137 i128 (in_c 1 rfl) rfl; have a12 := i120; unfold In at a12; have a13 := t_sub e119 i110 (in_c 1 rfl) rfl; have a14 := i24; unfold In at a14; have a15 := t_add e24 h1 (in_c 1 rfl) rfl; have oc := oc_408_109; omega); rw [he] at h8; omega); rw [hw] at ok; have ew := ok.1; have wl : wa s x1 ≤ (y17_3).toInt.toNat := (by have h7 := g17_0.2.2.1; unfold wa at h7 ⊢; rw [hFc17.1 186 rfl] at h7; exact h7); have hz : z119 = z137 := (by rw [e119, e137]); have e9 := e120; rw [hz] at e9; have ba : BD (z120).toInt := (by rw [e9]; exact evi_2 g17_1 (by have a0 := h1; unfold In at a0; have a1 := i26; unfold In at a1; have a2 := j17_2; unfold In at a2; have a3 := i198; unfold In at a3; have a4 := i226; unfold In at a4; have a5 := t_add e226 i26 (in_c 1 rfl) rfl; have a6 := (in_c 1 rfl); unfold In at a6; have a7 := i17; unfold In at a7; have a8 := t_add e110 j17_2 (in_c (-1) rfl) rfl; have a9 := (in_c (-1) rfl); unfold In at a9; have a10 := i225; unfold In at a10; have a11 := t_sub e137 i128 (in_c 1 rfl) rfl; have a12 := i120; unfold In at a12; have a13 := t_sub e119 i110 (in_c 1 rfl) rfl; have a14 := i24; unfold In at a14; have a15 := t_add e24 h1 (in_c 1 rfl) rfl; have oc := oc_408_109; omega) (by rw [(show ((z137).toNatClampNeg : Int) = (z137).toInt from clx (by have a0 := h1; unfold In at a0; have a1 := i26; unfold In at a1; have a2 := j17_2; unfold In at a2; have a3 := i198; unfold In at a3; have a4 := i226; unfold In at a4; have a5 := t_add e226 i26 (in_c 1 rfl) rfl; have a6 := (in_c 1 rfl); unfold In at a6; have a7 := i17; unfold In at a7; have a8 := t_add e110 j17_2 (in_c (-1) rfl) rfl; have a9 := (in_c (-1) rfl); unfold In at a9; have a10 := i225; unfold In at a10; have a11 := t_sub e137 i128 (in_c 1 rfl) rfl; have a12 := i120; unfold In at a12; have a13 := t_sub e119 i110 (in_c 1 rfl) rfl; have a14 := i24; unfold In at a14; have a15 := t_add e24 h1 (in_c 1 rfl) rfl; have oc := oc_408_109; omega))]; have a0 := h1; unfold In at a0; have a1 := i26; unfold In at a1; have a2 := j17_2; unfold In at a2; have a3 := i198; unfold In at a3; have a4 := i226; unfold In at a4; have a5 := t_add e226 i26 (in_c 1 rfl) rfl; have a6 := (in_c 1 rfl); unfold In at a6; have a7 := i17; unfold In at a7; have a8 := t_add e110 j17_2 (in_c (-1) rfl) rfl; have a9 := (in_c (-1) rfl); unfold In at a9; have a10 := i225; unfold In at a10; have a11 := t_sub e137 i128 (in_c 1 rfl) rfl; have a12 := i120; unfold In at a12; have a13 := t_sub e119 i110 (in_c 1 rfl) rfl; have a14 := i24; unfold In at a14; have a15 := t_add e24 h1 (in_c 1 rfl) rfl; have oc := oc_408_109; omega)); have bb : BD (z128).toInt := (by rw [e128]; exact evi_1 g17_1 (by have a0 := h1; unfold In at a0; have a1 := i26; unfold In at a1; have a2 := j17_2; unfold In at a2; have a3 := i198; unfold In at a3; have a4 := i226; unfold In at a4; have a5 := t_add e226 i26 (in_c 1 rfl) rfl; have a6 := (in_c 1 rfl); unfold In at a6; have a7 := i17; unfold In at a7; have a8 := t_add e110 j17_2 (in_c (-1) rfl) rfl; have a9 := (in_c (-1) rfl); unfold In at a9; have a10 := i225; unfold In at a10; have a11 := t_sub e137 i128 (in_c 1 rfl) rfl; have a12 := i120; unfold In at a12; have a13 := t_sub e119 i110 (in_c 1 rfl) rfl; have a14 := i24; unfold In at a14; have a15 := t_add e24 h1 (in_c 1 rfl) rfl; have oc := oc_408_109; omega) (by rw [(show ((z110).toNatClampNeg : Int) = (z110).toInt from clx (by have a0 := h1; unfold In at a0; have a1 := i26; unfold In at a1; have a2 := j17_2; unfold In at a2; have a3 := i198; unfold In at a3; have a4 := i226; unfold In at a4; have a5 := t_add e226 i26 (in_c 1 rfl) rfl; have a6 := (in_c 1 rfl); unfold In at a6; have a7 := i17; unfold In at a7; have a8 := t_add e110 j17_2 (in_c (-1) rfl) rfl; have a9 := (in_c (-1) rfl); unfold In at a9; have a10 := i225; unfold In at a10; have a11 := t_sub e137 i128 (in_c 1 rfl) rfl; have a12 := i120; unfold In at a12; have a13 := t_sub e119 i110 (in_c 1 rfl) rfl; have a14 := i24; unfold In at a14; have a15 := t_add e24 h1 (in_c 1 rfl) rfl; have oc := oc_408_109; omega))]; have a0 := h1; unfold In at a0; have a1 := i26; unfold In at a1; have a2 := j17_2; unfold In at a2; have a3 := i198; unfold In at a3; have a4 := i226; unfold In at a4; have a5 := t_add e226 i26 (in_c 1 rfl) rfl; have a6 := (in_c 1 rfl); unfold In at a6; have a7 := i17; unfold In at a7; have a8 := t_add e110 j17_2 (in_c (-1) rfl) rfl; have a9 := (in_c (-1) rfl); unfold In at a9; have a10 := i225; unfold In at a10; have a11 := t_sub e137 i128 (in_c 1 rfl) rfl; have a12 := i120; unfold In at a12; have a13 := t_sub e119 i110 (in_c 1 rfl) rfl; have a14 := i24; unfold In at a14; have a15 := t_add e24 h1 (in_c 1 rfl) rfl; have oc := oc_408_109; omega)); rw [sL_v]; exact evi_b (j1 := (z110).toNatClampNeg) g17_1 (Int.natCast_nonneg _) (by have a0 := h1; unfold In at a0; have a1 := i26; unfold In at a1; have a2 := j17_2; unfold In at a2; have a3 := i198; unfold In at a3; have a4 := i226; unfold In at a4; have a5 := t_add e226 i26 (in_c 1 rfl) rfl; have a6 := (in_c 1 rfl); unfold In at a6; have a7 := i17; unfold In at a7; have a8 := t_add e110 j17_2 (in_c (-1) rfl) rfl; have a9 := (in_c (-1) rfl); unfold In at a9; have a10 := i225; unfold In at a10; have a11 := t_sub e137 i128 (in_c 1 rfl) rfl; have a12 := i120; unfold In at a12; have a13 := t_sub e119 i110 (in_c 1 rfl) rfl; have a14 := i24; unfold In at a14; have a15 := t_add e24 h1 (in_c 1 rfl) rfl; have oc := oc_408_109; omega) (by have a0 := h1; unfold In at a0; have a1 := i26; unfold In at a1; have a2 := j17_2; unfold In at a2; have a3 := i198; unfold In at a3; have a4 := i226; unfold In at a4; have a5 := t_add e226 i26 (in_c 1 rfl) rfl; have a6 := (in_c 1 rfl); unfold In at a6; have a7 := i17; unfold In at a7; have a8 := t_add e110 j17_2 (in_c (-1) rfl) rfl; have a9 := (in_c (-1) rfl); unfold In at a9; have a10 := i225; unfold In at a10; have a11 := t_sub e137 i128 (in_c 1 rfl) rfl; have a12 := i120; unfold In at a12; have a13 := t_sub e119 i110 (in_c 1 rfl) rfl; have a14 := i24; unfold In at a14; have a15 := t_add e24 h1 (in_c 1 rfl) rfl; have oc := oc_408_109; omega) (by have a0 := h1; unfold In at a0; have a1 := i26; unfold In at a1; have a2 := j17_2; unfold In at a2; have a3 := i198; unfold In at a3; have a4 := i226; unfold In at a4; have a5 := t_add e226 i26 (in_c 1 rfl) rfl; have a6 := (in_c 1 rfl); unfold In at a6; have a7 := i17; unfold In at a7; have a8 := t_add e110 j17_2 (in_c (-1) rfl) rfl; have a9 := (in_c (-1) rfl); unfold In at a9; have a10 := i225; unfold In at a10; have a11 := t_sub e137 i128 (in_c 1 rfl) rfl; have a12 := i120; unfold In at a12; have a13 := t_sub e119 i110 (in_c 1 rfl) rfl; have a14 := i24; unfold In at a14; have a15 := t_add e24 h1 (in_c 1 rfl) rfl; have oc := oc_408_109; omega) (by have a0 := h1; unfold In at a0; have a1 := i26; unfold In at a1; have a2 := j17_2; unfold In at a2; have a3 := i198; unfold In at a3; have a4 := i226; unfold In at a4; have a5 := t_add e226 i26 (in_c 1 rfl) rfl; have a6 := (in_c 1 rfl); unfold In at a6; have a7 := i17; unfold In at a7; have a8 := t_add e110 j17_2 (in_c (-1) rfl) rfl; have a9 := (in_c (-1) rfl); unfold In at a9; have a10 := i225; unfold In at a10; have a11 := t_sub e137 i128 (in_c 1 rfl) rfl; have a12 := i120; unfold In at a12; have a13 := t_sub e119 i110 (in_c 1 rfl) rfl; have a14 := i24; unfold In at a14; have a15 := t_add e24 h1 (in_c 1 rfl) rfl; have oc := oc_408_109; omega) (by rw [(show ((z137).toNatClampNeg : Int) = (z137).toInt from clx (by have a0 := h1; unfold In at a0; have a1 := i26; unfold In at a1; have a2 := j17_2; unfold In at a2; have a3 := i198; unfold In at a3; have a4 := i226; unfold In at a4; have a5 := t_add e226 i26 (in_c 1 rfl) rfl; have a6 := (in_c 1 rfl); unfold In at a6; have a7 := i17; unfold In at a7; have a8 := t_add e110 j17_2 (in_c (-1) rfl) rfl; have a9 := (in_c (-1) rfl); unfold In at a9; have a10 := i225; unfold In at a10; have a11 := t_sub e137 i128 (in_c 1 rfl) rfl; have a12 := i120; unfold In at a12; have a13 := t_sub e119 i110 (in_c 1 rfl) rfl; have a14 := i24; unfold In at a14; have a15 := t_add e24 h1 (in_c 1 rfl) rfl; have oc := oc_408_109; omega))]; have a0 := h1; unfold In at a0; have a1 := i26; unfold In at a1; have a2 := j17_2; unfold In at a2; have a3 := i198; unfold In at a3; have a4 := i226; unfold In at a4; have a5 := t_add e226 i26 (in_c 1 rfl) rfl; have a6 := (in_c 1 rfl); unfold In at a6; have a7 := i17; unfold In at a7; have a8 := t_add e110 j17_2 (in_c (-1) rfl) rfl; have a9 := (in_c (-1) rfl); unfold In at a9; have a10 := i225; unfold In at a10; have a11 := t_sub e137 i128 (in_c 1 rfl) rfl; have a12 := i120; unfold In at a12; have a13 := t_sub e119 i110 (in_c 1 rfl) rfl; have a14 := i24; unfold In at a14; have a15 := t_add e24 h1 (in_c 1 rfl) rfl; have oc := oc_408_109; omega) (by rw [(show ((z110).toNatClampNeg : Int) = (z110).toInt from clx (by have a0 := h1; unfold In at a0; have a1 := i26; unfold In at a1; have a2 := j17_2; unfold In at a2; have a3 := i198; unfold In at a3; have a4 := i226; unfold In at a4; have a5 := t_add e226 i26 (in_c 1 rfl) rfl; have a6 := (in_c 1 rfl); unfold In at a6; have a7 := i17; unfold In at a7; have a8 := t_add e110 j17_2 (in_c (-1) rfl) rfl; have a9 := (in_c (-1) rfl); unfold In at a9; have a10 := i225; unfold In at a10; have a11 := t_sub e137 i128 (in_c 1 rfl) rfl; have a12 := i120; unfold In at a12; have a13 := t_sub e119 i110 (in_c 1 rfl) rfl; have a14 := i24; unfold In at a14; have a15 := t_add e24 h1 (in_c 1 rfl) rfl; have oc := oc_408_109; omega))]; have a0 := h1; unfold In at a0; have a1 := i26; unfold In at a1; have a2 := j17_2; unfold In at a2; have a3 := i198; unfold In at a3; have a4 := i226; unfold In at a4; have a5 := t_add e226 i26 (in_c 1 rfl) rfl; have a6 := (in_c 1 rfl); unfold In at a6; have a7 := i17; unfold In at a7; have a8 := t_add e110 j17_2 (in_c (-1) rfl) rfl; have a9 := (in_c (-1) rfl); unfold In at a9; have a10 := i225; unfold In at a10; have a11 := t_sub e137 i128 (in_c 1 rfl) rfl; have a12 := i120; unfold In at a12; have a13 := t_sub e119 i110 (in_c 1 rfl) rfl; have a14 := i24; unfold In at a14; have a15 := t_add e24 h1 (in_c 1 rfl) rfl; have oc := oc_408_109; omega) (by show rcd (s.1 184 (y17_3).toInt.toNat).toInt (s.1 185 (y17_3).toInt.toNat).toInt = _; rw [hw]; exact rcd_d (by have a0 := h1; unfold In at a0; have a1 := i26; unfold In at a1; have a2 := j17_2; unfold In at a2; have a3 := i198; unfold In at a3; have a4 := i226; unfold In at a4; have a5 := t_add e226 i26 (in_c 1 rfl) rfl; have a6 := (in_c 1 rfl); unfold In at a6; have a7 := i17; unfold In at a7; have a8 := t_add e110 j17_2 (in_c (-1) rfl) rfl; have a9 := (in_c (-1) rfl); unfold In at a9; have a10 := i225; unfold In at a10; have a11 := t_sub e137 i128 (in_c 1 rfl) rfl; have a12 := i120; unfold In at a12; have a13 := t_sub e119 i110 (in_c 1 rfl) rfl; have a14 := i24; unfold In at a14; have a15 := t_add e24 h1 (in_c 1 rfl) rfl; have oc := oc_408_109; omega)) (by have a0 := h1; unfold In at a0; have a1 := i26; unfold In at a1; have a2 := j17_2; unfold In at a2; have a3 := i198; unfold In at a3; have a4 := i226; unfold In at a4; have a5 := t_add e226 i26 (in_c 1 rfl) rfl; have a6 := (in_c 1 rfl); unfold In at a6; have a7 := i17; unfold In at a7; have a8 := t_add e110 j17_2 (in_c (-1) rfl) rfl; have a9 := (in_c (-1) rfl); unfold In at a9; have a10 := i225; unfold In at a10; have a11 := t_sub e137 i128 (in_c 1 rfl) rfl; have a12 := i120; unfold In at a12; have a13 := t_sub e119 i110 (in_c 1 rfl) rfl; have a14 := i24; unfold In at a14; have a15 := t_add e24 h1 (in_c 1 rfl) rfl; have oc := oc_408_109; omega) (by omega) (by rw [← e9, ← e128, show 1000100 + (z34).toInt - 1000100 = (z34).toInt from (by omega)]; rw [cmb_l (by have a0 := h1; unfold In at a0; have a1 := i26; unfold In at a1; have a2 := j17_2; unfold In at a2; have a3 := i198; unfold In at a3; have a4 := i226; unfold In at a4; have a5 := t_add e226 i26 (in_c 1 rfl) rfl; have a6 := (in_c 1 rfl); unfold In at a6; have a7 := i17; unfold In at a7; have a8 := t_add e110 j17_2 (in_c (-1) rfl) rfl; have a9 := (in_c (-1) rfl); unfold In at a9; have a10 := i225; unfold In at a10; have a11 := t_sub e137 i128 (in_c 1 rfl) rfl; have a12 := i120; unfold In at a12; have a13 := t_sub e119 i110 (in_c 1 rfl) rfl; have a14 := i24; unfold In at a14; have a15 := t_add e24 h1 (in_c 1 rfl) rfl; have oc := oc_408_109; omega)]; first | (rw [if_pos (by have a0 := h1; unfold In at a0; have a1 := i26; unfold In at a1; have a2 := j17_2; unfold In at a2; have a3 := i198; unfold In at a3; have a4 := i226; unfold In at a4; have a5 := t_add e226 i26 (in_c 1 rfl) rfl; have a6 := (in_c 1 rfl); unfold In at a6; have a7 := i17; unfold In at a7; have a8 := t_add e110 j17_2 (in_c (-1) rfl) rfl; have a9 := (in_c (-1) rfl); unfold In at a9; have a10 := i225; unfold In at a10; have a11 := t_sub e137 i128 (in_c 1 rfl) rfl; have a12 := i120; unfold In at a12; have a13 := t_sub e119 i110 (in_c 1 rfl) rfl; have a14 := i24; unfold In at a14; have a15 := t_add e24 h1 (in_c 1 rfl) rfl; have oc := oc_408_109; omega)]; rfl) | (rw [if_neg (by have a0 := h1; unfold In at a0; have a1 := i26; unfold In at a1; have a2 := j17_2; unfold In at a2; have a3 := i198; unfold In at a3; have a4 := i226; unfold In at a4; have a5 := t_add e226 i26 (in_c 1 rfl) rfl; have a6 := (in_c 1 rfl); unfold In at a6; have a7 := i17; unfold In at a7; have a8 := t_add e110 j17_2 (in_c (-1) rfl) rfl; have a9 := (in_c (-1) rfl); unfold In at a9; have a10 := i225; unfold In at a10; have a11 := t_sub e137 i128 (in_c 1 rfl) rfl; have a12 := i120; unfold In at a12; have a13 := t_sub e119 i110 (in_c 1 rfl) rfl; have a14 := i24; unfold In at a14; have a15 := t_add e24 h1 (in_c 1 rfl) rfl; have oc := oc_408_109; omega)]; rfl))
                      have n17c : (z226).toInt ≤ ((s.1 186 ((x1).toInt + 1).toNat)).toInt := by have he : z25 = (s.1 186 ((x1).toInt + 1).toNat) := (e25.trans ((congrFun (hFc17.1 186 rfl) _).trans (congrArg (s.1 186) (show (z24).toInt.toNat = ((x1).toInt + 1).toNat from (by rw [show (z24).toInt = (x1).toInt + 1 from (by have a0 := h1; unfold In at a0; have a1 := i26; unfold In at a1; have a2 := j17_2; unfold In at a2; have a3 := i198; unfold In at a3; have a4 := i226; unfold In at a4; have a5 := t_add e226 i26 (in_c 1 rfl) rfl; have a6 := (in_c 1 rfl); unfold In at a6; have a7 := i17; unfold In at a7; have a8 := t_add e110 j17_2 (in_c (-1) rfl) rfl; have a9 := (in_c (-1) rfl); unfold In at a9; have a10 := i225; unfold In at a10; have a11 := t_sub e137 i128 (in_c 1 rfl) rfl; have a12 := i120; unfold In at a12; have a13 := t_sub e119 i110 (in_c 1 rfl) rfl; have a14 := i24; unfold In at a14; have a15 := t_add e24 h1 (in_c 1 rfl) rfl; have oc := oc_408_109; omega)]))))); have h8 := c26; rw [he] at h8; have a0 := h1; unfold In at a0; have a1 := i26; unfold In at a1; have a2 := j17_2; unfold In at a2; have a3 := i198; unfold In at a3; have a4 := i226; unfold In at a4; have a5 := t_add e226 i26 (in_c 1 rfl) rfl; have a6 := (in_c 1 rfl); unfold In at a6; have a7 := i17; unfold In at a7; have a8 := t_add e110 j17_2 (in_c (-1) rfl) rfl; have a9 := (in_c (-1) rfl); unfold In at a9; have a10 := i225; unfold In at a10; have a11 := t_sub e137 i128 (in_c 1 rfl) rfl; have a12 := i120; unfold In at a12; have a13 := t_sub e119 i110 (in_c 1 rfl) rfl; have a14 := i24; unfold In at a14; have a15 := t_add e24 h1 (in_c 1 rfl) rfl; have oc := oc_408_109; omega
                      exact gg_w (by omega) (gg_f (gf_cons rfl (gf_cons rfl (gf_cons rfl (gf_cons rfl gf_nil)))) (ih17 (sL sc17 193 z137.toNatClampNeg (Int64.ofInt 1)) z110 z226 hI225 (fr_sL rfl hFc17) i17 (in_w 0 120 i226 rfl) n17 n17a n17b n17c (m_up mm17 (t_add e226 i26 (in_c 1 rfl) rfl) (in_w 1 1 (in_c 1 rfl) rfl))))
                · skip
                  have i180 := r_eq1 45 45 c180 i84 (in_c 45 rfl) rfl
                  refine g_lload 185 (gd rfl) rfl rfl ?_
                  refine g_lload 187 (gd rfl) rfl rfl ?_
                  refine g_lsub 188 (gd rfl) rfl (fun z187 e187 => ?_)
                  refine g_calls (As := [.long z187]) (r := [.int z137, .ref (A 193)]) 191 (gd rfl) rfl rfl rfl rfl rfl (Nat.le_of_ble_eq_true rfl) (Nat.zero_le _) (Nat.zero_le _) (f_405 (by omega) hIc17 ) (fun v u h => ?_)
                  obtain ⟨z188, rfl, rfl, p188⟩ := h
                  show GG _ _ _ _ _ _ _ _ [.long z188, .int z137, .ref (A 193)] _ _ _
                  refine g_goto 225 (gd rfl) rfl ?_
                  have i225 : In z137 0 199 := by have a0 := h1; unfold In at a0; have a1 := i26; unfold In at a1; have a2 := j17_2; unfold In at a2; have a3 := i180; unfold In at a3; have a4 := i128; unfold In at a4; have a5 := t_add e110 j17_2 (in_c (-1) rfl) rfl; have a6 := (in_c (-1) rfl); unfold In at a6; have a7 := i137; unfold In at a7; have a8 := t_sub e137 i128 (in_c 1 rfl) rfl; have a9 := (in_c 1 rfl); unfold In at a9; have a10 := i120; unfold In at a10; have a11 := t_sub e119 i110 (in_c 1 rfl) rfl; have a12 := i24; unfold In at a12; have a13 := t_add e24 h1 (in_c 1 rfl) rfl; have oc := oc_408_109; exact ⟨by omega, by omega⟩
                  refine g_lastore 226 (gd rfl) rfl (n := 200) rfl (in_ix i225 rfl) ?_
                  have hI225 := inv_sL (q := 193) (j := z137.toNatClampNeg) (x := z188) hIc17 rfl (l_rng z188)
                  refine g_iinc 229 (gd rfl) rfl rfl (Nat.le_of_ble_eq_true rfl) (fun z226 e226 => ?_)
                  have i226 := in_add 1 120 e226 i26 (in_c 1 rfl) rfl rfl
                  refine g_goto 17 (gd rfl) rfl ?_
                  have i17 : In z110 0 120 := by exact ⟨by have a0 := h1; unfold In at a0; have a1 := i26; unfold In at a1; have a2 := j17_2; unfold In at a2; have a3 := i180; unfold In at a3; have a4 := i226; unfold In at a4; have a5 := t_add e226 i26 (in_c 1 rfl) rfl; have a6 := (in_c 1 rfl); unfold In at a6; have a7 := i128; unfold In at a7; have a8 := t_add e110 j17_2 (in_c (-1) rfl) rfl; have a9 := (in_c (-1) rfl); unfold In at a9; have a10 := i225; unfold In at a10; have a11 := t_sub e137 i128 (in_c 1 rfl) rfl; have a12 := i120; unfold In at a12; have a13 := t_sub e119 i110 (in_c 1 rfl) rfl; have a14 := i24; unfold In at a14; have a15 := t_add e24 h1 (in_c 1 rfl) rfl; have oc := oc_408_109; omega, by have a0 := h1; unfold In at a0; have a1 := i26; unfold In at a1; have a2 := j17_2; unfold In at a2; have a3 := i180; unfold In at a3; have a4 := i226; unfold In at a4; have a5 := t_add e226 i26 (in_c 1 rfl) rfl; have a6 := (in_c 1 rfl); unfold In at a6; have a7 := i128; unfold In at a7; have a8 := t_add e110 j17_2 (in_c (-1) rfl) rfl; have a9 := (in_c (-1) rfl); unfold In at a9; have a10 := i225; unfold In at a10; have a11 := t_sub e137 i128 (in_c 1 rfl) rfl; have a12 := i120; unfold In at a12; have a13 := t_sub e119 i110 (in_c 1 rfl) rfl; have a14 := i24; unfold In at a14; have a15 := t_add e24 h1 (in_c 1 rfl) rfl; have oc := oc_408_109; omega⟩
                  have n17 : (z110).toInt ≤ (z226).toInt := by have a0 := h1; unfold In at a0; have a1 := i26; unfold In at a1; have a2 := j17_2; unfold In at a2; have a3 := i180; unfold In at a3; have a4 := i226; unfold In at a4; have a5 := t_add e226 i26 (in_c 1 rfl) rfl; have a6 := (in_c 1 rfl); unfold In at a6; have a7 := i17; unfold In at a7; have a8 := t_add e110 j17_2 (in_c (-1) rfl) rfl; have a9 := (in_c (-1) rfl); unfold In at a9; have a10 := i225; unfold In at a10; have a11 := t_sub e137 i128 (in_c 1 rfl) rfl; have a12 := i120; unfold In at a12; have a13 := t_sub e119 i110 (in_c 1 rfl) rfl; have a14 := i24; unfold In at a14; have a15 := t_add e24 h1 (in_c 1 rfl) rfl; have oc := oc_408_109; omega
                  have n17a : WS (sL sc17 193 z137.toNatClampNeg z188) x1 z226 z110 := by first | exact hk2 _ _ (by have a0 := h1; unfold In at a0; have a1 := i26; unfold In at a1; have a2 := j17_2; unfold In at a2; have a3 := i180; unfold In at a3; have a4 := i226; unfold In at a4; have a5 := t_add e226 i26 (in_c 1 rfl) rfl; have a6 := (in_c 1 rfl); unfold In at a6; have a7 := i17; unfold In at a7; have a8 := t_add e110 j17_2 (in_c (-1) rfl) rfl; have a9 := (in_c (-1) rfl); unfold In at a9; have a10 := i225; unfold In at a10; have a11 := t_sub e137 i128 (in_c 1 rfl) rfl; have a12 := i120; unfold In at a12; have a13 := t_sub e119 i110 (in_c 1 rfl) rfl; have a14 := i24; unfold In at a14; have a15 := t_add e24 h1 (in_c 1 rfl) rfl; have oc := oc_408_109; omega) (by have a0 := h1; unfold In at a0; have a1 := i26; unfold In at a1; have a2 := j17_2; unfold In at a2; have a3 := i180; unfold In at a3; have a4 := i226; unfold In at a4; have a5 := t_add e226 i26 (in_c 1 rfl) rfl; have a6 := (in_c 1 rfl); unfold In at a6; have a7 := i17; unfold In at a7; have a8 := t_add e110 j17_2 (in_c (-1) rfl) rfl; have a9 := (in_c (-1) rfl); unfold In at a9; have a10 := i225; unfold In at a10; have a11 := t_sub e137 i128 (in_c 1 rfl) rfl; have a12 := i120; unfold In at a12; have a13 := t_sub e119 i110 (in_c 1 rfl) rfl; have a14 := i24; unfold In at a14; have a15 := t_add e24 h1 (in_c 1 rfl) rfl; have oc := oc_408_109; omega) | exact ws_0 rfl (by first | exact (by decide) | exact i15.1) (by unfold wa; first | (rw [if_pos c3]; rfl) | (rw [if_neg c3, e15]; rfl))
                  have n17b : EVI (fun j => rcd (s.1 184 j).toInt (s.1 185 j).toInt) (fun j => (s.2.1 194 j).toInt) ((wa s x1 : Nat) : Int) (z226).toInt (z110).toInt ((sL sc17 193 z137.toNatClampNeg z188).2.1 193) := by have he : z25 = (s.1 186 ((x1).toInt + 1).toNat) := (e25.trans ((congrFun (hFc17.1 186 rfl) _).trans (congrArg (s.1 186) (show (z24).toInt.toNat = ((x1).toInt + 1).toNat from (by rw [show (z24).toInt = (x1).toInt + 1 from (by have a0 := h1; unfold In at a0; have a1 := i26; unfold In at a1; have a2 := j17_2; unfold In at a2; have a3 := i180; unfold In at a3; have a4 := i226; unfold In at a4; have a5 := t_add e226 i26 (in_c 1 rfl) rfl; have a6 := (in_c 1 rfl); unfold In at a6; have a7 := i17; unfold In at a7; have a8 := t_add e110 j17_2 (in_c (-1) rfl) rfl; have a9 := (in_c (-1) rfl); unfold In at a9; have a10 := i225; unfold In at a10; have a11 := t_sub e137 i128 (in_c 1 rfl) rfl; have a12 := i120; unfold In at a12; have a13 := t_sub e119 i110 (in_c 1 rfl) rfl; have a14 := i24; unfold In at a14; have a15 := t_add e24 h1 (in_c 1 rfl) rfl; have oc := oc_408_109; omega)]))))); have hle : ((s.1 186 ((x1).toInt + 1).toNat)).toInt ≤ (s.1 186 2).toInt := (by have h9 := q_2.2; by_cases hx : (x1).toInt = 0; (rw [hx]; exact Int.le_of_lt h9); (rw [show ((x1).toInt + 1).toNat = 2 from (by have a0 := h1; unfold In at a0; have a1 := i26; unfold In at a1; have a2 := j17_2; unfold In at a2; have a3 := i180; unfold In at a3; have a4 := i226; unfold In at a4; have a5 := t_add e226 i26 (in_c 1 rfl) rfl; have a6 := (in_c 1 rfl); unfold In at a6; have a7 := i17; unfold In at a7; have a8 := t_add e110 j17_2 (in_c (-1) rfl) rfl; have a9 := (in_c (-1) rfl); unfold In at a9; have a10 := i225; unfold In at a10; have a11 := t_sub e137 i128 (in_c 1 rfl) rfl; have a12 := i120; unfold In at a12; have a13 := t_sub e119 i110 (in_c 1 rfl) rfl; have a14 := i24; unfold In at a14; have a15 := t_add e24 h1 (in_c 1 rfl) rfl; have oc := oc_408_109; omega)]; exact Int.le_refl _)); have hw : s.1 184 (y17_3).toInt.toNat = z34 := (e34.trans (congrFun (hFc17.1 184 rfl) _)).symm; have ok := q_1 (y17_3).toInt.toNat (by have h8 := c26; have ei : (((y17_3).toInt.toNat : Nat) : Int) = (y17_3).toInt := clx (by have a0 := h1; unfold In at a0; have a1 := i26; unfold In at a1; have a2 := j17_2; unfold In at a2; have a3 := i180; unfold In at a3; have a4 := i226; unfold In at a4; have a5 := t_add e226 i26 (in_c 1 rfl) rfl; have a6 := (in_c 1 rfl); unfold In at a6; have a7 := i17; unfold In at a7; have a8 := t_add e110 j17_2 (in_c (-1) rfl) rfl; have a9 := (in_c (-1) rfl); unfold In at a9; have a10 := i225; unfold In at a10; have a11 := t_sub e137 i128 (in_c 1 rfl) rfl; have a12 := i120; unfold In at a12; have a13 := t_sub e119 i110 (in_c 1 rfl) rfl; have a14 := i24; unfold In at a14; have a15 := t_add e24 h1 (in_c 1 rfl) rfl; have oc := oc_408_109; omega); rw [he] at h8; omega); rw [hw] at ok; have ew := ok.1; have wl : wa s x1 ≤ (y17_3).toInt.toNat := (by have h7 := g17_0.2.2.1; unfold wa at h7 ⊢; rw [hFc17.1 186 rfl] at h7; exact h7); have hz : z119 = z137 := (by rw [e119, e137]); have e9 := e120; rw [hz] at e9; have ba : BD (z120).toInt := (by rw [e9]; exact evi_2 g17_1 (by have a0 := h1; unfold In at a0; have a1 := i26; unfold In at a1; have a2 := j17_2; unfold In at a2; have a3 := i180; unfold In at a3; have a4 := i226; unfold In at a4; have a5 := t_add e226 i26 (in_c 1 rfl) rfl; have a6 := (in_c 1 rfl); unfold In at a6; have a7 := i17; unfold In at a7; have a8 := t_add e110 j17_2 (in_c (-1) rfl) rfl; have a9 := (in_c (-1) rfl); unfold In at a9; have a10 := i225; unfold In at a10; have a11 := t_sub e137 i128 (in_c 1 rfl) rfl; have a12 := i120; unfold In at a12; have a13 := t_sub e119 i110 (in_c 1 rfl) rfl; have a14 := i24; unfold In at a14; have a15 := t_add e24 h1 (in_c 1 rfl) rfl; have oc := oc_408_109; omega) (by rw [(show ((z137).toNatClampNeg : Int) = (z137).toInt from clx (by have a0 := h1; unfold In at a0; have a1 := i26; unfold In at a1; have a2 := j17_2; unfold In at a2; have a3 := i180; unfold In at a3; have a4 := i226; unfold In at a4; have a5 := t_add e226 i26 (in_c 1 rfl) rfl; have a6 := (in_c 1 rfl); unfold In at a6; have a7 := i17; unfold In at a7; have a8 := t_add e110 j17_2 (in_c (-1) rfl) rfl; have a9 := (in_c (-1) rfl); unfold In at a9; have a10 := i225; unfold In at a10; have a11 := t_sub e137 i128 (in_c 1 rfl) rfl; have a12 := i120; unfold In at a12; have a13 := t_sub e119 i110 (in_c 1 rfl) rfl; have a14 := i24; unfold In at a14; have a15 := t_add e24 h1 (in_c 1 rfl) rfl; have oc := oc_408_109; omega))]; have a0 := h1; unfold In at a0; have a1 := i26; unfold In at a1; have a2 := j17_2; unfold In at a2; have a3 := i180; unfold In at a3; have a4 := i226; unfold In at a4; have a5 := t_add e226 i26 (in_c 1 rfl) rfl; have a6 := (in_c 1 rfl); unfold In at a6; have a7 := i17; unfold In at a7; have a8 := t_add e110 j17_2 (in_c (-1) rfl) rfl; have a9 := (in_c (-1) rfl); unfold In at a9; have a10 := i225; unfold In at a10; have a11 := t_sub e137 i128 (in_c 1 rfl) rfl; have a12 := i120; unfold In at a12; have a13 := t_sub e119 i110 (in_c 1 rfl) rfl; have a14 := i24; unfold In at a14; have a15 := t_add e24 h1 (in_c 1 rfl) rfl; have oc := oc_408_109; omega)); have bb : BD (z128).toInt := (by rw [e128]; exact evi_1 g17_1 (by have a0 := h1; unfold In at a0; have a1 := i26; unfold In at a1; have a2 := j17_2; unfold In at a2; have a3 := i180; unfold In at a3; have a4 := i226; unfold In at a4; have a5 := t_add e226 i26 (in_c 1 rfl) rfl; have a6 := (in_c 1 rfl); unfold In at a6; have a7 := i17; unfold In at a7; have a8 := t_add e110 j17_2 (in_c (-1) rfl) rfl; have a9 := (in_c (-1) rfl); unfold In at a9; have a10 := i225; unfold In at a10; have a11 := t_sub e137 i128 (in_c 1 rfl) rfl; have a12 := i120; unfold In at a12; have a13 := t_sub e119 i110 (in_c 1 rfl) rfl; have a14 := i24; unfold In at a14; have a15 := t_add e24 h1 (in_c 1 rfl) rfl; have oc := oc_408_109; omega) (by rw [(show ((z110).toNatClampNeg : Int) = (z110).toInt from clx (by have a0 := h1; unfold In at a0; have a1 := i26; unfold In at a1; have a2 := j17_2; unfold In at a2; have a3 := i180; unfold In at a3; have a4 := i226; unfold In at a4; have a5 := t_add e226 i26 (in_c 1 rfl) rfl; have a6 := (in_c 1 rfl); unfold In at a6; have a7 := i17; unfold In at a7; have a8 := t_add e110 j17_2 (in_c (-1) rfl) rfl; have a9 := (in_c (-1) rfl); unfold In at a9; have a10 := i225; unfold In at a10; have a11 := t_sub e137 i128 (in_c 1 rfl) rfl; have a12 := i120; unfold In at a12; have a13 := t_sub e119 i110 (in_c 1 rfl) rfl; have a14 := i24; unfold In at a14; have a15 := t_add e24 h1 (in_c 1 rfl) rfl; have oc := oc_408_109; omega))]; have a0 := h1; unfold In at a0; have a1 := i26; unfold In at a1; have a2 := j17_2; unfold In at a2; have a3 := i180; unfold In at a3; have a4 := i226; unfold In at a4; have a5 := t_add e226 i26 (in_c 1 rfl) rfl; have a6 := (in_c 1 rfl); unfold In at a6; have a7 := i17; unfold In at a7; have a8 := t_add e110 j17_2 (in_c (-1) rfl) rfl; have a9 := (in_c (-1) rfl); unfold In at a9; have a10 := i225; unfold In at a10; have a11 := t_sub e137 i128 (in_c 1 rfl) rfl; have a12 := i120; unfold In at a12; have a13 := t_sub e119 i110 (in_c 1 rfl) rfl; have a14 := i24; unfold In at a14; have a15 := t_add e24 h1 (in_c 1 rfl) rfl; have oc := oc_408_109; omega)); rw [sL_v]; exact evi_b (j1 := (z110).toNatClampNeg) g17_1 (Int.natCast_nonneg _) (by have a0 := h1; unfold In at a0; have a1 := i26; unfold In at a1; have a2 := j17_2; unfold In at a2; have a3 := i180; unfold In at a3; have a4 := i226; unfold In at a4; have a5 := t_add e226 i26 (in_c 1 rfl) rfl; have a6 := (in_c 1 rfl); unfold In at a6; have a7 := i17; unfold In at a7; have a8 := t_add e110 j17_2 (in_c (-1) rfl) rfl; have a9 := (in_c (-1) rfl); unfold In at a9; have a10 := i225; unfold In at a10; have a11 := t_sub e137 i128 (in_c 1 rfl) rfl; have a12 := i120; unfold In at a12; have a13 := t_sub e119 i110 (in_c 1 rfl) rfl; have a14 := i24; unfold In at a14; have a15 := t_add e24 h1 (in_c 1 rfl) rfl; have oc := oc_408_109; omega) (by have a0 := h1; unfold In at a0; have a1 := i26; unfold In at a1; have a2 := j17_2; unfold In at a2; have a3 := i180; unfold In at a3; have a4 := i226; unfold In at a4; have a5 := t_add e226 i26 (in_c 1 rfl) rfl; have a6 := (in_c 1 rfl); unfold In at a6; have a7 := i17; unfold In at a7; have a8 := t_add e110 j17_2 (in_c (-1) rfl) rfl; have a9 := (in_c (-1) rfl); unfold In at a9; have a10 := i225; unfold In at a10; have a11 := t_sub e137 i128 (in_c 1 rfl) rfl; have a12 := i120; unfold In at a12; have a13 := t_sub e119 i110 (in_c 1 rfl) rfl; have a14 := i24; unfold In at a14; have a15 := t_add e24 h1 (in_c 1 rfl) rfl; have oc := oc_408_109; omega) (by have a0 := h1; unfold In at a0; have a1 := i26; unfold In at a1; have a2 := j17_2; unfold In at a2; have a3 := i180; unfold In at a3; have a4 := i226; unfold In at a4; have a5 := t_add e226 i26 (in_c 1 rfl) rfl; have a6 := (in_c 1 rfl); unfold In at a6; have a7 := i17; unfold In at a7; have a8 := t_add e110 j17_2 (in_c (-1) rfl) rfl; have a9 := (in_c (-1) rfl); unfold In at a9; have a10 := i225; unfold In at a10; have a11 := t_sub e137 i128 (in_c 1 rfl) rfl; have a12 := i120; unfold In at a12; have a13 := t_sub e119 i110 (in_c 1 rfl) rfl; have a14 := i24; unfold In at a14; have a15 := t_add e24 h1 (in_c 1 rfl) rfl; have oc := oc_408_109; omega) (by have a0 := h1; unfold In at a0; have a1 := i26; unfold In at a1; have a2 := j17_2; unfold In at a2; have a3 := i180; unfold In at a3; have a4 := i226; unfold In at a4; have a5 := t_add e226 i26 (in_c 1 rfl) rfl; have a6 := (in_c 1 rfl); unfold In at a6; have a7 := i17; unfold In at a7; have a8 := t_add e110 j17_2 (in_c (-1) rfl) rfl; have a9 := (in_c (-1) rfl); unfold In at a9; have a10 := i225; unfold In at a10; have a11 := t_sub e137 i128 (in_c 1 rfl) rfl; have a12 := i120; unfold In at a12; have a13 := t_sub e119 i110 (in_c 1 rfl) rfl; have a14 := i24; unfold In at a14; have a15 := t_add e24 h1 (in_c 1 rfl) rfl; have oc := oc_408_109; omega) (by rw [(show ((z137).toNatClampNeg : Int) = (z137).toInt from clx (by have a0 := h1; unfold In at a0; have a1 := i26; unfold In at a1; have a2 := j17_2; unfold In at a2; have a3 := i180; unfold In at a3; have a4 := i226; unfold In at a4; have a5 := t_add e226 i26 (in_c 1 rfl) rfl; have a6 := (in_c 1 rfl); unfold In at a6; have a7 := i17; unfold In at a7; have a8 := t_add e110 j17_2 (in_c (-1) rfl) rfl; have a9 := (in_c (-1) rfl); unfold In at a9; have a10 := i225; unfold In at a10; have a11 := t_sub e137 i128 (in_c 1 rfl) rfl; have a12 := i120; unfold In at a12; have a13 := t_sub e119 i110 (in_c 1 rfl) rfl; have a14 := i24; unfold In at a14; have a15 := t_add e24 h1 (in_c 1 rfl) rfl; have oc := oc_408_109; omega))]; have a0 := h1; unfold In at a0; have a1 := i26; unfold In at a1; have a2 := j17_2; unfold In at a2; have a3 := i180; unfold In at a3; have a4 := i226; unfold In at a4; have a5 := t_add e226 i26 (in_c 1 rfl) rfl; have a6 := (in_c 1 rfl); unfold In at a6; have a7 := i17; unfold In at a7; have a8 := t_add e110 j17_2 (in_c (-1) rfl) rfl; have a9 := (in_c (-1) rfl); unfold In at a9; have a10 := i225; unfold In at a10; have a11 := t_sub e137 i128 (in_c 1 rfl) rfl; have a12 := i120; unfold In at a12; have a13 := t_sub e119 i110 (in_c 1 rfl) rfl; have a14 := i24; unfold In at a14; have a15 := t_add e24 h1 (in_c 1 rfl) rfl; have oc := oc_408_109; omega) (by rw [(show ((z110).toNatClampNeg : Int) = (z110).toInt from clx (by have a0 := h1; unfold In at a0; have a1 := i26; unfold In at a1; have a2 := j17_2; unfold In at a2; have a3 := i180; unfold In at a3; have a4 := i226; unfold In at a4; have a5 := t_add e226 i26 (in_c 1 rfl) rfl; have a6 := (in_c 1 rfl); unfold In at a6; have a7 := i17; unfold In at a7; have a8 := t_add e110 j17_2 (in_c (-1) rfl) rfl; have a9 := (in_c (-1) rfl); unfold In at a9; have a10 := i225; unfold In at a10; have a11 := t_sub e137 i128 (in_c 1 rfl) rfl; have a12 := i120; unfold In at a12; have a13 := t_sub e119 i110 (in_c 1 rfl) rfl; have a14 := i24; unfold In at a14; have a15 := t_add e24 h1 (in_c 1 rfl) rfl; have oc := oc_408_109; omega))]; have a0 := h1; unfold In at a0; have a1 := i26; unfold In at a1; have a2 := j17_2; unfold In at a2; have a3 := i180; unfold In at a3; have a4 := i226; unfold In at a4; have a5 := t_add e226 i26 (in_c 1 rfl) rfl; have a6 := (in_c 1 rfl); unfold In at a6; have a7 := i17; unfold In at a7; have a8 := t_add e110 j17_2 (in_c (-1) rfl) rfl; have a9 := (in_c (-1) rfl); unfold In at a9; have a10 := i225; unfold In at a10; have a11 := t_sub e137 i128 (in_c 1 rfl) rfl; have a12 := i120; unfold In at a12; have a13 := t_sub e119 i110 (in_c 1 rfl) rfl; have a14 := i24; unfold In at a14; have a15 := t_add e24 h1 (in_c 1 rfl) rfl; have oc := oc_408_109; omega) (by show rcd (s.1 184 (y17_3).toInt.toNat).toInt (s.1 185 (y17_3).toInt.toNat).toInt = _; rw [hw]; exact rcd_d (by have a0 := h1; unfold In at a0; have a1 := i26; unfold In at a1; have a2 := j17_2; unfold In at a2; have a3 := i180; unfold In at a3; have a4 := i226; unfold In at a4; have a5 := t_add e226 i26 (in_c 1 rfl) rfl; have a6 := (in_c 1 rfl); unfold In at a6; have a7 := i17; unfold In at a7; have a8 := t_add e110 j17_2 (in_c (-1) rfl) rfl; have a9 := (in_c (-1) rfl); unfold In at a9; have a10 := i225; unfold In at a10; have a11 := t_sub e137 i128 (in_c 1 rfl) rfl; have a12 := i120; unfold In at a12; have a13 := t_sub e119 i110 (in_c 1 rfl) rfl; have a14 := i24; unfold In at a14; have a15 := t_add e24 h1 (in_c 1 rfl) rfl; have oc := oc_408_109; omega)) (by have a0 := h1; unfold In at a0; have a1 := i26; unfold In at a1; have a2 := j17_2; unfold In at a2; have a3 := i180; unfold In at a3; have a4 := i226; unfold In at a4; have a5 := t_add e226 i26 (in_c 1 rfl) rfl; have a6 := (in_c 1 rfl); unfold In at a6; have a7 := i17; unfold In at a7; have a8 := t_add e110 j17_2 (in_c (-1) rfl) rfl; have a9 := (in_c (-1) rfl); unfold In at a9; have a10 := i225; unfold In at a10; have a11 := t_sub e137 i128 (in_c 1 rfl) rfl; have a12 := i120; unfold In at a12; have a13 := t_sub e119 i110 (in_c 1 rfl) rfl; have a14 := i24; unfold In at a14; have a15 := t_add e24 h1 (in_c 1 rfl) rfl; have oc := oc_408_109; omega) (by omega) (by rw [← e9, ← e128, show 1000100 + (z34).toInt - 1000100 = (z34).toInt from (by omega)]; unfold BD at ba bb; rw [cmb_m (by have a0 := h1; unfold In at a0; have a1 := i26; unfold In at a1; have a2 := j17_2; unfold In at a2; have a3 := i180; unfold In at a3; have a4 := i226; unfold In at a4; have a5 := t_add e226 i26 (in_c 1 rfl) rfl; have a6 := (in_c 1 rfl); unfold In at a6; have a7 := i17; unfold In at a7; have a8 := t_add e110 j17_2 (in_c (-1) rfl) rfl; have a9 := (in_c (-1) rfl); unfold In at a9; have a10 := i225; unfold In at a10; have a11 := t_sub e137 i128 (in_c 1 rfl) rfl; have a12 := i120; unfold In at a12; have a13 := t_sub e119 i110 (in_c 1 rfl) rfl; have a14 := i24; unfold In at a14; have a15 := t_add e24 h1 (in_c 1 rfl) rfl; have oc := oc_408_109; omega), ← lsub_t e187 (by omega) (by omega)]; exact p188)
                  have n17c : (z226).toInt ≤ ((s.1 186 ((x1).toInt + 1).toNat)).toInt := by have he : z25 = (s.1 186 ((x1).toInt + 1).toNat) := (e25.trans ((congrFun (hFc17.1 186 rfl) _).trans (congrArg (s.1 186) (show (z24).toInt.toNat = ((x1).toInt + 1).toNat from (by rw [show (z24).toInt = (x1).toInt + 1 from (by have a0 := h1; unfold In at a0; have a1 := i26; unfold In at a1; have a2 := j17_2; unfold In at a2; have a3 := i180; unfold In at a3; have a4 := i226; unfold In at a4; have a5 := t_add e226 i26 (in_c 1 rfl) rfl; have a6 := (in_c 1 rfl); unfold In at a6; have a7 := i17; unfold In at a7; have a8 := t_add e110 j17_2 (in_c (-1) rfl) rfl; have a9 := (in_c (-1) rfl); unfold In at a9; have a10 := i225; unfold In at a10; have a11 := t_sub e137 i128 (in_c 1 rfl) rfl; have a12 := i120; unfold In at a12; have a13 := t_sub e119 i110 (in_c 1 rfl) rfl; have a14 := i24; unfold In at a14; have a15 := t_add e24 h1 (in_c 1 rfl) rfl; have oc := oc_408_109; omega)]))))); have h8 := c26; rw [he] at h8; have a0 := h1; unfold In at a0; have a1 := i26; unfold In at a1; have a2 := j17_2; unfold In at a2; have a3 := i180; unfold In at a3; have a4 := i226; unfold In at a4; have a5 := t_add e226 i26 (in_c 1 rfl) rfl; have a6 := (in_c 1 rfl); unfold In at a6; have a7 := i17; unfold In at a7; have a8 := t_add e110 j17_2 (in_c (-1) rfl) rfl; have a9 := (in_c (-1) rfl); unfold In at a9; have a10 := i225; unfold In at a10; have a11 := t_sub e137 i128 (in_c 1 rfl) rfl; have a12 := i120; unfold In at a12; have a13 := t_sub e119 i110 (in_c 1 rfl) rfl; have a14 := i24; unfold In at a14; have a15 := t_add e24 h1 (in_c 1 rfl) rfl; have oc := oc_408_109; omega
                  exact gg_w (by omega) (gg_f (gf_cons rfl (gf_cons rfl (gf_cons rfl (gf_cons rfl gf_nil)))) (ih17 (sL sc17 193 z137.toNatClampNeg z188) z110 z226 hI225 (fr_sL rfl hFc17) i17 (in_w 0 120 i226 rfl) n17 n17a n17b n17c (m_up mm17 (t_add e226 i26 (in_c 1 rfl) rfl) (in_w 1 1 (in_c 1 rfl) rfl))))
              · skip
                have i162 := r_eq1 43 43 c162 i84 (in_c 43 rfl) rfl
                refine g_lload 167 (gd rfl) rfl rfl ?_
                refine g_lload 169 (gd rfl) rfl rfl ?_
                refine g_ladd 170 (gd rfl) rfl (fun z169 e169 => ?_)
                refine g_calls (As := [.long z169]) (r := [.int z137, .ref (A 193)]) 173 (gd rfl) rfl rfl rfl rfl rfl (Nat.le_of_ble_eq_true rfl) (Nat.zero_le _) (Nat.zero_le _) (f_405 (by omega) hIc17 ) (fun v u h => ?_)
                obtain ⟨z170, rfl, rfl, p170⟩ := h
                show GG _ _ _ _ _ _ _ _ [.long z170, .int z137, .ref (A 193)] _ _ _
                refine g_goto 225 (gd rfl) rfl ?_
                have i225 : In z137 0 199 := by have a0 := h1; unfold In at a0; have a1 := i26; unfold In at a1; have a2 := j17_2; unfold In at a2; have a3 := i162; unfold In at a3; have a4 := i128; unfold In at a4; have a5 := t_add e110 j17_2 (in_c (-1) rfl) rfl; have a6 := (in_c (-1) rfl); unfold In at a6; have a7 := i137; unfold In at a7; have a8 := t_sub e137 i128 (in_c 1 rfl) rfl; have a9 := (in_c 1 rfl); unfold In at a9; have a10 := i120; unfold In at a10; have a11 := t_sub e119 i110 (in_c 1 rfl) rfl; have a12 := i24; unfold In at a12; have a13 := t_add e24 h1 (in_c 1 rfl) rfl; have oc := oc_408_109; exact ⟨by omega, by omega⟩
                refine g_lastore 226 (gd rfl) rfl (n := 200) rfl (in_ix i225 rfl) ?_
                have hI225 := inv_sL (q := 193) (j := z137.toNatClampNeg) (x := z170) hIc17 rfl (l_rng z170)
                refine g_iinc 229 (gd rfl) rfl rfl (Nat.le_of_ble_eq_true rfl) (fun z226 e226 => ?_)
                have i226 := in_add 1 120 e226 i26 (in_c 1 rfl) rfl rfl
                refine g_goto 17 (gd rfl) rfl ?_
                have i17 : In z110 0 120 := by exact ⟨by have a0 := h1; unfold In at a0; have a1 := i26; unfold In at a1; have a2 := j17_2; unfold In at a2; have a3 := i162; unfold In at a3; have a4 := i226; unfold In at a4; have a5 := t_add e226 i26 (in_c 1 rfl) rfl; have a6 := (in_c 1 rfl); unfold In at a6; have a7 := i128; unfold In at a7; have a8 := t_add e110 j17_2 (in_c (-1) rfl) rfl; have a9 := (in_c (-1) rfl); unfold In at a9; have a10 := i225; unfold In at a10; have a11 := t_sub e137 i128 (in_c 1 rfl) rfl; have a12 := i120; unfold In at a12; have a13 := t_sub e119 i110 (in_c 1 rfl) rfl; have a14 := i24; unfold In at a14; have a15 := t_add e24 h1 (in_c 1 rfl) rfl; have oc := oc_408_109; omega, by have a0 := h1; unfold In at a0; have a1 := i26; unfold In at a1; have a2 := j17_2; unfold In at a2; have a3 := i162; unfold In at a3; have a4 := i226; unfold In at a4; have a5 := t_add e226 i26 (in_c 1 rfl) rfl; have a6 := (in_c 1 rfl); unfold In at a6; have a7 := i128; unfold In at a7; have a8 := t_add e110 j17_2 (in_c (-1) rfl) rfl; have a9 := (in_c (-1) rfl); unfold In at a9; have a10 := i225; unfold In at a10; have a11 := t_sub e137 i128 (in_c 1 rfl) rfl; have a12 := i120; unfold In at a12; have a13 := t_sub e119 i110 (in_c 1 rfl) rfl; have a14 := i24; unfold In at a14; have a15 := t_add e24 h1 (in_c 1 rfl) rfl; have oc := oc_408_109; omega⟩
                have n17 : (z110).toInt ≤ (z226).toInt := by have a0 := h1; unfold In at a0; have a1 := i26; unfold In at a1; have a2 := j17_2; unfold In at a2; have a3 := i162; unfold In at a3; have a4 := i226; unfold In at a4; have a5 := t_add e226 i26 (in_c 1 rfl) rfl; have a6 := (in_c 1 rfl); unfold In at a6; have a7 := i17; unfold In at a7; have a8 := t_add e110 j17_2 (in_c (-1) rfl) rfl; have a9 := (in_c (-1) rfl); unfold In at a9; have a10 := i225; unfold In at a10; have a11 := t_sub e137 i128 (in_c 1 rfl) rfl; have a12 := i120; unfold In at a12; have a13 := t_sub e119 i110 (in_c 1 rfl) rfl; have a14 := i24; unfold In at a14; have a15 := t_add e24 h1 (in_c 1 rfl) rfl; have oc := oc_408_109; omega
                have n17a : WS (sL sc17 193 z137.toNatClampNeg z170) x1 z226 z110 := by first | exact hk2 _ _ (by have a0 := h1; unfold In at a0; have a1 := i26; unfold In at a1; have a2 := j17_2; unfold In at a2; have a3 := i162; unfold In at a3; have a4 := i226; unfold In at a4; have a5 := t_add e226 i26 (in_c 1 rfl) rfl; have a6 := (in_c 1 rfl); unfold In at a6; have a7 := i17; unfold In at a7; have a8 := t_add e110 j17_2 (in_c (-1) rfl) rfl; have a9 := (in_c (-1) rfl); unfold In at a9; have a10 := i225; unfold In at a10; have a11 := t_sub e137 i128 (in_c 1 rfl) rfl; have a12 := i120; unfold In at a12; have a13 := t_sub e119 i110 (in_c 1 rfl) rfl; have a14 := i24; unfold In at a14; have a15 := t_add e24 h1 (in_c 1 rfl) rfl; have oc := oc_408_109; omega) (by have a0 := h1; unfold In at a0; have a1 := i26; unfold In at a1; have a2 := j17_2; unfold In at a2; have a3 := i162; unfold In at a3; have a4 := i226; unfold In at a4; have a5 := t_add e226 i26 (in_c 1 rfl) rfl; have a6 := (in_c 1 rfl); unfold In at a6; have a7 := i17; unfold In at a7; have a8 := t_add e110 j17_2 (in_c (-1) rfl) rfl; have a9 := (in_c (-1) rfl); unfold In at a9; have a10 := i225; unfold In at a10; have a11 := t_sub e137 i128 (in_c 1 rfl) rfl; have a12 := i120; unfold In at a12; have a13 := t_sub e119 i110 (in_c 1 rfl) rfl; have a14 := i24; unfold In at a14; have a15 := t_add e24 h1 (in_c 1 rfl) rfl; have oc := oc_408_109; omega) | exact ws_0 rfl (by first | exact (by decide) | exact i15.1) (by unfold wa; first | (rw [if_pos c3]; rfl) | (rw [if_neg c3, e15]; rfl))
                have n17b : EVI (fun j => rcd (s.1 184 j).toInt (s.1 185 j).toInt) (fun j => (s.2.1 194 j).toInt) ((wa s x1 : Nat) : Int) (z226).toInt (z110).toInt ((sL sc17 193 z137.toNatClampNeg z170).2.1 193) := by have he : z25 = (s.1 186 ((x1).toInt + 1).toNat) := (e25.trans ((congrFun (hFc17.1 186 rfl) _).trans (congrArg (s.1 186) (show (z24).toInt.toNat = ((x1).toInt + 1).toNat from (by rw [show (z24).toInt = (x1).toInt + 1 from (by have a0 := h1; unfold In at a0; have a1 := i26; unfold In at a1; have a2 := j17_2; unfold In at a2; have a3 := i162; unfold In at a3; have a4 := i226; unfold In at a4; have a5 := t_add e226 i26 (in_c 1 rfl) rfl; have a6 := (in_c 1 rfl); unfold In at a6; have a7 := i17; unfold In at a7; have a8 := t_add e110 j17_2 (in_c (-1) rfl) rfl; have a9 := (in_c (-1) rfl); unfold In at a9; have a10 := i225; unfold In at a10; have a11 := t_sub e137 i128 (in_c 1 rfl) rfl; have a12 := i120; unfold In at a12; have a13 := t_sub e119 i110 (in_c 1 rfl) rfl; have a14 := i24; unfold In at a14; have a15 := t_add e24 h1 (in_c 1 rfl) rfl; have oc := oc_408_109; omega)]))))); have hle : ((s.1 186 ((x1).toInt + 1).toNat)).toInt ≤ (s.1 186 2).toInt := (by have h9 := q_2.2; by_cases hx : (x1).toInt = 0; (rw [hx]; exact Int.le_of_lt h9); (rw [show ((x1).toInt + 1).toNat = 2 from (by have a0 := h1; unfold In at a0; have a1 := i26; unfold In at a1; have a2 := j17_2; unfold In at a2; have a3 := i162; unfold In at a3; have a4 := i226; unfold In at a4; have a5 := t_add e226 i26 (in_c 1 rfl) rfl; have a6 := (in_c 1 rfl); unfold In at a6; have a7 := i17; unfold In at a7; have a8 := t_add e110 j17_2 (in_c (-1) rfl) rfl; have a9 := (in_c (-1) rfl); unfold In at a9; have a10 := i225; unfold In at a10; have a11 := t_sub e137 i128 (in_c 1 rfl) rfl; have a12 := i120; unfold In at a12; have a13 := t_sub e119 i110 (in_c 1 rfl) rfl; have a14 := i24; unfold In at a14; have a15 := t_add e24 h1 (in_c 1 rfl) rfl; have oc := oc_408_109; omega)]; exact Int.le_refl _)); have hw : s.1 184 (y17_3).toInt.toNat = z34 := (e34.trans (congrFun (hFc17.1 184 rfl) _)).symm; have ok := q_1 (y17_3).toInt.toNat (by have h8 := c26; have ei : (((y17_3).toInt.toNat : Nat) : Int) = (y17_3).toInt := clx (by have a0 := h1; unfold In at a0; have a1 := i26; unfold In at a1; have a2 := j17_2; unfold In at a2; have a3 := i162; unfold In at a3; have a4 := i226; unfold In at a4; have a5 := t_add e226 i26 (in_c 1 rfl) rfl; have a6 := (in_c 1 rfl); unfold In at a6; have a7 := i17; unfold In at a7; have a8 := t_add e110 j17_2 (in_c (-1) rfl) rfl; have a9 := (in_c (-1) rfl); unfold In at a9; have a10 := i225; unfold In at a10; have a11 := t_sub e137 i128 (in_c 1 rfl) rfl; have a12 := i120; unfold In at a12; have a13 := t_sub e119 i110 (in_c 1 rfl) rfl; have a14 := i24; unfold In at a14; have a15 := t_add e24 h1 (in_c 1 rfl) rfl; have oc := oc_408_109; omega); rw [he] at h8; omega); rw [hw] at ok; have ew := ok.1; have wl : wa s x1 ≤ (y17_3).toInt.toNat := (by have h7 := g17_0.2.2.1; unfold wa at h7 ⊢; rw [hFc17.1 186 rfl] at h7; exact h7); have hz : z119 = z137 := (by rw [e119, e137]); have e9 := e120; rw [hz] at e9; have ba : BD (z120).toInt := (by rw [e9]; exact evi_2 g17_1 (by have a0 := h1; unfold In at a0; have a1 := i26; unfold In at a1; have a2 := j17_2; unfold In at a2; have a3 := i162; unfold In at a3; have a4 := i226; unfold In at a4; have a5 := t_add e226 i26 (in_c 1 rfl) rfl; have a6 := (in_c 1 rfl); unfold In at a6; have a7 := i17; unfold In at a7; have a8 := t_add e110 j17_2 (in_c (-1) rfl) rfl; have a9 := (in_c (-1) rfl); unfold In at a9; have a10 := i225; unfold In at a10; have a11 := t_sub e137 i128 (in_c 1 rfl) rfl; have a12 := i120; unfold In at a12; have a13 := t_sub e119 i110 (in_c 1 rfl) rfl; have a14 := i24; unfold In at a14; have a15 := t_add e24 h1 (in_c 1 rfl) rfl; have oc := oc_408_109; omega) (by rw [(show ((z137).toNatClampNeg : Int) = (z137).toInt from clx (by have a0 := h1; unfold In at a0; have a1 := i26; unfold In at a1; have a2 := j17_2; unfold In at a2; have a3 := i162; unfold In at a3; have a4 := i226; unfold In at a4; have a5 := t_add e226 i26 (in_c 1 rfl) rfl; have a6 := (in_c 1 rfl); unfold In at a6; have a7 := i17; unfold In at a7; have a8 := t_add e110 j17_2 (in_c (-1) rfl) rfl; have a9 := (in_c (-1) rfl); unfold In at a9; have a10 := i225; unfold In at a10; have a11 := t_sub e137 i128 (in_c 1 rfl) rfl; have a12 := i120; unfold In at a12; have a13 := t_sub e119 i110 (in_c 1 rfl) rfl; have a14 := i24; unfold In at a14; have a15 := t_add e24 h1 (in_c 1 rfl) rfl; have oc := oc_408_109; omega))]; have a0 := h1; unfold In at a0; have a1 := i26; unfold In at a1; have a2 := j17_2; unfold In at a2; have a3 := i162; unfold In at a3; have a4 := i226; unfold In at a4; have a5 := t_add e226 i26 (in_c 1 rfl) rfl; have a6 := (in_c 1 rfl); unfold In at a6; have a7 := i17; unfold In at a7; have a8 := t_add e110 j17_2 (in_c (-1) rfl) rfl; have a9 := (in_c (-1) rfl); unfold In at a9; have a10 := i225; unfold In at a10; have a11 := t_sub e137 i128 (in_c 1 rfl) rfl; have a12 := i120; unfold In at a12; have a13 := t_sub e119 i110 (in_c 1 rfl) rfl; have a14 := i24; unfold In at a14; have a15 := t_add e24 h1 (in_c 1 rfl) rfl; have oc := oc_408_109; omega)); have bb : BD (z128).toInt := (by rw [e128]; exact evi_1 g17_1 (by have a0 := h1; unfold In at a0; have a1 := i26; unfold In at a1; have a2 := j17_2; unfold In at a2; have a3 := i162; unfold In at a3; have a4 := i226; unfold In at a4; have a5 := t_add e226 i26 (in_c 1 rfl) rfl; have a6 := (in_c 1 rfl); unfold In at a6; have a7 := i17; unfold In at a7; have a8 := t_add e110 j17_2 (in_c (-1) rfl) rfl; have a9 := (in_c (-1) rfl); unfold In at a9; have a10 := i225; unfold In at a10; have a11 := t_sub e137 i128 (in_c 1 rfl) rfl; have a12 := i120; unfold In at a12; have a13 := t_sub e119 i110 (in_c 1 rfl) rfl; have a14 := i24; unfold In at a14; have a15 := t_add e24 h1 (in_c 1 rfl) rfl; have oc := oc_408_109; omega) (by rw [(show ((z110).toNatClampNeg : Int) = (z110).toInt from clx (by have a0 := h1; unfold In at a0; have a1 := i26; unfold In at a1; have a2 := j17_2; unfold In at a2; have a3 := i162; unfold In at a3; have a4 := i226; unfold In at a4; have a5 := t_add e226 i26 (in_c 1 rfl) rfl; have a6 := (in_c 1 rfl); unfold In at a6; have a7 := i17; unfold In at a7; have a8 := t_add e110 j17_2 (in_c (-1) rfl) rfl; have a9 := (in_c (-1) rfl); unfold In at a9; have a10 := i225; unfold In at a10; have a11 := t_sub e137 i128 (in_c 1 rfl) rfl; have a12 := i120; unfold In at a12; have a13 := t_sub e119 i110 (in_c 1 rfl) rfl; have a14 := i24; unfold In at a14; have a15 := t_add e24 h1 (in_c 1 rfl) rfl; have oc := oc_408_109; omega))]; have a0 := h1; unfold In at a0; have a1 := i26; unfold In at a1; have a2 := j17_2; unfold In at a2; have a3 := i162; unfold In at a3; have a4 := i226; unfold In at a4; have a5 := t_add e226 i26 (in_c 1 rfl) rfl; have a6 := (in_c 1 rfl); unfold In at a6; have a7 := i17; unfold In at a7; have a8 := t_add e110 j17_2 (in_c (-1) rfl) rfl; have a9 := (in_c (-1) rfl); unfold In at a9; have a10 := i225; unfold In at a10; have a11 := t_sub e137 i128 (in_c 1 rfl) rfl; have a12 := i120; unfold In at a12; have a13 := t_sub e119 i110 (in_c 1 rfl) rfl; have a14 := i24; unfold In at a14; have a15 := t_add e24 h1 (in_c 1 rfl) rfl; have oc := oc_408_109; omega)); rw [sL_v]; exact evi_b (j1 := (z110).toNatClampNeg) g17_1 (Int.natCast_nonneg _) (by have a0 := h1; unfold In at a0; have a1 := i26; unfold In at a1; have a2 := j17_2; unfold In at a2; have a3 := i162; unfold In at a3; have a4 := i226; unfold In at a4; have a5 := t_add e226 i26 (in_c 1 rfl) rfl; have a6 := (in_c 1 rfl); unfold In at a6; have a7 := i17; unfold In at a7; have a8 := t_add e110 j17_2 (in_c (-1) rfl) rfl; have a9 := (in_c (-1) rfl); unfold In at a9; have a10 := i225; unfold In at a10; have a11 := t_sub e137 i128 (in_c 1 rfl) rfl; have a12 := i120; unfold In at a12; have a13 := t_sub e119 i110 (in_c 1 rfl) rfl; have a14 := i24; unfold In at a14; have a15 := t_add e24 h1 (in_c 1 rfl) rfl; have oc := oc_408_109; omega) (by have a0 := h1; unfold In at a0; have a1 := i26; unfold In at a1; have a2 := j17_2; unfold In at a2; have a3 := i162; unfold In at a3; have a4 := i226; unfold In at a4; have a5 := t_add e226 i26 (in_c 1 rfl) rfl; have a6 := (in_c 1 rfl); unfold In at a6; have a7 := i17; unfold In at a7; have a8 := t_add e110 j17_2 (in_c (-1) rfl) rfl; have a9 := (in_c (-1) rfl); unfold In at a9; have a10 := i225; unfold In at a10; have a11 := t_sub e137 i128 (in_c 1 rfl) rfl; have a12 := i120; unfold In at a12; have a13 := t_sub e119 i110 (in_c 1 rfl) rfl; have a14 := i24; unfold In at a14; have a15 := t_add e24 h1 (in_c 1 rfl) rfl; have oc := oc_408_109; omega) (by have a0 := h1; unfold In at a0; have a1 := i26; unfold In at a1; have a2 := j17_2; unfold In at a2; have a3 := i162; unfold In at a3; have a4 := i226; unfold In at a4; have a5 := t_add e226 i26 (in_c 1 rfl) rfl; have a6 := (in_c 1 rfl); unfold In at a6; have a7 := i17; unfold In at a7; have a8 := t_add e110 j17_2 (in_c (-1) rfl) rfl; have a9 := (in_c (-1) rfl); unfold In at a9; have a10 := i225; unfold In at a10; have a11 := t_sub e137 i128 (in_c 1 rfl) rfl; have a12 := i120; unfold In at a12; have a13 := t_sub e119 i110 (in_c 1 rfl) rfl; have a14 := i24; unfold In at a14; have a15 := t_add e24 h1 (in_c 1 rfl) rfl; have oc := oc_408_109; omega) (by have a0 := h1; unfold In at a0; have a1 := i26; unfold In at a1; have a2 := j17_2; unfold In at a2; have a3 := i162; unfold In at a3; have a4 := i226; unfold In at a4; have a5 := t_add e226 i26 (in_c 1 rfl) rfl; have a6 := (in_c 1 rfl); unfold In at a6; have a7 := i17; unfold In at a7; have a8 := t_add e110 j17_2 (in_c (-1) rfl) rfl; have a9 := (in_c (-1) rfl); unfold In at a9; have a10 := i225; unfold In at a10; have a11 := t_sub e137 i128 (in_c 1 rfl) rfl; have a12 := i120; unfold In at a12; have a13 := t_sub e119 i110 (in_c 1 rfl) rfl; have a14 := i24; unfold In at a14; have a15 := t_add e24 h1 (in_c 1 rfl) rfl; have oc := oc_408_109; omega) (by rw [(show ((z137).toNatClampNeg : Int) = (z137).toInt from clx (by have a0 := h1; unfold In at a0; have a1 := i26; unfold In at a1; have a2 := j17_2; unfold In at a2; have a3 := i162; unfold In at a3; have a4 := i226; unfold In at a4; have a5 := t_add e226 i26 (in_c 1 rfl) rfl; have a6 := (in_c 1 rfl); unfold In at a6; have a7 := i17; unfold In at a7; have a8 := t_add e110 j17_2 (in_c (-1) rfl) rfl; have a9 := (in_c (-1) rfl); unfold In at a9; have a10 := i225; unfold In at a10; have a11 := t_sub e137 i128 (in_c 1 rfl) rfl; have a12 := i120; unfold In at a12; have a13 := t_sub e119 i110 (in_c 1 rfl) rfl; have a14 := i24; unfold In at a14; have a15 := t_add e24 h1 (in_c 1 rfl) rfl; have oc := oc_408_109; omega))]; have a0 := h1; unfold In at a0; have a1 := i26; unfold In at a1; have a2 := j17_2; unfold In at a2; have a3 := i162; unfold In at a3; have a4 := i226; unfold In at a4; have a5 := t_add e226 i26 (in_c 1 rfl) rfl; have a6 := (in_c 1 rfl); unfold In at a6; have a7 := i17; unfold In at a7; have a8 := t_add e110 j17_2 (in_c (-1) rfl) rfl; have a9 := (in_c (-1) rfl); unfold In at a9; have a10 := i225; unfold In at a10; have a11 := t_sub e137 i128 (in_c 1 rfl) rfl; have a12 := i120; unfold In at a12; have a13 := t_sub e119 i110 (in_c 1 rfl) rfl; have a14 := i24; unfold In at a14; have a15 := t_add e24 h1 (in_c 1 rfl) rfl; have oc := oc_408_109; omega) (by rw [(show ((z110).toNatClampNeg : Int) = (z110).toInt from clx (by have a0 := h1; unfold In at a0; have a1 := i26; unfold In at a1; have a2 := j17_2; unfold In at a2; have a3 := i162; unfold In at a3; have a4 := i226; unfold In at a4; have a5 := t_add e226 i26 (in_c 1 rfl) rfl; have a6 := (in_c 1 rfl); unfold In at a6; have a7 := i17; unfold In at a7; have a8 := t_add e110 j17_2 (in_c (-1) rfl) rfl; have a9 := (in_c (-1) rfl); unfold In at a9; have a10 := i225; unfold In at a10; have a11 := t_sub e137 i128 (in_c 1 rfl) rfl; have a12 := i120; unfold In at a12; have a13 := t_sub e119 i110 (in_c 1 rfl) rfl; have a14 := i24; unfold In at a14; have a15 := t_add e24 h1 (in_c 1 rfl) rfl; have oc := oc_408_109; omega))]; have a0 := h1; unfold In at a0; have a1 := i26; unfold In at a1; have a2 := j17_2; unfold In at a2; have a3 := i162; unfold In at a3; have a4 := i226; unfold In at a4; have a5 := t_add e226 i26 (in_c 1 rfl) rfl; have a6 := (in_c 1 rfl); unfold In at a6; have a7 := i17; unfold In at a7; have a8 := t_add e110 j17_2 (in_c (-1) rfl) rfl; have a9 := (in_c (-1) rfl); unfold In at a9; have a10 := i225; unfold In at a10; have a11 := t_sub e137 i128 (in_c 1 rfl) rfl; have a12 := i120; unfold In at a12; have a13 := t_sub e119 i110 (in_c 1 rfl) rfl; have a14 := i24; unfold In at a14; have a15 := t_add e24 h1 (in_c 1 rfl) rfl; have oc := oc_408_109; omega) (by show rcd (s.1 184 (y17_3).toInt.toNat).toInt (s.1 185 (y17_3).toInt.toNat).toInt = _; rw [hw]; exact rcd_d (by have a0 := h1; unfold In at a0; have a1 := i26; unfold In at a1; have a2 := j17_2; unfold In at a2; have a3 := i162; unfold In at a3; have a4 := i226; unfold In at a4; have a5 := t_add e226 i26 (in_c 1 rfl) rfl; have a6 := (in_c 1 rfl); unfold In at a6; have a7 := i17; unfold In at a7; have a8 := t_add e110 j17_2 (in_c (-1) rfl) rfl; have a9 := (in_c (-1) rfl); unfold In at a9; have a10 := i225; unfold In at a10; have a11 := t_sub e137 i128 (in_c 1 rfl) rfl; have a12 := i120; unfold In at a12; have a13 := t_sub e119 i110 (in_c 1 rfl) rfl; have a14 := i24; unfold In at a14; have a15 := t_add e24 h1 (in_c 1 rfl) rfl; have oc := oc_408_109; omega)) (by have a0 := h1; unfold In at a0; have a1 := i26; unfold In at a1; have a2 := j17_2; unfold In at a2; have a3 := i162; unfold In at a3; have a4 := i226; unfold In at a4; have a5 := t_add e226 i26 (in_c 1 rfl) rfl; have a6 := (in_c 1 rfl); unfold In at a6; have a7 := i17; unfold In at a7; have a8 := t_add e110 j17_2 (in_c (-1) rfl) rfl; have a9 := (in_c (-1) rfl); unfold In at a9; have a10 := i225; unfold In at a10; have a11 := t_sub e137 i128 (in_c 1 rfl) rfl; have a12 := i120; unfold In at a12; have a13 := t_sub e119 i110 (in_c 1 rfl) rfl; have a14 := i24; unfold In at a14; have a15 := t_add e24 h1 (in_c 1 rfl) rfl; have oc := oc_408_109; omega) (by omega) (by rw [← e9, ← e128, show 1000100 + (z34).toInt - 1000100 = (z34).toInt from (by omega)]; unfold BD at ba bb; rw [cmb_p (by have a0 := h1; unfold In at a0; have a1 := i26; unfold In at a1; have a2 := j17_2; unfold In at a2; have a3 := i162; unfold In at a3; have a4 := i226; unfold In at a4; have a5 := t_add e226 i26 (in_c 1 rfl) rfl; have a6 := (in_c 1 rfl); unfold In at a6; have a7 := i17; unfold In at a7; have a8 := t_add e110 j17_2 (in_c (-1) rfl) rfl; have a9 := (in_c (-1) rfl); unfold In at a9; have a10 := i225; unfold In at a10; have a11 := t_sub e137 i128 (in_c 1 rfl) rfl; have a12 := i120; unfold In at a12; have a13 := t_sub e119 i110 (in_c 1 rfl) rfl; have a14 := i24; unfold In at a14; have a15 := t_add e24 h1 (in_c 1 rfl) rfl; have oc := oc_408_109; omega), ← ladd_t e169 (by omega) (by omega)]; exact p170)
                have n17c : (z226).toInt ≤ ((s.1 186 ((x1).toInt + 1).toNat)).toInt := by have he : z25 = (s.1 186 ((x1).toInt + 1).toNat) := (e25.trans ((congrFun (hFc17.1 186 rfl) _).trans (congrArg (s.1 186) (show (z24).toInt.toNat = ((x1).toInt + 1).toNat from (by rw [show (z24).toInt = (x1).toInt + 1 from (by have a0 := h1; unfold In at a0; have a1 := i26; unfold In at a1; have a2 := j17_2; unfold In at a2; have a3 := i162; unfold In at a3; have a4 := i226; unfold In at a4; have a5 := t_add e226 i26 (in_c 1 rfl) rfl; have a6 := (in_c 1 rfl); unfold In at a6; have a7 := i17; unfold In at a7; have a8 := t_add e110 j17_2 (in_c (-1) rfl) rfl; have a9 := (in_c (-1) rfl); unfold In at a9; have a10 := i225; unfold In at a10; have a11 := t_sub e137 i128 (in_c 1 rfl) rfl; have a12 := i120; unfold In at a12; have a13 := t_sub e119 i110 (in_c 1 rfl) rfl; have a14 := i24; unfold In at a14; have a15 := t_add e24 h1 (in_c 1 rfl) rfl; have oc := oc_408_109; omega)]))))); have h8 := c26; rw [he] at h8; have a0 := h1; unfold In at a0; have a1 := i26; unfold In at a1; have a2 := j17_2; unfold In at a2; have a3 := i162; unfold In at a3; have a4 := i226; unfold In at a4; have a5 := t_add e226 i26 (in_c 1 rfl) rfl; have a6 := (in_c 1 rfl); unfold In at a6; have a7 := i17; unfold In at a7; have a8 := t_add e110 j17_2 (in_c (-1) rfl) rfl; have a9 := (in_c (-1) rfl); unfold In at a9; have a10 := i225; unfold In at a10; have a11 := t_sub e137 i128 (in_c 1 rfl) rfl; have a12 := i120; unfold In at a12; have a13 := t_sub e119 i110 (in_c 1 rfl) rfl; have a14 := i24; unfold In at a14; have a15 := t_add e24 h1 (in_c 1 rfl) rfl; have oc := oc_408_109; omega
                exact gg_w (by omega) (gg_f (gf_cons rfl (gf_cons rfl (gf_cons rfl (gf_cons rfl gf_nil)))) (ih17 (sL sc17 193 z137.toNatClampNeg z170) z110 z226 hI225 (fr_sL rfl hFc17) i17 (in_w 0 120 i226 rfl) n17 n17a n17b n17c (m_up mm17 (t_add e226 i26 (in_c 1 rfl) rfl) (in_w 1 1 (in_c 1 rfl) rfl))))
            · skip
              have i142 := r_eq1 42 42 c142 i84 (in_c 42 rfl) rfl
              refine g_lload 147 (gd rfl) rfl rfl ?_
              refine g_lload 149 (gd rfl) rfl rfl ?_
              have p149 : BD (z120).toInt := by rw [e120]; exact evi_2 g17_1 (by have a0 := h1; unfold In at a0; have a1 := i26; unfold In at a1; have a2 := j17_2; unfold In at a2; have a3 := i142; unfold In at a3; have a4 := i128; unfold In at a4; have a5 := t_add e110 j17_2 (in_c (-1) rfl) rfl; have a6 := (in_c (-1) rfl); unfold In at a6; have a7 := i137; unfold In at a7; have a8 := t_sub e137 i128 (in_c 1 rfl) rfl; have a9 := (in_c 1 rfl); unfold In at a9; have a10 := i120; unfold In at a10; have a11 := t_sub e119 i110 (in_c 1 rfl) rfl; have a12 := i24; unfold In at a12; have a13 := t_add e24 h1 (in_c 1 rfl) rfl; have oc := oc_408_109; omega) (by rw [(show ((z119).toNatClampNeg : Int) = (z119).toInt from clx (by have a0 := h1; unfold In at a0; have a1 := i26; unfold In at a1; have a2 := j17_2; unfold In at a2; have a3 := i142; unfold In at a3; have a4 := i128; unfold In at a4; have a5 := t_add e110 j17_2 (in_c (-1) rfl) rfl; have a6 := (in_c (-1) rfl); unfold In at a6; have a7 := i137; unfold In at a7; have a8 := t_sub e137 i128 (in_c 1 rfl) rfl; have a9 := (in_c 1 rfl); unfold In at a9; have a10 := i120; unfold In at a10; have a11 := t_sub e119 i110 (in_c 1 rfl) rfl; have a12 := i24; unfold In at a12; have a13 := t_add e24 h1 (in_c 1 rfl) rfl; have oc := oc_408_109; omega))]; have a0 := h1; unfold In at a0; have a1 := i26; unfold In at a1; have a2 := j17_2; unfold In at a2; have a3 := i142; unfold In at a3; have a4 := i128; unfold In at a4; have a5 := t_add e110 j17_2 (in_c (-1) rfl) rfl; have a6 := (in_c (-1) rfl); unfold In at a6; have a7 := i137; unfold In at a7; have a8 := t_sub e137 i128 (in_c 1 rfl) rfl; have a9 := (in_c 1 rfl); unfold In at a9; have a10 := i120; unfold In at a10; have a11 := t_sub e119 i110 (in_c 1 rfl) rfl; have a12 := i24; unfold In at a12; have a13 := t_add e24 h1 (in_c 1 rfl) rfl; have oc := oc_408_109; omega)
              have p149a : BD (z128).toInt := by rw [e128]; exact evi_1 g17_1 (by have a0 := h1; unfold In at a0; have a1 := i26; unfold In at a1; have a2 := j17_2; unfold In at a2; have a3 := i142; unfold In at a3; have a4 := i128; unfold In at a4; have a5 := t_add e110 j17_2 (in_c (-1) rfl) rfl; have a6 := (in_c (-1) rfl); unfold In at a6; have a7 := i137; unfold In at a7; have a8 := t_sub e137 i128 (in_c 1 rfl) rfl; have a9 := (in_c 1 rfl); unfold In at a9; have a10 := i120; unfold In at a10; have a11 := t_sub e119 i110 (in_c 1 rfl) rfl; have a12 := i24; unfold In at a12; have a13 := t_add e24 h1 (in_c 1 rfl) rfl; have oc := oc_408_109; omega) (by rw [(show ((z110).toNatClampNeg : Int) = (z110).toInt from clx (by have a0 := h1; unfold In at a0; have a1 := i26; unfold In at a1; have a2 := j17_2; unfold In at a2; have a3 := i142; unfold In at a3; have a4 := i128; unfold In at a4; have a5 := t_add e110 j17_2 (in_c (-1) rfl) rfl; have a6 := (in_c (-1) rfl); unfold In at a6; have a7 := i137; unfold In at a7; have a8 := t_sub e137 i128 (in_c 1 rfl) rfl; have a9 := (in_c 1 rfl); unfold In at a9; have a10 := i120; unfold In at a10; have a11 := t_sub e119 i110 (in_c 1 rfl) rfl; have a12 := i24; unfold In at a12; have a13 := t_add e24 h1 (in_c 1 rfl) rfl; have oc := oc_408_109; omega))]; have a0 := h1; unfold In at a0; have a1 := i26; unfold In at a1; have a2 := j17_2; unfold In at a2; have a3 := i142; unfold In at a3; have a4 := i128; unfold In at a4; have a5 := t_add e110 j17_2 (in_c (-1) rfl) rfl; have a6 := (in_c (-1) rfl); unfold In at a6; have a7 := i137; unfold In at a7; have a8 := t_sub e137 i128 (in_c 1 rfl) rfl; have a9 := (in_c 1 rfl); unfold In at a9; have a10 := i120; unfold In at a10; have a11 := t_sub e119 i110 (in_c 1 rfl) rfl; have a12 := i24; unfold In at a12; have a13 := t_add e24 h1 (in_c 1 rfl) rfl; have oc := oc_408_109; omega)
              refine g_calls (As := [.long z120, .long z128]) (r := [.int z137, .ref (A 193)]) 152 (gd rfl) rfl rfl rfl rfl rfl (Nat.le_of_ble_eq_true rfl) (Nat.zero_le _) (Nat.zero_le _) (f_406 (by omega) hIc17 p149 p149a) (fun v u h => ?_)
              obtain ⟨z149, rfl, rfl, p149b⟩ := h
              show GG _ _ _ _ _ _ _ _ [.long z149, .int z137, .ref (A 193)] _ _ _
              refine g_calls (As := [.long z149]) (r := [.int z137, .ref (A 193)]) 155 (gd rfl) rfl rfl rfl rfl rfl (Nat.le_of_ble_eq_true rfl) (Nat.zero_le _) (Nat.zero_le _) (f_405 (by omega) hIc17 ) (fun v u h => ?_)
              obtain ⟨z152, rfl, rfl, p152⟩ := h
              show GG _ _ _ _ _ _ _ _ [.long z152, .int z137, .ref (A 193)] _ _ _
              refine g_goto 225 (gd rfl) rfl ?_
              have i225 : In z137 0 199 := by have a0 := h1; unfold In at a0; have a1 := i26; unfold In at a1; have a2 := j17_2; unfold In at a2; have a3 := i142; unfold In at a3; have a4 := i128; unfold In at a4; have a5 := t_add e110 j17_2 (in_c (-1) rfl) rfl; have a6 := (in_c (-1) rfl); unfold In at a6; have a7 := i137; unfold In at a7; have a8 := t_sub e137 i128 (in_c 1 rfl) rfl; have a9 := (in_c 1 rfl); unfold In at a9; have a10 := i120; unfold In at a10; have a11 := t_sub e119 i110 (in_c 1 rfl) rfl; have a12 := i24; unfold In at a12; have a13 := t_add e24 h1 (in_c 1 rfl) rfl; have oc := oc_408_109; exact ⟨by omega, by omega⟩
              refine g_lastore 226 (gd rfl) rfl (n := 200) rfl (in_ix i225 rfl) ?_
              have hI225 := inv_sL (q := 193) (j := z137.toNatClampNeg) (x := z152) hIc17 rfl (l_rng z152)
              refine g_iinc 229 (gd rfl) rfl rfl (Nat.le_of_ble_eq_true rfl) (fun z226 e226 => ?_)
              have i226 := in_add 1 120 e226 i26 (in_c 1 rfl) rfl rfl
              refine g_goto 17 (gd rfl) rfl ?_
              have i17 : In z110 0 120 := by exact ⟨by have a0 := h1; unfold In at a0; have a1 := i26; unfold In at a1; have a2 := j17_2; unfold In at a2; have a3 := i142; unfold In at a3; have a4 := i226; unfold In at a4; have a5 := t_add e226 i26 (in_c 1 rfl) rfl; have a6 := (in_c 1 rfl); unfold In at a6; have a7 := i128; unfold In at a7; have a8 := t_add e110 j17_2 (in_c (-1) rfl) rfl; have a9 := (in_c (-1) rfl); unfold In at a9; have a10 := i225; unfold In at a10; have a11 := t_sub e137 i128 (in_c 1 rfl) rfl; have a12 := i120; unfold In at a12; have a13 := t_sub e119 i110 (in_c 1 rfl) rfl; have a14 := i24; unfold In at a14; have a15 := t_add e24 h1 (in_c 1 rfl) rfl; have oc := oc_408_109; omega, by have a0 := h1; unfold In at a0; have a1 := i26; unfold In at a1; have a2 := j17_2; unfold In at a2; have a3 := i142; unfold In at a3; have a4 := i226; unfold In at a4; have a5 := t_add e226 i26 (in_c 1 rfl) rfl; have a6 := (in_c 1 rfl); unfold In at a6; have a7 := i128; unfold In at a7; have a8 := t_add e110 j17_2 (in_c (-1) rfl) rfl; have a9 := (in_c (-1) rfl); unfold In at a9; have a10 := i225; unfold In at a10; have a11 := t_sub e137 i128 (in_c 1 rfl) rfl; have a12 := i120; unfold In at a12; have a13 := t_sub e119 i110 (in_c 1 rfl) rfl; have a14 := i24; unfold In at a14; have a15 := t_add e24 h1 (in_c 1 rfl) rfl; have oc := oc_408_109; omega⟩
              have n17 : (z110).toInt ≤ (z226).toInt := by have a0 := h1; unfold In at a0; have a1 := i26; unfold In at a1; have a2 := j17_2; unfold In at a2; have a3 := i142; unfold In at a3; have a4 := i226; unfold In at a4; have a5 := t_add e226 i26 (in_c 1 rfl) rfl; have a6 := (in_c 1 rfl); unfold In at a6; have a7 := i17; unfold In at a7; have a8 := t_add e110 j17_2 (in_c (-1) rfl) rfl; have a9 := (in_c (-1) rfl); unfold In at a9; have a10 := i225; unfold In at a10; have a11 := t_sub e137 i128 (in_c 1 rfl) rfl; have a12 := i120; unfold In at a12; have a13 := t_sub e119 i110 (in_c 1 rfl) rfl; have a14 := i24; unfold In at a14; have a15 := t_add e24 h1 (in_c 1 rfl) rfl; have oc := oc_408_109; omega
              have n17a : WS (sL sc17 193 z137.toNatClampNeg z152) x1 z226 z110 := by first | exact hk2 _ _ (by have a0 := h1; unfold In at a0; have a1 := i26; unfold In at a1; have a2 := j17_2; unfold In at a2; have a3 := i142; unfold In at a3; have a4 := i226; unfold In at a4; have a5 := t_add e226 i26 (in_c 1 rfl) rfl; have a6 := (in_c 1 rfl); unfold In at a6; have a7 := i17; unfold In at a7; have a8 := t_add e110 j17_2 (in_c (-1) rfl) rfl; have a9 := (in_c (-1) rfl); unfold In at a9; have a10 := i225; unfold In at a10; have a11 := t_sub e137 i128 (in_c 1 rfl) rfl; have a12 := i120; unfold In at a12; have a13 := t_sub e119 i110 (in_c 1 rfl) rfl; have a14 := i24; unfold In at a14; have a15 := t_add e24 h1 (in_c 1 rfl) rfl; have oc := oc_408_109; omega) (by have a0 := h1; unfold In at a0; have a1 := i26; unfold In at a1; have a2 := j17_2; unfold In at a2; have a3 := i142; unfold In at a3; have a4 := i226; unfold In at a4; have a5 := t_add e226 i26 (in_c 1 rfl) rfl; have a6 := (in_c 1 rfl); unfold In at a6; have a7 := i17; unfold In at a7; have a8 := t_add e110 j17_2 (in_c (-1) rfl) rfl; have a9 := (in_c (-1) rfl); unfold In at a9; have a10 := i225; unfold In at a10; have a11 := t_sub e137 i128 (in_c 1 rfl) rfl; have a12 := i120; unfold In at a12; have a13 := t_sub e119 i110 (in_c 1 rfl) rfl; have a14 := i24; unfold In at a14; have a15 := t_add e24 h1 (in_c 1 rfl) rfl; have oc := oc_408_109; omega) | exact ws_0 rfl (by first | exact (by decide) | exact i15.1) (by unfold wa; first | (rw [if_pos c3]; rfl) | (rw [if_neg c3, e15]; rfl))
              have n17b : EVI (fun j => rcd (s.1 184 j).toInt (s.1 185 j).toInt) (fun j => (s.2.1 194 j).toInt) ((wa s x1 : Nat) : Int) (z226).toInt (z110).toInt ((sL sc17 193 z137.toNatClampNeg z152).2.1 193) := by have he : z25 = (s.1 186 ((x1).toInt + 1).toNat) := (e25.trans ((congrFun (hFc17.1 186 rfl) _).trans (congrArg (s.1 186) (show (z24).toInt.toNat = ((x1).toInt + 1).toNat from (by rw [show (z24).toInt = (x1).toInt + 1 from (by have a0 := h1; unfold In at a0; have a1 := i26; unfold In at a1; have a2 := j17_2; unfold In at a2; have a3 := i142; unfold In at a3; have a4 := i226; unfold In at a4; have a5 := t_add e226 i26 (in_c 1 rfl) rfl; have a6 := (in_c 1 rfl); unfold In at a6; have a7 := i17; unfold In at a7; have a8 := t_add e110 j17_2 (in_c (-1) rfl) rfl; have a9 := (in_c (-1) rfl); unfold In at a9; have a10 := i225; unfold In at a10; have a11 := t_sub e137 i128 (in_c 1 rfl) rfl; have a12 := i120; unfold In at a12; have a13 := t_sub e119 i110 (in_c 1 rfl) rfl; have a14 := i24; unfold In at a14; have a15 := t_add e24 h1 (in_c 1 rfl) rfl; have oc := oc_408_109; omega)]))))); have hle : ((s.1 186 ((x1).toInt + 1).toNat)).toInt ≤ (s.1 186 2).toInt := (by have h9 := q_2.2; by_cases hx : (x1).toInt = 0; (rw [hx]; exact Int.le_of_lt h9); (rw [show ((x1).toInt + 1).toNat = 2 from (by have a0 := h1; unfold In at a0; have a1 := i26; unfold In at a1; have a2 := j17_2; unfold In at a2; have a3 := i142; unfold In at a3; have a4 := i226; unfold In at a4; have a5 := t_add e226 i26 (in_c 1 rfl) rfl; have a6 := (in_c 1 rfl); unfold In at a6; have a7 := i17; unfold In at a7; have a8 := t_add e110 j17_2 (in_c (-1) rfl) rfl; have a9 := (in_c (-1) rfl); unfold In at a9; have a10 := i225; unfold In at a10; have a11 := t_sub e137 i128 (in_c 1 rfl) rfl; have a12 := i120; unfold In at a12; have a13 := t_sub e119 i110 (in_c 1 rfl) rfl; have a14 := i24; unfold In at a14; have a15 := t_add e24 h1 (in_c 1 rfl) rfl; have oc := oc_408_109; omega)]; exact Int.le_refl _)); have hw : s.1 184 (y17_3).toInt.toNat = z34 := (e34.trans (congrFun (hFc17.1 184 rfl) _)).symm; have ok := q_1 (y17_3).toInt.toNat (by have h8 := c26; have ei : (((y17_3).toInt.toNat : Nat) : Int) = (y17_3).toInt := clx (by have a0 := h1; unfold In at a0; have a1 := i26; unfold In at a1; have a2 := j17_2; unfold In at a2; have a3 := i142; unfold In at a3; have a4 := i226; unfold In at a4; have a5 := t_add e226 i26 (in_c 1 rfl) rfl; have a6 := (in_c 1 rfl); unfold In at a6; have a7 := i17; unfold In at a7; have a8 := t_add e110 j17_2 (in_c (-1) rfl) rfl; have a9 := (in_c (-1) rfl); unfold In at a9; have a10 := i225; unfold In at a10; have a11 := t_sub e137 i128 (in_c 1 rfl) rfl; have a12 := i120; unfold In at a12; have a13 := t_sub e119 i110 (in_c 1 rfl) rfl; have a14 := i24; unfold In at a14; have a15 := t_add e24 h1 (in_c 1 rfl) rfl; have oc := oc_408_109; omega); rw [he] at h8; omega); rw [hw] at ok; have ew := ok.1; have wl : wa s x1 ≤ (y17_3).toInt.toNat := (by have h7 := g17_0.2.2.1; unfold wa at h7 ⊢; rw [hFc17.1 186 rfl] at h7; exact h7); have hz : z119 = z137 := (by rw [e119, e137]); have e9 := e120; rw [hz] at e9; have ba : BD (z120).toInt := (by rw [e9]; exact evi_2 g17_1 (by have a0 := h1; unfold In at a0; have a1 := i26; unfold In at a1; have a2 := j17_2; unfold In at a2; have a3 := i142; unfold In at a3; have a4 := i226; unfold In at a4; have a5 := t_add e226 i26 (in_c 1 rfl) rfl; have a6 := (in_c 1 rfl); unfold In at a6; have a7 := i17; unfold In at a7; have a8 := t_add e110 j17_2 (in_c (-1) rfl) rfl; have a9 := (in_c (-1) rfl); unfold In at a9; have a10 := i225; unfold In at a10; have a11 := t_sub e137 i128 (in_c 1 rfl) rfl; have a12 := i120; unfold In at a12; have a13 := t_sub e119 i110 (in_c 1 rfl) rfl; have a14 := i24; unfold In at a14; have a15 := t_add e24 h1 (in_c 1 rfl) rfl; have oc := oc_408_109; omega) (by rw [(show ((z137).toNatClampNeg : Int) = (z137).toInt from clx (by have a0 := h1; unfold In at a0; have a1 := i26; unfold In at a1; have a2 := j17_2; unfold In at a2; have a3 := i142; unfold In at a3; have a4 := i226; unfold In at a4; have a5 := t_add e226 i26 (in_c 1 rfl) rfl; have a6 := (in_c 1 rfl); unfold In at a6; have a7 := i17; unfold In at a7; have a8 := t_add e110 j17_2 (in_c (-1) rfl) rfl; have a9 := (in_c (-1) rfl); unfold In at a9; have a10 := i225; unfold In at a10; have a11 := t_sub e137 i128 (in_c 1 rfl) rfl; have a12 := i120; unfold In at a12; have a13 := t_sub e119 i110 (in_c 1 rfl) rfl; have a14 := i24; unfold In at a14; have a15 := t_add e24 h1 (in_c 1 rfl) rfl; have oc := oc_408_109; omega))]; have a0 := h1; unfold In at a0; have a1 := i26; unfold In at a1; have a2 := j17_2; unfold In at a2; have a3 := i142; unfold In at a3; have a4 := i226; unfold In at a4; have a5 := t_add e226 i26 (in_c 1 rfl) rfl; have a6 := (in_c 1 rfl); unfold In at a6; have a7 := i17; unfold In at a7; have a8 := t_add e110 j17_2 (in_c (-1) rfl) rfl; have a9 := (in_c (-1) rfl); unfold In at a9; have a10 := i225; unfold In at a10; have a11 := t_sub e137 i128 (in_c 1 rfl) rfl; have a12 := i120; unfold In at a12; have a13 := t_sub e119 i110 (in_c 1 rfl) rfl; have a14 := i24; unfold In at a14; have a15 := t_add e24 h1 (in_c 1 rfl) rfl; have oc := oc_408_109; omega)); have bb : BD (z128).toInt := (by rw [e128]; exact evi_1 g17_1 (by have a0 := h1; unfold In at a0; have a1 := i26; unfold In at a1; have a2 := j17_2; unfold In at a2; have a3 := i142; unfold In at a3; have a4 := i226; unfold In at a4; have a5 := t_add e226 i26 (in_c 1 rfl) rfl; have a6 := (in_c 1 rfl); unfold In at a6; have a7 := i17; unfold In at a7; have a8 := t_add e110 j17_2 (in_c (-1) rfl) rfl; have a9 := (in_c (-1) rfl); unfold In at a9; have a10 := i225; unfold In at a10; have a11 := t_sub e137 i128 (in_c 1 rfl) rfl; have a12 := i120; unfold In at a12; have a13 := t_sub e119 i110 (in_c 1 rfl) rfl; have a14 := i24; unfold In at a14; have a15 := t_add e24 h1 (in_c 1 rfl) rfl; have oc := oc_408_109; omega) (by rw [(show ((z110).toNatClampNeg : Int) = (z110).toInt from clx (by have a0 := h1; unfold In at a0; have a1 := i26; unfold In at a1; have a2 := j17_2; unfold In at a2; have a3 := i142; unfold In at a3; have a4 := i226; unfold In at a4; have a5 := t_add e226 i26 (in_c 1 rfl) rfl; have a6 := (in_c 1 rfl); unfold In at a6; have a7 := i17; unfold In at a7; have a8 := t_add e110 j17_2 (in_c (-1) rfl) rfl; have a9 := (in_c (-1) rfl); unfold In at a9; have a10 := i225; unfold In at a10; have a11 := t_sub e137 i128 (in_c 1 rfl) rfl; have a12 := i120; unfold In at a12; have a13 := t_sub e119 i110 (in_c 1 rfl) rfl; have a14 := i24; unfold In at a14; have a15 := t_add e24 h1 (in_c 1 rfl) rfl; have oc := oc_408_109; omega))]; have a0 := h1; unfold In at a0; have a1 := i26; unfold In at a1; have a2 := j17_2; unfold In at a2; have a3 := i142; unfold In at a3; have a4 := i226; unfold In at a4; have a5 := t_add e226 i26 (in_c 1 rfl) rfl; have a6 := (in_c 1 rfl); unfold In at a6; have a7 := i17; unfold In at a7; have a8 := t_add e110 j17_2 (in_c (-1) rfl) rfl; have a9 := (in_c (-1) rfl); unfold In at a9; have a10 := i225; unfold In at a10; have a11 := t_sub e137 i128 (in_c 1 rfl) rfl; have a12 := i120; unfold In at a12; have a13 := t_sub e119 i110 (in_c 1 rfl) rfl; have a14 := i24; unfold In at a14; have a15 := t_add e24 h1 (in_c 1 rfl) rfl; have oc := oc_408_109; omega)); rw [sL_v]; exact evi_b (j1 := (z110).toNatClampNeg) g17_1 (Int.natCast_nonneg _) (by have a0 := h1; unfold In at a0; have a1 := i26; unfold In at a1; have a2 := j17_2; unfold In at a2; have a3 := i142; unfold In at a3; have a4 := i226; unfold In at a4; have a5 := t_add e226 i26 (in_c 1 rfl) rfl; have a6 := (in_c 1 rfl); unfold In at a6; have a7 := i17; unfold In at a7; have a8 := t_add e110 j17_2 (in_c (-1) rfl) rfl; have a9 := (in_c (-1) rfl); unfold In at a9; have a10 := i225; unfold In at a10; have a11 := t_sub e137 i128 (in_c 1 rfl) rfl; have a12 := i120; unfold In at a12; have a13 := t_sub e119 i110 (in_c 1 rfl) rfl; have a14 := i24; unfold In at a14; have a15 := t_add e24 h1 (in_c 1 rfl) rfl; have oc := oc_408_109; omega) (by have a0 := h1; unfold In at a0; have a1 := i26; unfold In at a1; have a2 := j17_2; unfold In at a2; have a3 := i142; unfold In at a3; have a4 := i226; unfold In at a4; have a5 := t_add e226 i26 (in_c 1 rfl) rfl; have a6 := (in_c 1 rfl); unfold In at a6; have a7 := i17; unfold In at a7; have a8 := t_add e110 j17_2 (in_c (-1) rfl) rfl; have a9 := (in_c (-1) rfl); unfold In at a9; have a10 := i225; unfold In at a10; have a11 := t_sub e137 i128 (in_c 1 rfl) rfl; have a12 := i120; unfold In at a12; have a13 := t_sub e119 i110 (in_c 1 rfl) rfl; have a14 := i24; unfold In at a14; have a15 := t_add e24 h1 (in_c 1 rfl) rfl; have oc := oc_408_109; omega) (by have a0 := h1; unfold In at a0; have a1 := i26; unfold In at a1; have a2 := j17_2; unfold In at a2; have a3 := i142; unfold In at a3; have a4 := i226; unfold In at a4; have a5 := t_add e226 i26 (in_c 1 rfl) rfl; have a6 := (in_c 1 rfl); unfold In at a6; have a7 := i17; unfold In at a7; have a8 := t_add e110 j17_2 (in_c (-1) rfl) rfl; have a9 := (in_c (-1) rfl); unfold In at a9; have a10 := i225; unfold In at a10; have a11 := t_sub e137 i128 (in_c 1 rfl) rfl; have a12 := i120; unfold In at a12; have a13 := t_sub e119 i110 (in_c 1 rfl) rfl; have a14 := i24; unfold In at a14; have a15 := t_add e24 h1 (in_c 1 rfl) rfl; have oc := oc_408_109; omega) (by have a0 := h1; unfold In at a0; have a1 := i26; unfold In at a1; have a2 := j17_2; unfold In at a2; have a3 := i142; unfold In at a3; have a4 := i226; unfold In at a4; have a5 := t_add e226 i26 (in_c 1 rfl) rfl; have a6 := (in_c 1 rfl); unfold In at a6; have a7 := i17; unfold In at a7; have a8 := t_add e110 j17_2 (in_c (-1) rfl) rfl; have a9 := (in_c (-1) rfl); unfold In at a9; have a10 := i225; unfold In at a10; have a11 := t_sub e137 i128 (in_c 1 rfl) rfl; have a12 := i120; unfold In at a12; have a13 := t_sub e119 i110 (in_c 1 rfl) rfl; have a14 := i24; unfold In at a14; have a15 := t_add e24 h1 (in_c 1 rfl) rfl; have oc := oc_408_109; omega) (by rw [(show ((z137).toNatClampNeg : Int) = (z137).toInt from clx (by have a0 := h1; unfold In at a0; have a1 := i26; unfold In at a1; have a2 := j17_2; unfold In at a2; have a3 := i142; unfold In at a3; have a4 := i226; unfold In at a4; have a5 := t_add e226 i26 (in_c 1 rfl) rfl; have a6 := (in_c 1 rfl); unfold In at a6; have a7 := i17; unfold In at a7; have a8 := t_add e110 j17_2 (in_c (-1) rfl) rfl; have a9 := (in_c (-1) rfl); unfold In at a9; have a10 := i225; unfold In at a10; have a11 := t_sub e137 i128 (in_c 1 rfl) rfl; have a12 := i120; unfold In at a12; have a13 := t_sub e119 i110 (in_c 1 rfl) rfl; have a14 := i24; unfold In at a14; have a15 := t_add e24 h1 (in_c 1 rfl) rfl; have oc := oc_408_109; omega))]; have a0 := h1; unfold In at a0; have a1 := i26; unfold In at a1; have a2 := j17_2; unfold In at a2; have a3 := i142; unfold In at a3; have a4 := i226; unfold In at a4; have a5 := t_add e226 i26 (in_c 1 rfl) rfl; have a6 := (in_c 1 rfl); unfold In at a6; have a7 := i17; unfold In at a7; have a8 := t_add e110 j17_2 (in_c (-1) rfl) rfl; have a9 := (in_c (-1) rfl); unfold In at a9; have a10 := i225; unfold In at a10; have a11 := t_sub e137 i128 (in_c 1 rfl) rfl; have a12 := i120; unfold In at a12; have a13 := t_sub e119 i110 (in_c 1 rfl) rfl; have a14 := i24; unfold In at a14; have a15 := t_add e24 h1 (in_c 1 rfl) rfl; have oc := oc_408_109; omega) (by rw [(show ((z110).toNatClampNeg : Int) = (z110).toInt from clx (by have a0 := h1; unfold In at a0; have a1 := i26; unfold In at a1; have a2 := j17_2; unfold In at a2; have a3 := i142; unfold In at a3; have a4 := i226; unfold In at a4; have a5 := t_add e226 i26 (in_c 1 rfl) rfl; have a6 := (in_c 1 rfl); unfold In at a6; have a7 := i17; unfold In at a7; have a8 := t_add e110 j17_2 (in_c (-1) rfl) rfl; have a9 := (in_c (-1) rfl); unfold In at a9; have a10 := i225; unfold In at a10; have a11 := t_sub e137 i128 (in_c 1 rfl) rfl; have a12 := i120; unfold In at a12; have a13 := t_sub e119 i110 (in_c 1 rfl) rfl; have a14 := i24; unfold In at a14; have a15 := t_add e24 h1 (in_c 1 rfl) rfl; have oc := oc_408_109; omega))]; have a0 := h1; unfold In at a0; have a1 := i26; unfold In at a1; have a2 := j17_2; unfold In at a2; have a3 := i142; unfold In at a3; have a4 := i226; unfold In at a4; have a5 := t_add e226 i26 (in_c 1 rfl) rfl; have a6 := (in_c 1 rfl); unfold In at a6; have a7 := i17; unfold In at a7; have a8 := t_add e110 j17_2 (in_c (-1) rfl) rfl; have a9 := (in_c (-1) rfl); unfold In at a9; have a10 := i225; unfold In at a10; have a11 := t_sub e137 i128 (in_c 1 rfl) rfl; have a12 := i120; unfold In at a12; have a13 := t_sub e119 i110 (in_c 1 rfl) rfl; have a14 := i24; unfold In at a14; have a15 := t_add e24 h1 (in_c 1 rfl) rfl; have oc := oc_408_109; omega) (by show rcd (s.1 184 (y17_3).toInt.toNat).toInt (s.1 185 (y17_3).toInt.toNat).toInt = _; rw [hw]; exact rcd_d (by have a0 := h1; unfold In at a0; have a1 := i26; unfold In at a1; have a2 := j17_2; unfold In at a2; have a3 := i142; unfold In at a3; have a4 := i226; unfold In at a4; have a5 := t_add e226 i26 (in_c 1 rfl) rfl; have a6 := (in_c 1 rfl); unfold In at a6; have a7 := i17; unfold In at a7; have a8 := t_add e110 j17_2 (in_c (-1) rfl) rfl; have a9 := (in_c (-1) rfl); unfold In at a9; have a10 := i225; unfold In at a10; have a11 := t_sub e137 i128 (in_c 1 rfl) rfl; have a12 := i120; unfold In at a12; have a13 := t_sub e119 i110 (in_c 1 rfl) rfl; have a14 := i24; unfold In at a14; have a15 := t_add e24 h1 (in_c 1 rfl) rfl; have oc := oc_408_109; omega)) (by have a0 := h1; unfold In at a0; have a1 := i26; unfold In at a1; have a2 := j17_2; unfold In at a2; have a3 := i142; unfold In at a3; have a4 := i226; unfold In at a4; have a5 := t_add e226 i26 (in_c 1 rfl) rfl; have a6 := (in_c 1 rfl); unfold In at a6; have a7 := i17; unfold In at a7; have a8 := t_add e110 j17_2 (in_c (-1) rfl) rfl; have a9 := (in_c (-1) rfl); unfold In at a9; have a10 := i225; unfold In at a10; have a11 := t_sub e137 i128 (in_c 1 rfl) rfl; have a12 := i120; unfold In at a12; have a13 := t_sub e119 i110 (in_c 1 rfl) rfl; have a14 := i24; unfold In at a14; have a15 := t_add e24 h1 (in_c 1 rfl) rfl; have oc := oc_408_109; omega) (by omega) (by rw [← e9, ← e128, show 1000100 + (z34).toInt - 1000100 = (z34).toInt from (by omega)]; rw [cmb_t (by have a0 := h1; unfold In at a0; have a1 := i26; unfold In at a1; have a2 := j17_2; unfold In at a2; have a3 := i142; unfold In at a3; have a4 := i226; unfold In at a4; have a5 := t_add e226 i26 (in_c 1 rfl) rfl; have a6 := (in_c 1 rfl); unfold In at a6; have a7 := i17; unfold In at a7; have a8 := t_add e110 j17_2 (in_c (-1) rfl) rfl; have a9 := (in_c (-1) rfl); unfold In at a9; have a10 := i225; unfold In at a10; have a11 := t_sub e137 i128 (in_c 1 rfl) rfl; have a12 := i120; unfold In at a12; have a13 := t_sub e119 i110 (in_c 1 rfl) rfl; have a14 := i24; unfold In at a14; have a15 := t_add e24 h1 (in_c 1 rfl) rfl; have oc := oc_408_109; omega), p152, p149b]; exact clp_i (clp_b _))
              have n17c : (z226).toInt ≤ ((s.1 186 ((x1).toInt + 1).toNat)).toInt := by have he : z25 = (s.1 186 ((x1).toInt + 1).toNat) := (e25.trans ((congrFun (hFc17.1 186 rfl) _).trans (congrArg (s.1 186) (show (z24).toInt.toNat = ((x1).toInt + 1).toNat from (by rw [show (z24).toInt = (x1).toInt + 1 from (by have a0 := h1; unfold In at a0; have a1 := i26; unfold In at a1; have a2 := j17_2; unfold In at a2; have a3 := i142; unfold In at a3; have a4 := i226; unfold In at a4; have a5 := t_add e226 i26 (in_c 1 rfl) rfl; have a6 := (in_c 1 rfl); unfold In at a6; have a7 := i17; unfold In at a7; have a8 := t_add e110 j17_2 (in_c (-1) rfl) rfl; have a9 := (in_c (-1) rfl); unfold In at a9; have a10 := i225; unfold In at a10; have a11 := t_sub e137 i128 (in_c 1 rfl) rfl; have a12 := i120; unfold In at a12; have a13 := t_sub e119 i110 (in_c 1 rfl) rfl; have a14 := i24; unfold In at a14; have a15 := t_add e24 h1 (in_c 1 rfl) rfl; have oc := oc_408_109; omega)]))))); have h8 := c26; rw [he] at h8; have a0 := h1; unfold In at a0; have a1 := i26; unfold In at a1; have a2 := j17_2; unfold In at a2; have a3 := i142; unfold In at a3; have a4 := i226; unfold In at a4; have a5 := t_add e226 i26 (in_c 1 rfl) rfl; have a6 := (in_c 1 rfl); unfold In at a6; have a7 := i17; unfold In at a7; have a8 := t_add e110 j17_2 (in_c (-1) rfl) rfl; have a9 := (in_c (-1) rfl); unfold In at a9; have a10 := i225; unfold In at a10; have a11 := t_sub e137 i128 (in_c 1 rfl) rfl; have a12 := i120; unfold In at a12; have a13 := t_sub e119 i110 (in_c 1 rfl) rfl; have a14 := i24; unfold In at a14; have a15 := t_add e24 h1 (in_c 1 rfl) rfl; have oc := oc_408_109; omega
              exact gg_w (by omega) (gg_f (gf_cons rfl (gf_cons rfl (gf_cons rfl (gf_cons rfl gf_nil)))) (ih17 (sL sc17 193 z137.toNatClampNeg z152) z110 z226 hI225 (fr_sL rfl hFc17) i17 (in_w 0 120 i226 rfl) n17 n17a n17b n17c (m_up mm17 (t_add e226 i26 (in_c 1 rfl) rfl) (in_w 1 1 (in_c 1 rfl) rfl))))
          · skip
            have i84 := r_eq1 2 2 c84 i40 (in_c 2 rfl) rfl
            have hk3 := hs_2 hk1 c84
            refine g_aload_n 88 (gd rfl) rfl rfl ?_
            refine g_getA (q2 := 193) 91 (gd rfl) rfl rfl rfl rfl ?_
            refine g_iload_n 92 (gd rfl) rfl rfl ?_
            refine g_iconst 1 93 (gd rfl) rfl rfl ?_
            refine g_isub 94 (gd rfl) rfl (fun z93 e93 => ?_)
            have i93 := in_sub (-1) 119 e93 j17_2 (in_c 1 rfl) rfl rfl
            refine g_aload_n 95 (gd rfl) rfl rfl ?_
            refine g_getA (q2 := 193) 98 (gd rfl) rfl rfl rfl rfl ?_
            refine g_iload_n 99 (gd rfl) rfl rfl ?_
            refine g_iconst 1 100 (gd rfl) rfl rfl ?_
            refine g_isub 101 (gd rfl) rfl (fun z100 e100 => ?_)
            have i100 := in_sub (-1) 119 e100 j17_2 (in_c 1 rfl) rfl rfl
            have i101 : In z100 0 199 := by have a0 := h1; unfold In at a0; have a1 := i26; unfold In at a1; have a2 := j17_2; unfold In at a2; have a3 := i84; unfold In at a3; have a4 := i100; unfold In at a4; have a5 := t_sub e100 j17_2 (in_c 1 rfl) rfl; have a6 := (in_c 1 rfl); unfold In at a6; have a7 := i93; unfold In at a7; have a8 := t_sub e93 j17_2 (in_c 1 rfl) rfl; have a9 := i24; unfold In at a9; have a10 := t_add e24 h1 (in_c 1 rfl) rfl; have oc := oc_408_109; exact ⟨by omega, by omega⟩
            refine g_laload 102 (gd rfl) rfl (n := 200) rfl (in_ix i101 rfl) (fun z101 e101 => ?_)
            refine g_lneg 103 (gd rfl) rfl (fun z102 e102 => ?_)
            refine g_calls (As := [.long z102]) (r := [.int z93, .ref (A 193)]) 106 (gd rfl) rfl rfl rfl rfl rfl (Nat.le_of_ble_eq_true rfl) (Nat.zero_le _) (Nat.zero_le _) (f_405 (by omega) hIc17 ) (fun v u h => ?_)
            obtain ⟨z103, rfl, rfl, p103⟩ := h
            show GG _ _ _ _ _ _ _ _ [.long z103, .int z93, .ref (A 193)] _ _ _
            have i106 : In z93 0 199 := by have a0 := h1; unfold In at a0; have a1 := i26; unfold In at a1; have a2 := j17_2; unfold In at a2; have a3 := i84; unfold In at a3; have a4 := i101; unfold In at a4; have a5 := t_sub e100 j17_2 (in_c 1 rfl) rfl; have a6 := (in_c 1 rfl); unfold In at a6; have a7 := i93; unfold In at a7; have a8 := t_sub e93 j17_2 (in_c 1 rfl) rfl; have a9 := i24; unfold In at a9; have a10 := t_add e24 h1 (in_c 1 rfl) rfl; have oc := oc_408_109; exact ⟨by omega, by omega⟩
            refine g_lastore 107 (gd rfl) rfl (n := 200) rfl (in_ix i106 rfl) ?_
            have hI106 := inv_sL (q := 193) (j := z93.toNatClampNeg) (x := z103) hIc17 rfl (l_rng z103)
            refine g_goto 226 (gd rfl) rfl ?_
            refine g_iinc 229 (gd rfl) rfl rfl (Nat.le_of_ble_eq_true rfl) (fun z226 e226 => ?_)
            have i226 := in_add 1 120 e226 i26 (in_c 1 rfl) rfl rfl
            refine g_goto 17 (gd rfl) rfl ?_
            have n17 : (y17_2).toInt ≤ (z226).toInt := by have a0 := h1; unfold In at a0; have a1 := i26; unfold In at a1; have a2 := j17_2; unfold In at a2; have a3 := i84; unfold In at a3; have a4 := i226; unfold In at a4; have a5 := t_add e226 i26 (in_c 1 rfl) rfl; have a6 := (in_c 1 rfl); unfold In at a6; have a7 := i101; unfold In at a7; have a8 := t_sub e100 j17_2 (in_c 1 rfl) rfl; have a9 := i106; unfold In at a9; have a10 := t_sub e93 j17_2 (in_c 1 rfl) rfl; have a11 := i24; unfold In at a11; have a12 := t_add e24 h1 (in_c 1 rfl) rfl; have oc := oc_408_109; omega
            have n17a : WS (sL sc17 193 z93.toNatClampNeg z103) x1 z226 y17_2 := by first | exact hk2 _ _ (by have a0 := h1; unfold In at a0; have a1 := i26; unfold In at a1; have a2 := j17_2; unfold In at a2; have a3 := i84; unfold In at a3; have a4 := i226; unfold In at a4; have a5 := t_add e226 i26 (in_c 1 rfl) rfl; have a6 := (in_c 1 rfl); unfold In at a6; have a7 := i101; unfold In at a7; have a8 := t_sub e100 j17_2 (in_c 1 rfl) rfl; have a9 := i106; unfold In at a9; have a10 := t_sub e93 j17_2 (in_c 1 rfl) rfl; have a11 := i24; unfold In at a11; have a12 := t_add e24 h1 (in_c 1 rfl) rfl; have oc := oc_408_109; omega) (by have a0 := h1; unfold In at a0; have a1 := i26; unfold In at a1; have a2 := j17_2; unfold In at a2; have a3 := i84; unfold In at a3; have a4 := i226; unfold In at a4; have a5 := t_add e226 i26 (in_c 1 rfl) rfl; have a6 := (in_c 1 rfl); unfold In at a6; have a7 := i101; unfold In at a7; have a8 := t_sub e100 j17_2 (in_c 1 rfl) rfl; have a9 := i106; unfold In at a9; have a10 := t_sub e93 j17_2 (in_c 1 rfl) rfl; have a11 := i24; unfold In at a11; have a12 := t_add e24 h1 (in_c 1 rfl) rfl; have oc := oc_408_109; omega) | exact ws_0 rfl (by first | exact (by decide) | exact i15.1) (by unfold wa; first | (rw [if_pos c3]; rfl) | (rw [if_neg c3, e15]; rfl))
            have n17b : EVI (fun j => rcd (s.1 184 j).toInt (s.1 185 j).toInt) (fun j => (s.2.1 194 j).toInt) ((wa s x1 : Nat) : Int) (z226).toInt (y17_2).toInt ((sL sc17 193 z93.toNatClampNeg z103).2.1 193) := by have he : z25 = (s.1 186 ((x1).toInt + 1).toNat) := (e25.trans ((congrFun (hFc17.1 186 rfl) _).trans (congrArg (s.1 186) (show (z24).toInt.toNat = ((x1).toInt + 1).toNat from (by rw [show (z24).toInt = (x1).toInt + 1 from (by have a0 := h1; unfold In at a0; have a1 := i26; unfold In at a1; have a2 := j17_2; unfold In at a2; have a3 := i84; unfold In at a3; have a4 := i226; unfold In at a4; have a5 := t_add e226 i26 (in_c 1 rfl) rfl; have a6 := (in_c 1 rfl); unfold In at a6; have a7 := i101; unfold In at a7; have a8 := t_sub e100 j17_2 (in_c 1 rfl) rfl; have a9 := i106; unfold In at a9; have a10 := t_sub e93 j17_2 (in_c 1 rfl) rfl; have a11 := i24; unfold In at a11; have a12 := t_add e24 h1 (in_c 1 rfl) rfl; have oc := oc_408_109; omega)]))))); have hle : ((s.1 186 ((x1).toInt + 1).toNat)).toInt ≤ (s.1 186 2).toInt := (by have h9 := q_2.2; by_cases hx : (x1).toInt = 0; (rw [hx]; exact Int.le_of_lt h9); (rw [show ((x1).toInt + 1).toNat = 2 from (by have a0 := h1; unfold In at a0; have a1 := i26; unfold In at a1; have a2 := j17_2; unfold In at a2; have a3 := i84; unfold In at a3; have a4 := i226; unfold In at a4; have a5 := t_add e226 i26 (in_c 1 rfl) rfl; have a6 := (in_c 1 rfl); unfold In at a6; have a7 := i101; unfold In at a7; have a8 := t_sub e100 j17_2 (in_c 1 rfl) rfl; have a9 := i106; unfold In at a9; have a10 := t_sub e93 j17_2 (in_c 1 rfl) rfl; have a11 := i24; unfold In at a11; have a12 := t_add e24 h1 (in_c 1 rfl) rfl; have oc := oc_408_109; omega)]; exact Int.le_refl _)); have hw : s.1 184 (y17_3).toInt.toNat = z34 := (e34.trans (congrFun (hFc17.1 184 rfl) _)).symm; have ok := q_1 (y17_3).toInt.toNat (by have h8 := c26; have ei : (((y17_3).toInt.toNat : Nat) : Int) = (y17_3).toInt := clx (by have a0 := h1; unfold In at a0; have a1 := i26; unfold In at a1; have a2 := j17_2; unfold In at a2; have a3 := i84; unfold In at a3; have a4 := i226; unfold In at a4; have a5 := t_add e226 i26 (in_c 1 rfl) rfl; have a6 := (in_c 1 rfl); unfold In at a6; have a7 := i101; unfold In at a7; have a8 := t_sub e100 j17_2 (in_c 1 rfl) rfl; have a9 := i106; unfold In at a9; have a10 := t_sub e93 j17_2 (in_c 1 rfl) rfl; have a11 := i24; unfold In at a11; have a12 := t_add e24 h1 (in_c 1 rfl) rfl; have oc := oc_408_109; omega); rw [he] at h8; omega); rw [hw] at ok; have ew := ok.1; have wl : wa s x1 ≤ (y17_3).toInt.toNat := (by have h7 := g17_0.2.2.1; unfold wa at h7 ⊢; rw [hFc17.1 186 rfl] at h7; exact h7); rw [sL_v]; exact evi_m g17_1 (Int.natCast_nonneg _) (by have a0 := h1; unfold In at a0; have a1 := i26; unfold In at a1; have a2 := j17_2; unfold In at a2; have a3 := i84; unfold In at a3; have a4 := i226; unfold In at a4; have a5 := t_add e226 i26 (in_c 1 rfl) rfl; have a6 := (in_c 1 rfl); unfold In at a6; have a7 := i101; unfold In at a7; have a8 := t_sub e100 j17_2 (in_c 1 rfl) rfl; have a9 := i106; unfold In at a9; have a10 := t_sub e93 j17_2 (in_c 1 rfl) rfl; have a11 := i24; unfold In at a11; have a12 := t_add e24 h1 (in_c 1 rfl) rfl; have oc := oc_408_109; omega) (by have a0 := h1; unfold In at a0; have a1 := i26; unfold In at a1; have a2 := j17_2; unfold In at a2; have a3 := i84; unfold In at a3; have a4 := i226; unfold In at a4; have a5 := t_add e226 i26 (in_c 1 rfl) rfl; have a6 := (in_c 1 rfl); unfold In at a6; have a7 := i101; unfold In at a7; have a8 := t_sub e100 j17_2 (in_c 1 rfl) rfl; have a9 := i106; unfold In at a9; have a10 := t_sub e93 j17_2 (in_c 1 rfl) rfl; have a11 := i24; unfold In at a11; have a12 := t_add e24 h1 (in_c 1 rfl) rfl; have oc := oc_408_109; omega) (by have a0 := h1; unfold In at a0; have a1 := i26; unfold In at a1; have a2 := j17_2; unfold In at a2; have a3 := i84; unfold In at a3; have a4 := i226; unfold In at a4; have a5 := t_add e226 i26 (in_c 1 rfl) rfl; have a6 := (in_c 1 rfl); unfold In at a6; have a7 := i101; unfold In at a7; have a8 := t_sub e100 j17_2 (in_c 1 rfl) rfl; have a9 := i106; unfold In at a9; have a10 := t_sub e93 j17_2 (in_c 1 rfl) rfl; have a11 := i24; unfold In at a11; have a12 := t_add e24 h1 (in_c 1 rfl) rfl; have oc := oc_408_109; omega) (by rw [(show ((z93).toNatClampNeg : Int) = (z93).toInt from clx (by have a0 := h1; unfold In at a0; have a1 := i26; unfold In at a1; have a2 := j17_2; unfold In at a2; have a3 := i84; unfold In at a3; have a4 := i226; unfold In at a4; have a5 := t_add e226 i26 (in_c 1 rfl) rfl; have a6 := (in_c 1 rfl); unfold In at a6; have a7 := i101; unfold In at a7; have a8 := t_sub e100 j17_2 (in_c 1 rfl) rfl; have a9 := i106; unfold In at a9; have a10 := t_sub e93 j17_2 (in_c 1 rfl) rfl; have a11 := i24; unfold In at a11; have a12 := t_add e24 h1 (in_c 1 rfl) rfl; have oc := oc_408_109; omega))]; have a0 := h1; unfold In at a0; have a1 := i26; unfold In at a1; have a2 := j17_2; unfold In at a2; have a3 := i84; unfold In at a3; have a4 := i226; unfold In at a4; have a5 := t_add e226 i26 (in_c 1 rfl) rfl; have a6 := (in_c 1 rfl); unfold In at a6; have a7 := i101; unfold In at a7; have a8 := t_sub e100 j17_2 (in_c 1 rfl) rfl; have a9 := i106; unfold In at a9; have a10 := t_sub e93 j17_2 (in_c 1 rfl) rfl; have a11 := i24; unfold In at a11; have a12 := t_add e24 h1 (in_c 1 rfl) rfl; have oc := oc_408_109; omega) (by show rcd (s.1 184 (y17_3).toInt.toNat).toInt (s.1 185 (y17_3).toInt.toNat).toInt = _; rw [hw]; exact rcd_c (by have a0 := h1; unfold In at a0; have a1 := i26; unfold In at a1; have a2 := j17_2; unfold In at a2; have a3 := i84; unfold In at a3; have a4 := i226; unfold In at a4; have a5 := t_add e226 i26 (in_c 1 rfl) rfl; have a6 := (in_c 1 rfl); unfold In at a6; have a7 := i101; unfold In at a7; have a8 := t_sub e100 j17_2 (in_c 1 rfl) rfl; have a9 := i106; unfold In at a9; have a10 := t_sub e93 j17_2 (in_c 1 rfl) rfl; have a11 := i24; unfold In at a11; have a12 := t_add e24 h1 (in_c 1 rfl) rfl; have oc := oc_408_109; omega)) rfl (fun hb => by have hz : z100 = z93 := (by rw [e100, e93]); have e9 := e101; rw [hz] at e9; rw [← e9] at hb ⊢; have t2 : z102.toInt = -z101.toInt := (by unfold BD at hb; exact lneg_t e102 (by omega) (by omega)); rw [p103, t2]; exact clp_i (bd_n hb))
            have n17c : (z226).toInt ≤ ((s.1 186 ((x1).toInt + 1).toNat)).toInt := by have he : z25 = (s.1 186 ((x1).toInt + 1).toNat) := (e25.trans ((congrFun (hFc17.1 186 rfl) _).trans (congrArg (s.1 186) (show (z24).toInt.toNat = ((x1).toInt + 1).toNat from (by rw [show (z24).toInt = (x1).toInt + 1 from (by have a0 := h1; unfold In at a0; have a1 := i26; unfold In at a1; have a2 := j17_2; unfold In at a2; have a3 := i84; unfold In at a3; have a4 := i226; unfold In at a4; have a5 := t_add e226 i26 (in_c 1 rfl) rfl; have a6 := (in_c 1 rfl); unfold In at a6; have a7 := i101; unfold In at a7; have a8 := t_sub e100 j17_2 (in_c 1 rfl) rfl; have a9 := i106; unfold In at a9; have a10 := t_sub e93 j17_2 (in_c 1 rfl) rfl; have a11 := i24; unfold In at a11; have a12 := t_add e24 h1 (in_c 1 rfl) rfl; have oc := oc_408_109; omega)]))))); have h8 := c26; rw [he] at h8; have a0 := h1; unfold In at a0; have a1 := i26; unfold In at a1; have a2 := j17_2; unfold In at a2; have a3 := i84; unfold In at a3; have a4 := i226; unfold In at a4; have a5 := t_add e226 i26 (in_c 1 rfl) rfl; have a6 := (in_c 1 rfl); unfold In at a6; have a7 := i101; unfold In at a7; have a8 := t_sub e100 j17_2 (in_c 1 rfl) rfl; have a9 := i106; unfold In at a9; have a10 := t_sub e93 j17_2 (in_c 1 rfl) rfl; have a11 := i24; unfold In at a11; have a12 := t_add e24 h1 (in_c 1 rfl) rfl; have oc := oc_408_109; omega
            exact gg_w (by omega) (gg_f (gf_cons rfl (gf_cons rfl (gf_cons rfl (gf_cons rfl gf_nil)))) (ih17 (sL sc17 193 z93.toNatClampNeg z103) y17_2 z226 hI106 (fr_sL rfl hFc17) (in_w 0 120 j17_2 rfl) (in_w 0 120 i226 rfl) n17 n17a n17b n17c (m_up mm17 (t_add e226 i26 (in_c 1 rfl) rfl) (in_w 1 1 (in_c 1 rfl) rfl))))
        · skip
          have i40 := r_lt1 (-2147483648) 1 c40 (i_rng z34) (in_c 2 rfl) rfl
          have hk3 := (hs_0 hk1 c40)
          refine g_aload_n 44 (gd rfl) rfl rfl ?_
          refine g_getA (q2 := 193) 47 (gd rfl) rfl rfl rfl rfl ?_
          refine g_iload_n 48 (gd rfl) rfl rfl ?_
          refine g_iload 50 (gd rfl) rfl rfl ?_
          refine g_if_ne 53 63 (gd rfl) rfl rfl (fun c50 => ?_) (fun c50 => ?_)
          · skip
            refine g_aload_n 64 (gd rfl) rfl rfl ?_
            refine g_getA (q2 := 194) 67 (gd rfl) rfl rfl rfl rfl ?_
            refine g_aload_n 68 (gd rfl) rfl rfl ?_
            refine g_getA (q2 := 185) 71 (gd rfl) rfl rfl rfl rfl ?_
            refine g_iload_n 72 (gd rfl) rfl rfl ?_
            refine g_iaload 73 (gd rfl) rfl (n := 400) rfl (in_ix i26 rfl) (fun z72 e72 => ?_)
            have i73 : In z72 0 8 := by rw [e72]; exact hk3.2 c50
            refine g_laload 74 (gd rfl) rfl (n := 9) rfl (in_ix i73 rfl) (fun z73 e73 => ?_)
            refine g_lastore 75 (gd rfl) rfl (n := 200) rfl (in_ix j17_2 rfl) ?_
            have hI74 := inv_sL (q := 193) (j := y17_2.toNatClampNeg) (x := z73) hIc17 rfl (l_rng z73)
            refine g_iinc 78 (gd rfl) rfl rfl (Nat.le_of_ble_eq_true rfl) (fun z75 e75 => ?_)
            have i75 := in_add 1 121 e75 j17_2 (in_c 1 rfl) rfl rfl
            refine g_goto 226 (gd rfl) rfl ?_
            refine g_iinc 229 (gd rfl) rfl rfl (Nat.le_of_ble_eq_true rfl) (fun z226 e226 => ?_)
            have i226 := in_add 1 120 e226 i26 (in_c 1 rfl) rfl rfl
            refine g_goto 17 (gd rfl) rfl ?_
            have i17 : In z75 0 120 := by exact ⟨by have a0 := h1; unfold In at a0; have a1 := i26; unfold In at a1; have a2 := j17_2; unfold In at a2; have a3 := i40; unfold In at a3; have a4 := i226; unfold In at a4; have a5 := t_add e226 i26 (in_c 1 rfl) rfl; have a6 := (in_c 1 rfl); unfold In at a6; have a7 := i75; unfold In at a7; have a8 := t_add e75 j17_2 (in_c 1 rfl) rfl; have a9 := i24; unfold In at a9; have a10 := t_add e24 h1 (in_c 1 rfl) rfl; have oc := oc_408_109; omega, by have a0 := h1; unfold In at a0; have a1 := i26; unfold In at a1; have a2 := j17_2; unfold In at a2; have a3 := i40; unfold In at a3; have a4 := i226; unfold In at a4; have a5 := t_add e226 i26 (in_c 1 rfl) rfl; have a6 := (in_c 1 rfl); unfold In at a6; have a7 := i75; unfold In at a7; have a8 := t_add e75 j17_2 (in_c 1 rfl) rfl; have a9 := i24; unfold In at a9; have a10 := t_add e24 h1 (in_c 1 rfl) rfl; have oc := oc_408_109; omega⟩
            have n17 : (z75).toInt ≤ (z226).toInt := by have a0 := h1; unfold In at a0; have a1 := i26; unfold In at a1; have a2 := j17_2; unfold In at a2; have a3 := i40; unfold In at a3; have a4 := i226; unfold In at a4; have a5 := t_add e226 i26 (in_c 1 rfl) rfl; have a6 := (in_c 1 rfl); unfold In at a6; have a7 := i17; unfold In at a7; have a8 := t_add e75 j17_2 (in_c 1 rfl) rfl; have a9 := i24; unfold In at a9; have a10 := t_add e24 h1 (in_c 1 rfl) rfl; have oc := oc_408_109; omega
            have n17a : WS (sL sc17 193 y17_2.toNatClampNeg z73) x1 z226 z75 := by first | exact hk2 _ _ (by have a0 := h1; unfold In at a0; have a1 := i26; unfold In at a1; have a2 := j17_2; unfold In at a2; have a3 := i40; unfold In at a3; have a4 := i226; unfold In at a4; have a5 := t_add e226 i26 (in_c 1 rfl) rfl; have a6 := (in_c 1 rfl); unfold In at a6; have a7 := i17; unfold In at a7; have a8 := t_add e75 j17_2 (in_c 1 rfl) rfl; have a9 := i24; unfold In at a9; have a10 := t_add e24 h1 (in_c 1 rfl) rfl; have oc := oc_408_109; omega) (by have a0 := h1; unfold In at a0; have a1 := i26; unfold In at a1; have a2 := j17_2; unfold In at a2; have a3 := i40; unfold In at a3; have a4 := i226; unfold In at a4; have a5 := t_add e226 i26 (in_c 1 rfl) rfl; have a6 := (in_c 1 rfl); unfold In at a6; have a7 := i17; unfold In at a7; have a8 := t_add e75 j17_2 (in_c 1 rfl) rfl; have a9 := i24; unfold In at a9; have a10 := t_add e24 h1 (in_c 1 rfl) rfl; have oc := oc_408_109; omega) | exact ws_0 rfl (by first | exact (by decide) | exact i15.1) (by unfold wa; first | (rw [if_pos c3]; rfl) | (rw [if_neg c3, e15]; rfl))
            have n17b : EVI (fun j => rcd (s.1 184 j).toInt (s.1 185 j).toInt) (fun j => (s.2.1 194 j).toInt) ((wa s x1 : Nat) : Int) (z226).toInt (z75).toInt ((sL sc17 193 y17_2.toNatClampNeg z73).2.1 193) := by have he : z25 = (s.1 186 ((x1).toInt + 1).toNat) := (e25.trans ((congrFun (hFc17.1 186 rfl) _).trans (congrArg (s.1 186) (show (z24).toInt.toNat = ((x1).toInt + 1).toNat from (by rw [show (z24).toInt = (x1).toInt + 1 from (by have a0 := h1; unfold In at a0; have a1 := i26; unfold In at a1; have a2 := j17_2; unfold In at a2; have a3 := i40; unfold In at a3; have a4 := i226; unfold In at a4; have a5 := t_add e226 i26 (in_c 1 rfl) rfl; have a6 := (in_c 1 rfl); unfold In at a6; have a7 := i17; unfold In at a7; have a8 := t_add e75 j17_2 (in_c 1 rfl) rfl; have a9 := i24; unfold In at a9; have a10 := t_add e24 h1 (in_c 1 rfl) rfl; have oc := oc_408_109; omega)]))))); have hle : ((s.1 186 ((x1).toInt + 1).toNat)).toInt ≤ (s.1 186 2).toInt := (by have h9 := q_2.2; by_cases hx : (x1).toInt = 0; (rw [hx]; exact Int.le_of_lt h9); (rw [show ((x1).toInt + 1).toNat = 2 from (by have a0 := h1; unfold In at a0; have a1 := i26; unfold In at a1; have a2 := j17_2; unfold In at a2; have a3 := i40; unfold In at a3; have a4 := i226; unfold In at a4; have a5 := t_add e226 i26 (in_c 1 rfl) rfl; have a6 := (in_c 1 rfl); unfold In at a6; have a7 := i17; unfold In at a7; have a8 := t_add e75 j17_2 (in_c 1 rfl) rfl; have a9 := i24; unfold In at a9; have a10 := t_add e24 h1 (in_c 1 rfl) rfl; have oc := oc_408_109; omega)]; exact Int.le_refl _)); have hw : s.1 184 (y17_3).toInt.toNat = z34 := (e34.trans (congrFun (hFc17.1 184 rfl) _)).symm; have ok := q_1 (y17_3).toInt.toNat (by have h8 := c26; have ei : (((y17_3).toInt.toNat : Nat) : Int) = (y17_3).toInt := clx (by have a0 := h1; unfold In at a0; have a1 := i26; unfold In at a1; have a2 := j17_2; unfold In at a2; have a3 := i40; unfold In at a3; have a4 := i226; unfold In at a4; have a5 := t_add e226 i26 (in_c 1 rfl) rfl; have a6 := (in_c 1 rfl); unfold In at a6; have a7 := i17; unfold In at a7; have a8 := t_add e75 j17_2 (in_c 1 rfl) rfl; have a9 := i24; unfold In at a9; have a10 := t_add e24 h1 (in_c 1 rfl) rfl; have oc := oc_408_109; omega); rw [he] at h8; omega); rw [hw] at ok; have ew := ok.1; have wl : wa s x1 ≤ (y17_3).toInt.toNat := (by have h7 := g17_0.2.2.1; unfold wa at h7 ⊢; rw [hFc17.1 186 rfl] at h7; exact h7); have hv : s.1 185 (y17_3).toInt.toNat = z72 := (e72.trans (congrFun (hFc17.1 185 rfl) _)).symm; have h3 := hk3.2 (by have a0 := h1; unfold In at a0; have a1 := i26; unfold In at a1; have a2 := j17_2; unfold In at a2; have a3 := i40; unfold In at a3; have a4 := i226; unfold In at a4; have a5 := t_add e226 i26 (in_c 1 rfl) rfl; have a6 := (in_c 1 rfl); unfold In at a6; have a7 := i17; unfold In at a7; have a8 := t_add e75 j17_2 (in_c 1 rfl) rfl; have a9 := i24; unfold In at a9; have a10 := t_add e24 h1 (in_c 1 rfl) rfl; have oc := oc_408_109; omega); have h4 : sc17.1 185 (y17_3).toNatClampNeg = z72 := e72.symm; rw [h4] at h3; rw [sL_v]; exact evi_n g17_1 (Int.natCast_nonneg _) (by have a0 := h1; unfold In at a0; have a1 := i26; unfold In at a1; have a2 := j17_2; unfold In at a2; have a3 := i40; unfold In at a3; have a4 := i226; unfold In at a4; have a5 := t_add e226 i26 (in_c 1 rfl) rfl; have a6 := (in_c 1 rfl); unfold In at a6; have a7 := i17; unfold In at a7; have a8 := t_add e75 j17_2 (in_c 1 rfl) rfl; have a9 := i24; unfold In at a9; have a10 := t_add e24 h1 (in_c 1 rfl) rfl; have oc := oc_408_109; omega) (by have a0 := h1; unfold In at a0; have a1 := i26; unfold In at a1; have a2 := j17_2; unfold In at a2; have a3 := i40; unfold In at a3; have a4 := i226; unfold In at a4; have a5 := t_add e226 i26 (in_c 1 rfl) rfl; have a6 := (in_c 1 rfl); unfold In at a6; have a7 := i17; unfold In at a7; have a8 := t_add e75 j17_2 (in_c 1 rfl) rfl; have a9 := i24; unfold In at a9; have a10 := t_add e24 h1 (in_c 1 rfl) rfl; have oc := oc_408_109; omega) (by have a0 := h1; unfold In at a0; have a1 := i26; unfold In at a1; have a2 := j17_2; unfold In at a2; have a3 := i40; unfold In at a3; have a4 := i226; unfold In at a4; have a5 := t_add e226 i26 (in_c 1 rfl) rfl; have a6 := (in_c 1 rfl); unfold In at a6; have a7 := i17; unfold In at a7; have a8 := t_add e75 j17_2 (in_c 1 rfl) rfl; have a9 := i24; unfold In at a9; have a10 := t_add e24 h1 (in_c 1 rfl) rfl; have oc := oc_408_109; omega) (by have a0 := h1; unfold In at a0; have a1 := i26; unfold In at a1; have a2 := j17_2; unfold In at a2; have a3 := i40; unfold In at a3; have a4 := i226; unfold In at a4; have a5 := t_add e226 i26 (in_c 1 rfl) rfl; have a6 := (in_c 1 rfl); unfold In at a6; have a7 := i17; unfold In at a7; have a8 := t_add e75 j17_2 (in_c 1 rfl) rfl; have a9 := i24; unfold In at a9; have a10 := t_add e24 h1 (in_c 1 rfl) rfl; have oc := oc_408_109; omega) (show ((y17_2).toNatClampNeg : Int) = (y17_2).toInt from clx (by have a0 := h1; unfold In at a0; have a1 := i26; unfold In at a1; have a2 := j17_2; unfold In at a2; have a3 := i40; unfold In at a3; have a4 := i226; unfold In at a4; have a5 := t_add e226 i26 (in_c 1 rfl) rfl; have a6 := (in_c 1 rfl); unfold In at a6; have a7 := i17; unfold In at a7; have a8 := t_add e75 j17_2 (in_c 1 rfl) rfl; have a9 := i24; unfold In at a9; have a10 := t_add e24 h1 (in_c 1 rfl) rfl; have oc := oc_408_109; omega)) (by show rcd (s.1 184 (y17_3).toInt.toNat).toInt (s.1 185 (y17_3).toInt.toNat).toInt = _; rw [hw, hv]; exact rcd_b (by have a0 := h1; unfold In at a0; have a1 := i26; unfold In at a1; have a2 := j17_2; unfold In at a2; have a3 := i40; unfold In at a3; have a4 := i226; unfold In at a4; have a5 := t_add e226 i26 (in_c 1 rfl) rfl; have a6 := (in_c 1 rfl); unfold In at a6; have a7 := i17; unfold In at a7; have a8 := t_add e75 j17_2 (in_c 1 rfl) rfl; have a9 := i24; unfold In at a9; have a10 := t_add e24 h1 (in_c 1 rfl) rfl; have oc := oc_408_109; omega)) (fun l => evs_v (by omega) (by omega)) (congrArg Int64.toInt (e73.trans ((congrFun (hFc17.2.1 194 rfl) _).trans (congrArg (s.2.1 194) (show (z72).toInt.toNat = (1000000 + (z72).toInt - 1000000).toNat from (by omega)))))) (q_0 _ (by omega))
            have n17c : (z226).toInt ≤ ((s.1 186 ((x1).toInt + 1).toNat)).toInt := by have he : z25 = (s.1 186 ((x1).toInt + 1).toNat) := (e25.trans ((congrFun (hFc17.1 186 rfl) _).trans (congrArg (s.1 186) (show (z24).toInt.toNat = ((x1).toInt + 1).toNat from (by rw [show (z24).toInt = (x1).toInt + 1 from (by have a0 := h1; unfold In at a0; have a1 := i26; unfold In at a1; have a2 := j17_2; unfold In at a2; have a3 := i40; unfold In at a3; have a4 := i226; unfold In at a4; have a5 := t_add e226 i26 (in_c 1 rfl) rfl; have a6 := (in_c 1 rfl); unfold In at a6; have a7 := i17; unfold In at a7; have a8 := t_add e75 j17_2 (in_c 1 rfl) rfl; have a9 := i24; unfold In at a9; have a10 := t_add e24 h1 (in_c 1 rfl) rfl; have oc := oc_408_109; omega)]))))); have h8 := c26; rw [he] at h8; have a0 := h1; unfold In at a0; have a1 := i26; unfold In at a1; have a2 := j17_2; unfold In at a2; have a3 := i40; unfold In at a3; have a4 := i226; unfold In at a4; have a5 := t_add e226 i26 (in_c 1 rfl) rfl; have a6 := (in_c 1 rfl); unfold In at a6; have a7 := i17; unfold In at a7; have a8 := t_add e75 j17_2 (in_c 1 rfl) rfl; have a9 := i24; unfold In at a9; have a10 := t_add e24 h1 (in_c 1 rfl) rfl; have oc := oc_408_109; omega
            exact gg_w (by omega) (gg_f (gf_cons rfl (gf_cons rfl (gf_cons rfl (gf_cons rfl gf_nil)))) (ih17 (sL sc17 193 y17_2.toNatClampNeg z73) z75 z226 hI74 (fr_sL rfl hFc17) i17 (in_w 0 120 i226 rfl) n17 n17a n17b n17c (m_up mm17 (t_add e226 i26 (in_c 1 rfl) rfl) (in_w 1 1 (in_c 1 rfl) rfl))))
          · skip
            have i50 := z_eq 0 0 c50 i40 rfl
            refine g_aload_n 54 (gd rfl) rfl rfl ?_
            refine g_getA (q2 := 185) 57 (gd rfl) rfl rfl rfl rfl ?_
            refine g_iload_n 58 (gd rfl) rfl rfl ?_
            refine g_iaload 59 (gd rfl) rfl (n := 400) rfl (in_ix i26 rfl) (fun z58 e58 => ?_)
            refine g_i2l 60 (gd rfl) rfl (fun z59 e59 => ?_)
            have i59 := l_i e59 (i_rng z58)
            refine g_goto 74 (gd rfl) rfl ?_
            refine g_lastore 75 (gd rfl) rfl (n := 200) rfl (in_ix j17_2 rfl) ?_
            have hI74 := inv_sL (q := 193) (j := y17_2.toNatClampNeg) (x := z59) hIc17 rfl (l_rng z59)
            refine g_iinc 78 (gd rfl) rfl rfl (Nat.le_of_ble_eq_true rfl) (fun z75 e75 => ?_)
            have i75 := in_add 1 121 e75 j17_2 (in_c 1 rfl) rfl rfl
            refine g_goto 226 (gd rfl) rfl ?_
            refine g_iinc 229 (gd rfl) rfl rfl (Nat.le_of_ble_eq_true rfl) (fun z226 e226 => ?_)
            have i226 := in_add 1 120 e226 i26 (in_c 1 rfl) rfl rfl
            refine g_goto 17 (gd rfl) rfl ?_
            have i17 : In z75 0 120 := by exact ⟨by have a0 := h1; unfold In at a0; have a1 := i26; unfold In at a1; have a2 := j17_2; unfold In at a2; have a3 := i50; unfold In at a3; have a4 := i226; unfold In at a4; have a5 := t_add e226 i26 (in_c 1 rfl) rfl; have a6 := (in_c 1 rfl); unfold In at a6; have a7 := i75; unfold In at a7; have a8 := t_add e75 j17_2 (in_c 1 rfl) rfl; have a9 := tx_i2l e59; have a10 := i24; unfold In at a10; have a11 := t_add e24 h1 (in_c 1 rfl) rfl; have oc := oc_408_109; omega, by have a0 := h1; unfold In at a0; have a1 := i26; unfold In at a1; have a2 := j17_2; unfold In at a2; have a3 := i50; unfold In at a3; have a4 := i226; unfold In at a4; have a5 := t_add e226 i26 (in_c 1 rfl) rfl; have a6 := (in_c 1 rfl); unfold In at a6; have a7 := i75; unfold In at a7; have a8 := t_add e75 j17_2 (in_c 1 rfl) rfl; have a9 := tx_i2l e59; have a10 := i24; unfold In at a10; have a11 := t_add e24 h1 (in_c 1 rfl) rfl; have oc := oc_408_109; omega⟩
            have n17 : (z75).toInt ≤ (z226).toInt := by have a0 := h1; unfold In at a0; have a1 := i26; unfold In at a1; have a2 := j17_2; unfold In at a2; have a3 := i50; unfold In at a3; have a4 := i226; unfold In at a4; have a5 := t_add e226 i26 (in_c 1 rfl) rfl; have a6 := (in_c 1 rfl); unfold In at a6; have a7 := i17; unfold In at a7; have a8 := t_add e75 j17_2 (in_c 1 rfl) rfl; have a9 := tx_i2l e59; have a10 := i24; unfold In at a10; have a11 := t_add e24 h1 (in_c 1 rfl) rfl; have oc := oc_408_109; omega
            have n17a : WS (sL sc17 193 y17_2.toNatClampNeg z59) x1 z226 z75 := by first | exact hk2 _ _ (by have a0 := h1; unfold In at a0; have a1 := i26; unfold In at a1; have a2 := j17_2; unfold In at a2; have a3 := i50; unfold In at a3; have a4 := i226; unfold In at a4; have a5 := t_add e226 i26 (in_c 1 rfl) rfl; have a6 := (in_c 1 rfl); unfold In at a6; have a7 := i17; unfold In at a7; have a8 := t_add e75 j17_2 (in_c 1 rfl) rfl; have a9 := tx_i2l e59; have a10 := i24; unfold In at a10; have a11 := t_add e24 h1 (in_c 1 rfl) rfl; have oc := oc_408_109; omega) (by have a0 := h1; unfold In at a0; have a1 := i26; unfold In at a1; have a2 := j17_2; unfold In at a2; have a3 := i50; unfold In at a3; have a4 := i226; unfold In at a4; have a5 := t_add e226 i26 (in_c 1 rfl) rfl; have a6 := (in_c 1 rfl); unfold In at a6; have a7 := i17; unfold In at a7; have a8 := t_add e75 j17_2 (in_c 1 rfl) rfl; have a9 := tx_i2l e59; have a10 := i24; unfold In at a10; have a11 := t_add e24 h1 (in_c 1 rfl) rfl; have oc := oc_408_109; omega) | exact ws_0 rfl (by first | exact (by decide) | exact i15.1) (by unfold wa; first | (rw [if_pos c3]; rfl) | (rw [if_neg c3, e15]; rfl))
            have n17b : EVI (fun j => rcd (s.1 184 j).toInt (s.1 185 j).toInt) (fun j => (s.2.1 194 j).toInt) ((wa s x1 : Nat) : Int) (z226).toInt (z75).toInt ((sL sc17 193 y17_2.toNatClampNeg z59).2.1 193) := by have he : z25 = (s.1 186 ((x1).toInt + 1).toNat) := (e25.trans ((congrFun (hFc17.1 186 rfl) _).trans (congrArg (s.1 186) (show (z24).toInt.toNat = ((x1).toInt + 1).toNat from (by rw [show (z24).toInt = (x1).toInt + 1 from (by have a0 := h1; unfold In at a0; have a1 := i26; unfold In at a1; have a2 := j17_2; unfold In at a2; have a3 := i50; unfold In at a3; have a4 := i226; unfold In at a4; have a5 := t_add e226 i26 (in_c 1 rfl) rfl; have a6 := (in_c 1 rfl); unfold In at a6; have a7 := i17; unfold In at a7; have a8 := t_add e75 j17_2 (in_c 1 rfl) rfl; have a9 := tx_i2l e59; have a10 := i24; unfold In at a10; have a11 := t_add e24 h1 (in_c 1 rfl) rfl; have oc := oc_408_109; omega)]))))); have hle : ((s.1 186 ((x1).toInt + 1).toNat)).toInt ≤ (s.1 186 2).toInt := (by have h9 := q_2.2; by_cases hx : (x1).toInt = 0; (rw [hx]; exact Int.le_of_lt h9); (rw [show ((x1).toInt + 1).toNat = 2 from (by have a0 := h1; unfold In at a0; have a1 := i26; unfold In at a1; have a2 := j17_2; unfold In at a2; have a3 := i50; unfold In at a3; have a4 := i226; unfold In at a4; have a5 := t_add e226 i26 (in_c 1 rfl) rfl; have a6 := (in_c 1 rfl); unfold In at a6; have a7 := i17; unfold In at a7; have a8 := t_add e75 j17_2 (in_c 1 rfl) rfl; have a9 := tx_i2l e59; have a10 := i24; unfold In at a10; have a11 := t_add e24 h1 (in_c 1 rfl) rfl; have oc := oc_408_109; omega)]; exact Int.le_refl _)); have hw : s.1 184 (y17_3).toInt.toNat = z34 := (e34.trans (congrFun (hFc17.1 184 rfl) _)).symm; have ok := q_1 (y17_3).toInt.toNat (by have h8 := c26; have ei : (((y17_3).toInt.toNat : Nat) : Int) = (y17_3).toInt := clx (by have a0 := h1; unfold In at a0; have a1 := i26; unfold In at a1; have a2 := j17_2; unfold In at a2; have a3 := i50; unfold In at a3; have a4 := i226; unfold In at a4; have a5 := t_add e226 i26 (in_c 1 rfl) rfl; have a6 := (in_c 1 rfl); unfold In at a6; have a7 := i17; unfold In at a7; have a8 := t_add e75 j17_2 (in_c 1 rfl) rfl; have a9 := tx_i2l e59; have a10 := i24; unfold In at a10; have a11 := t_add e24 h1 (in_c 1 rfl) rfl; have oc := oc_408_109; omega); rw [he] at h8; omega); rw [hw] at ok; have ew := ok.1; have wl : wa s x1 ≤ (y17_3).toInt.toNat := (by have h7 := g17_0.2.2.1; unfold wa at h7 ⊢; rw [hFc17.1 186 rfl] at h7; exact h7); have hv : s.1 185 (y17_3).toInt.toNat = z58 := (e58.trans (congrFun (hFc17.1 185 rfl) _)).symm; have ov := ok.2 (by have a0 := h1; unfold In at a0; have a1 := i26; unfold In at a1; have a2 := j17_2; unfold In at a2; have a3 := i50; unfold In at a3; have a4 := i226; unfold In at a4; have a5 := t_add e226 i26 (in_c 1 rfl) rfl; have a6 := (in_c 1 rfl); unfold In at a6; have a7 := i17; unfold In at a7; have a8 := t_add e75 j17_2 (in_c 1 rfl) rfl; have a9 := tx_i2l e59; have a10 := i24; unfold In at a10; have a11 := t_add e24 h1 (in_c 1 rfl) rfl; have oc := oc_408_109; omega); rw [hv] at ov; rw [sL_v]; exact evi_n g17_1 (Int.natCast_nonneg _) (by have a0 := h1; unfold In at a0; have a1 := i26; unfold In at a1; have a2 := j17_2; unfold In at a2; have a3 := i50; unfold In at a3; have a4 := i226; unfold In at a4; have a5 := t_add e226 i26 (in_c 1 rfl) rfl; have a6 := (in_c 1 rfl); unfold In at a6; have a7 := i17; unfold In at a7; have a8 := t_add e75 j17_2 (in_c 1 rfl) rfl; have a9 := tx_i2l e59; have a10 := i24; unfold In at a10; have a11 := t_add e24 h1 (in_c 1 rfl) rfl; have oc := oc_408_109; omega) (by have a0 := h1; unfold In at a0; have a1 := i26; unfold In at a1; have a2 := j17_2; unfold In at a2; have a3 := i50; unfold In at a3; have a4 := i226; unfold In at a4; have a5 := t_add e226 i26 (in_c 1 rfl) rfl; have a6 := (in_c 1 rfl); unfold In at a6; have a7 := i17; unfold In at a7; have a8 := t_add e75 j17_2 (in_c 1 rfl) rfl; have a9 := tx_i2l e59; have a10 := i24; unfold In at a10; have a11 := t_add e24 h1 (in_c 1 rfl) rfl; have oc := oc_408_109; omega) (by have a0 := h1; unfold In at a0; have a1 := i26; unfold In at a1; have a2 := j17_2; unfold In at a2; have a3 := i50; unfold In at a3; have a4 := i226; unfold In at a4; have a5 := t_add e226 i26 (in_c 1 rfl) rfl; have a6 := (in_c 1 rfl); unfold In at a6; have a7 := i17; unfold In at a7; have a8 := t_add e75 j17_2 (in_c 1 rfl) rfl; have a9 := tx_i2l e59; have a10 := i24; unfold In at a10; have a11 := t_add e24 h1 (in_c 1 rfl) rfl; have oc := oc_408_109; omega) (by have a0 := h1; unfold In at a0; have a1 := i26; unfold In at a1; have a2 := j17_2; unfold In at a2; have a3 := i50; unfold In at a3; have a4 := i226; unfold In at a4; have a5 := t_add e226 i26 (in_c 1 rfl) rfl; have a6 := (in_c 1 rfl); unfold In at a6; have a7 := i17; unfold In at a7; have a8 := t_add e75 j17_2 (in_c 1 rfl) rfl; have a9 := tx_i2l e59; have a10 := i24; unfold In at a10; have a11 := t_add e24 h1 (in_c 1 rfl) rfl; have oc := oc_408_109; omega) (show ((y17_2).toNatClampNeg : Int) = (y17_2).toInt from clx (by have a0 := h1; unfold In at a0; have a1 := i26; unfold In at a1; have a2 := j17_2; unfold In at a2; have a3 := i50; unfold In at a3; have a4 := i226; unfold In at a4; have a5 := t_add e226 i26 (in_c 1 rfl) rfl; have a6 := (in_c 1 rfl); unfold In at a6; have a7 := i17; unfold In at a7; have a8 := t_add e75 j17_2 (in_c 1 rfl) rfl; have a9 := tx_i2l e59; have a10 := i24; unfold In at a10; have a11 := t_add e24 h1 (in_c 1 rfl) rfl; have oc := oc_408_109; omega)) (by show rcd (s.1 184 (y17_3).toInt.toNat).toInt (s.1 185 (y17_3).toInt.toNat).toInt = _; rw [hw, hv]; exact rcd_a (by have a0 := h1; unfold In at a0; have a1 := i26; unfold In at a1; have a2 := j17_2; unfold In at a2; have a3 := i50; unfold In at a3; have a4 := i226; unfold In at a4; have a5 := t_add e226 i26 (in_c 1 rfl) rfl; have a6 := (in_c 1 rfl); unfold In at a6; have a7 := i17; unfold In at a7; have a8 := t_add e75 j17_2 (in_c 1 rfl) rfl; have a9 := tx_i2l e59; have a10 := i24; unfold In at a10; have a11 := t_add e24 h1 (in_c 1 rfl) rfl; have oc := oc_408_109; omega)) (fun l => evs_n (by omega)) (tx_i2l e59) bd_i
            have n17c : (z226).toInt ≤ ((s.1 186 ((x1).toInt + 1).toNat)).toInt := by have he : z25 = (s.1 186 ((x1).toInt + 1).toNat) := (e25.trans ((congrFun (hFc17.1 186 rfl) _).trans (congrArg (s.1 186) (show (z24).toInt.toNat = ((x1).toInt + 1).toNat from (by rw [show (z24).toInt = (x1).toInt + 1 from (by have a0 := h1; unfold In at a0; have a1 := i26; unfold In at a1; have a2 := j17_2; unfold In at a2; have a3 := i50; unfold In at a3; have a4 := i226; unfold In at a4; have a5 := t_add e226 i26 (in_c 1 rfl) rfl; have a6 := (in_c 1 rfl); unfold In at a6; have a7 := i17; unfold In at a7; have a8 := t_add e75 j17_2 (in_c 1 rfl) rfl; have a9 := tx_i2l e59; have a10 := i24; unfold In at a10; have a11 := t_add e24 h1 (in_c 1 rfl) rfl; have oc := oc_408_109; omega)]))))); have h8 := c26; rw [he] at h8; have a0 := h1; unfold In at a0; have a1 := i26; unfold In at a1; have a2 := j17_2; unfold In at a2; have a3 := i50; unfold In at a3; have a4 := i226; unfold In at a4; have a5 := t_add e226 i26 (in_c 1 rfl) rfl; have a6 := (in_c 1 rfl); unfold In at a6; have a7 := i17; unfold In at a7; have a8 := t_add e75 j17_2 (in_c 1 rfl) rfl; have a9 := tx_i2l e59; have a10 := i24; unfold In at a10; have a11 := t_add e24 h1 (in_c 1 rfl) rfl; have oc := oc_408_109; omega
            exact gg_w (by omega) (gg_f (gf_cons rfl (gf_cons rfl (gf_cons rfl (gf_cons rfl gf_nil)))) (ih17 (sL sc17 193 y17_2.toNatClampNeg z59) z75 z226 hI74 (fr_sL rfl hFc17) i17 (in_w 0 120 i226 rfl) n17 n17a n17b n17c (m_up mm17 (t_add e226 i26 (in_c 1 rfl) rfl) (in_w 1 1 (in_c 1 rfl) rfl))))
  refine g_enter2 (k := 408) (N := 109801) (by omega) rfl (Nat.le_of_ble_eq_true rfl) ?_
  refine g_iconst 0 1 (gd rfl) rfl rfl ?_
  refine g_istore_n 2 (gd rfl) rfl (Nat.le_of_ble_eq_true rfl) ?_
  refine g_iload_n 3 (gd rfl) rfl rfl ?_
  refine g_if_ne 6 10 (gd rfl) rfl rfl (fun c3 => ?_) (fun c3 => ?_)
  · skip
    have i3 := z_ne 1 1 c3 h1 rfl
    refine g_aload_n 11 (gd rfl) rfl rfl ?_
    refine g_getA (q2 := 186) 14 (gd rfl) rfl rfl rfl rfl ?_
    refine g_iconst 1 15 (gd rfl) rfl rfl ?_
    refine g_iaload 16 (gd rfl) rfl (n := 3) rfl (in_ix (in_c 1 rfl) rfl) (fun z15 e15 => ?_)
    have i15 := inv_I hI (n := 3) (t := 0) 0 120 rfl (in_ix (in_c 1 rfl) rfl) rfl e15
    refine g_istore_n 17 (gd rfl) rfl (Nat.le_of_ble_eq_true rfl) ?_
    have n17 : ((Int32.ofInt 0)).toInt ≤ (z15).toInt := by have a0 := i3; unfold In at a0; have a1 := i15; unfold In at a1; have a2 := (in_c 0 rfl); unfold In at a2; have oc := oc_408_109; omega
    have n17a : WS s x1 z15 (Int32.ofInt 0) := by first | exact hk2 _ _ (by have a0 := i3; unfold In at a0; have a1 := i15; unfold In at a1; have a2 := (in_c 0 rfl); unfold In at a2; have oc := oc_408_109; omega) (by have a0 := i3; unfold In at a0; have a1 := i15; unfold In at a1; have a2 := (in_c 0 rfl); unfold In at a2; have oc := oc_408_109; omega) | exact ws_0 rfl (by first | exact (by decide) | exact i15.1) (by unfold wa; first | (rw [if_pos c3]; rfl) | (rw [if_neg c3, e15]; rfl))
    have n17b : EVI (fun j => rcd (s.1 184 j).toInt (s.1 185 j).toInt) (fun j => (s.2.1 194 j).toInt) ((wa s x1 : Nat) : Int) (z15).toInt ((Int32.ofInt 0)).toInt (s.2.1 193) := by have hwa : ((wa s x1 : Nat) : Int) = (z15).toInt := (by unfold wa; rw [if_neg c3, e15]; exact clx i15.1); rw [hwa]; exact evi_0 rfl
    have n17c : (z15).toInt ≤ ((s.1 186 ((x1).toInt + 1).toNat)).toInt := by have h9 := q_2.2; rw [show ((x1).toInt + 1).toNat = 2 from (by have a0 := i3; unfold In at a0; have a1 := i15; unfold In at a1; have a2 := (in_c 0 rfl); unfold In at a2; have oc := oc_408_109; omega)]; rw [show z15 = s.1 186 1 from e15]; omega
    exact gg_w (by omega) (gg_f (gf_cons rfl (gf_cons rfl (gf_cons rfl (gf_cons rfl gf_nil)))) (ct17 121 s (Int32.ofInt 0) z15 hI fr_rf (in_w 0 120 (in_c 0 rfl) rfl) (in_w 0 120 i15 rfl) n17 n17a n17b n17c (m_in 121 (in_w 0 120 i15 rfl) rfl)))
  · skip
    have i3 := z_eq 0 0 c3 h1 rfl
    refine g_iconst 0 7 (gd rfl) rfl rfl ?_
    refine g_goto 16 (gd rfl) rfl ?_
    refine g_istore_n 17 (gd rfl) rfl (Nat.le_of_ble_eq_true rfl) ?_
    have n17 : ((Int32.ofInt 0)).toInt ≤ ((Int32.ofInt 0)).toInt := by have a0 := i3; unfold In at a0; have a1 := (in_c 0 rfl); unfold In at a1; have oc := oc_408_109; omega
    have n17a : WS s x1 (Int32.ofInt 0) (Int32.ofInt 0) := by first | exact hk2 _ _ (by have a0 := i3; unfold In at a0; have a1 := (in_c 0 rfl); unfold In at a1; have oc := oc_408_109; omega) (by have a0 := i3; unfold In at a0; have a1 := (in_c 0 rfl); unfold In at a1; have oc := oc_408_109; omega) | exact ws_0 rfl (by first | exact (by decide) | exact i15.1) (by unfold wa; first | (rw [if_pos c3]; rfl) | (rw [if_neg c3, e15]; rfl))
    have n17b : EVI (fun j => rcd (s.1 184 j).toInt (s.1 185 j).toInt) (fun j => (s.2.1 194 j).toInt) ((wa s x1 : Nat) : Int) ((Int32.ofInt 0)).toInt ((Int32.ofInt 0)).toInt (s.2.1 193) := by have hwa : ((wa s x1 : Nat) : Int) = (Int32.ofInt 0).toInt := (by unfold wa; rw [if_pos c3]; rfl); rw [hwa]; exact evi_0 rfl
    have n17c : ((Int32.ofInt 0)).toInt ≤ ((s.1 186 ((x1).toInt + 1).toNat)).toInt := by have h9 := q_2.1; rw [show ((x1).toInt + 1).toNat = 1 from (by have a0 := i3; unfold In at a0; have a1 := (in_c 0 rfl); unfold In at a1; have oc := oc_408_109; omega)]; have a0 := i3; unfold In at a0; have a1 := (in_c 0 rfl); unfold In at a1; have oc := oc_408_109; omega
    exact gg_w (by omega) (gg_f (gf_cons rfl (gf_cons rfl (gf_cons rfl (gf_cons rfl gf_nil)))) (ct17 121 s (Int32.ofInt 0) (Int32.ofInt 0) hI fr_rf (in_w 0 120 (in_c 0 rfl) rfl) (in_w 0 120 (in_c 0 rfl) rfl) n17 n17a n17b n17c (m_in 121 (in_w 0 120 (in_c 0 rfl) rfl) rfl)))
/-! FUNCTIONAL CONTRACTS, by fgen.py -/
theorem oc_409_109 : (Int32.ofInt (-1)).toInt = (-1) ∧ (Int32.ofInt 0).toInt = 0 ∧ (Int32.ofInt 1).toInt = 1 ∧ (Int64.ofInt 0).toInt = 0 ∧ (Int64.ofInt 1).toInt = 1 ∧ (Int64.ofInt 4).toInt = 4 ∧ (Int64.ofInt 90).toInt = 90 ∧ (Int64.ofInt 200).toInt = 200 := ⟨rfl, rfl, rfl, rfl, rfl, rfl, rfl, rfl⟩
set_option maxHeartbeats 8000000 in
/-- GraphHouseModel.run -/
theorem f_409 {Z : AmZ} {A : Nat → Nat} {s : GS} {ex : va_W} {d : Nat} {X : AmX} {x1 : Int32} {x2 : Int32} {x3 : Int32} {x4 : Int64} (hd : 4 ≤ d) (hI : Inv s) (q_0 : POK s) (q_1 : RPC s) : GC Z d 409 [.ref (A 109), .int x1, .int x2, .int x3, .long x4] (WW Z A s ++ ex) 0 0 (fun v u => ∃ t : GS, Inv t ∧ Fr fm_409 s t ∧ ∃ z : Int32, v = some (.int z) ∧ u = WW Z A t ++ ex ∧ In z 0 200 ∧ (RUR s t (fun j => rcd (s.1 184 j).toInt (s.1 185 j).toInt) 113 x1 x2 x3 z)) X := by
  intro post xp hP hX
  obtain ⟨u_109_20, e_109_20⟩ : ∃ w, w = s.2.2.1 109 20 := ⟨_, rfl⟩
  have ro_109_20 := inv_F hI 0 32 rfl e_109_20
  have ct179 : ∀ (k179 : Nat) (sc179 : GS) (y179_6 : Int32) (y179_7 : Int32), Inv sc179 → Fr fm_409 s sc179 → (In x1 0 200) → (In x2 1 4) → (In x3 0 90) → (In y179_6 0 200) → (In y179_7 0 1) → ((y179_6).toInt ≤ (x1).toInt) → (RWI (gvZ s) (fun j => rcd (s.1 184 j).toInt (s.1 185 j).toInt) (s.1 186 1).toInt.toNat (s.1 186 2).toInt.toNat (y179_6).toInt (y179_7).toInt ((sc179).2.1 191)) → (((sc179).2.2.1 109 0).toInt = 0) → ((sc179).2.2.1 109 113 = s.2.2.1 109 20) → 200 - (y179_6).toInt < (k179 : Int) → GG Z (d - 1) 409 post (gx xp) (1 + k179 * 63902) 179 (fun j => xlook j [(0, .ref (A 109)), (1, .int x1), (2, .int x2), (3, .int x3), (4, .long x4), (6, .int y179_6), (7, .int y179_7)]) [] (WW Z A sc179 ++ ex) 0 0 := by
    intro k179
    induction k179 with
    | zero => intro sc179 y179_6 y179_7 hIc179 hFc179 j179_1 j179_2 j179_3 j179_6 j179_7 n179_0 g179_0 g179_1 g179_2 mm179; exfalso; have a0 := j179_3; unfold In at a0; have a1 := j179_2; unfold In at a1; have a2 := j179_1; unfold In at a2; have a3 := ro_109_20; unfold In at a3; have a4 := j179_7; unfold In at a4; have a5 := j179_6; unfold In at a5; have oc := oc_409_109; omega
    | succ k179 ih179 =>
      intro sc179 y179_6 y179_7 hIc179 hFc179 j179_1 j179_2 j179_3 j179_6 j179_7 n179_0 g179_0 g179_1 g179_2 mm179
      refine gg_w (M := 1 + k179 * 63902 + 63902) (by omega) ?_
      have ct275 : ∀ (k275 : Nat) (sc275 : GS) (y275_6 : Int32) (y275_7 : Int32) (y275_8 : Int32), Inv sc275 → Fr fm_409 s sc275 → (In x1 1 200) → (In y275_6 1 200) → (In y275_7 0 1) → (In y275_8 0 32) → ((y275_6).toInt = y179_6.toInt + 1) → ((y275_8).toInt ≤ (u_109_20).toInt) → (ALR ((sc275).2.1 192) (gvZ s).2.2.2.2.2.2.1 (STA (gvZ s) (fun j => rcd (s.1 184 j).toInt (s.1 185 j).toInt) (s.1 186 1).toInt.toNat (s.1 186 2).toInt.toNat ((y179_6).toInt.toNat + 1))) → (ALR ((sc275).2.1 191) (y275_8).toInt (STA (gvZ s) (fun j => rcd (s.1 184 j).toInt (s.1 185 j).toInt) (s.1 186 1).toInt.toNat (s.1 186 2).toInt.toNat ((y179_6).toInt.toNat + 1))) → (((y275_7).toInt ≠ 0 ↔ CHG (gvZ s) (fun j => rcd (s.1 184 j).toInt (s.1 185 j).toInt) (s.1 186 1).toInt.toNat (s.1 186 2).toInt.toNat (y179_6).toInt.toNat)) → (∀ q : Nat, q < (y179_6).toInt.toNat → CHG (gvZ s) (fun j => rcd (s.1 184 j).toInt (s.1 185 j).toInt) (s.1 186 1).toInt.toNat (s.1 186 2).toInt.toNat q) → (((sc275).2.2.1 109 0).toInt = 0) → ((sc275).2.2.1 109 113 = s.2.2.1 109 20) → 32 - (y275_8).toInt < (k275 : Int) → GG Z (d - 1) 409 post (gx xp) (1 + k179 * 63902 + 1 + k275 * 900) 275 (fun j => xlook j [(0, .ref (A 109)), (1, .int x1), (2, .int x2), (3, .int x3), (4, .long x4), (6, .int y275_6), (7, .int y275_7), (8, .int y275_8)]) [] (WW Z A sc275 ++ ex) 0 0 := by
        intro k275
        induction k275 with
        | zero => intro sc275 y275_6 y275_7 y275_8 hIc275 hFc275 j275_1 j275_6 j275_7 j275_8 n275_0 n275_1 g275_0 g275_1 g275_2 g275_3 g275_4 g275_5 mm275; exact m_no mm275 j275_8 rfl
        | succ k275 ih275 =>
          intro sc275 y275_6 y275_7 y275_8 hIc275 hFc275 j275_1 j275_6 j275_7 j275_8 n275_0 n275_1 g275_0 g275_1 g275_2 g275_3 g275_4 g275_5 mm275
          refine gg_w (M := 1 + k179 * 63902 + 1 + k275 * 900 + 900) (by omega) ?_
          refine g_iload 277 (gd rfl) rfl rfl ?_
          refine g_aload_n 278 (gd rfl) rfl rfl ?_
          refine g_getI 281 (gd rfl) rfl rfl rfl (fun z278 e278 => ?_)
          have q278 : u_109_20 = z278 := (fr_F e_109_20 hFc275 rfl).trans e278.symm
          subst q278
          refine g_cmp_ge 284 304 (gd rfl) rfl rfl (fun c281 => ?_) (fun c281 => ?_)
          · skip
            refine g_goto 179 (gd rfl) rfl ?_
            have n179 : (y275_6).toInt ≤ (x1).toInt := by have a0 := j179_3; unfold In at a0; have a1 := j179_2; unfold In at a1; have a2 := j275_1; unfold In at a2; have a3 := ro_109_20; unfold In at a3; have a4 := j275_8; unfold In at a4; have a5 := j275_7; unfold In at a5; have a6 := j275_6; unfold In at a6; have oc := oc_409_109; omega
            have n179a : RWI (gvZ s) (fun j => rcd (s.1 184 j).toInt (s.1 185 j).toInt) (s.1 186 1).toInt.toNat (s.1 186 2).toInt.toNat (y275_6).toInt (y275_7).toInt ((sc275).2.1 191) := by exact rwi_n (k := (y179_6).toInt.toNat) (by rw [show (gvZ s).2.2.2.2.2.2.1 = (y275_8).toInt from (by rw [gvz_n hI, ← e_109_20]; have a0 := j179_3; unfold In at a0; have a1 := j179_2; unfold In at a1; have a2 := j275_1; unfold In at a2; have a3 := ro_109_20; unfold In at a3; have a4 := j275_8; unfold In at a4; have a5 := j275_7; unfold In at a5; have a6 := j275_6; unfold In at a6; have oc := oc_409_109; omega)]; exact g275_1) g275_3 g275_2 (by have a0 := j179_3; unfold In at a0; have a1 := j179_2; unfold In at a1; have a2 := j275_1; unfold In at a2; have a3 := ro_109_20; unfold In at a3; have a4 := j275_8; unfold In at a4; have a5 := j275_7; unfold In at a5; have a6 := j275_6; unfold In at a6; have oc := oc_409_109; omega)
            have n179b : ((sc275).2.2.1 109 0).toInt = 0 := by exact g275_4
            have n179c : (sc275).2.2.1 109 113 = s.2.2.1 109 20 := by exact g275_5
            have m179 : 200 - (y275_6).toInt < ((k179 : Nat) : Int) := by have a0 := j179_3; unfold In at a0; have a1 := j179_2; unfold In at a1; have a2 := j275_1; unfold In at a2; have a3 := ro_109_20; unfold In at a3; have a4 := j275_8; unfold In at a4; have a5 := j275_7; unfold In at a5; have a6 := j275_6; unfold In at a6; have oc := oc_409_109; omega
            exact gg_w (by omega) (gg_f (gf_cons rfl (gf_cons rfl (gf_cons rfl (gf_cons rfl (gf_cons rfl (gf_cons rfl (gf_cons rfl gf_nil))))))) (ih179  sc275 y275_6 y275_7 hIc275 hFc275 (in_w 0 200 j275_1 rfl) (in_w 1 4 j179_2 rfl) (in_w 0 90 j179_3 rfl) (in_w 0 200 j275_6 rfl) (in_w 0 1 j275_7 rfl) n179 n179a n179b n179c m179))
          · skip
            have i281 := r_lt1 0 31 c281 j275_8 ro_109_20 rfl
            have i281a := r_lt2 1 32 c281 j275_8 ro_109_20 rfl
            refine g_aload_n 285 (gd rfl) rfl rfl ?_
            refine g_getA (q2 := 191) 288 (gd rfl) rfl rfl rfl rfl ?_
            refine g_iload 290 (gd rfl) rfl rfl ?_
            refine g_aload_n 291 (gd rfl) rfl rfl ?_
            refine g_getA (q2 := 192) 294 (gd rfl) rfl rfl rfl rfl ?_
            refine g_iload 296 (gd rfl) rfl rfl ?_
            refine g_laload 297 (gd rfl) rfl (n := 32) rfl (in_ix i281 rfl) (fun z296 e296 => ?_)
            refine g_lastore 298 (gd rfl) rfl (n := 32) rfl (in_ix i281 rfl) ?_
            have hI297 := inv_sL (q := 191) (j := y275_8.toNatClampNeg) (x := z296) hIc275 rfl (l_rng z296)
            refine g_iinc 301 (gd rfl) rfl rfl (Nat.le_of_ble_eq_true rfl) (fun z298 e298 => ?_)
            have i298 := in_add 1 32 e298 i281 (in_c 1 rfl) rfl rfl
            refine g_goto 275 (gd rfl) rfl ?_
            have n275 : (y275_6).toInt = y179_6.toInt + 1 := by have a0 := j179_3; unfold In at a0; have a1 := j179_2; unfold In at a1; have a2 := j275_1; unfold In at a2; have a3 := i281a; unfold In at a3; have a4 := i281; unfold In at a4; have a5 := j275_7; unfold In at a5; have a6 := j275_6; unfold In at a6; have a7 := i298; unfold In at a7; have a8 := t_add e298 i281 (in_c 1 rfl) rfl; have a9 := (in_c 1 rfl); unfold In at a9; have oc := oc_409_109; omega
            have n275a : (z298).toInt ≤ (u_109_20).toInt := by have a0 := j179_3; unfold In at a0; have a1 := j179_2; unfold In at a1; have a2 := j275_1; unfold In at a2; have a3 := i281a; unfold In at a3; have a4 := i281; unfold In at a4; have a5 := j275_7; unfold In at a5; have a6 := j275_6; unfold In at a6; have a7 := i298; unfold In at a7; have a8 := t_add e298 i281 (in_c 1 rfl) rfl; have a9 := (in_c 1 rfl); unfold In at a9; have oc := oc_409_109; omega
            have n275b : ALR (((sL sc275 191 y275_8.toNatClampNeg z296)).2.1 192) (gvZ s).2.2.2.2.2.2.1 (STA (gvZ s) (fun j => rcd (s.1 184 j).toInt (s.1 185 j).toInt) (s.1 186 1).toInt.toNat (s.1 186 2).toInt.toNat ((y179_6).toInt.toNat + 1)) := by rw [show (sL sc275 191 (y275_8).toNatClampNeg z296).2.1 192 = sc275.2.1 192 from sL_o rfl]; exact g275_0
            have n275c : ALR (((sL sc275 191 y275_8.toNatClampNeg z296)).2.1 191) (z298).toInt (STA (gvZ s) (fun j => rcd (s.1 184 j).toInt (s.1 185 j).toInt) (s.1 186 1).toInt.toNat (s.1 186 2).toInt.toNat ((y179_6).toInt.toNat + 1)) := by rw [sL_v]; exact alr_s g275_1 (show ((y275_8).toNatClampNeg : Int) = (y275_8).toInt from clx (by have a0 := j179_3; unfold In at a0; have a1 := j179_2; unfold In at a1; have a2 := j275_1; unfold In at a2; have a3 := i281a; unfold In at a3; have a4 := i281; unfold In at a4; have a5 := j275_7; unfold In at a5; have a6 := j275_6; unfold In at a6; have a7 := i298; unfold In at a7; have a8 := t_add e298 i281 (in_c 1 rfl) rfl; have a9 := (in_c 1 rfl); unfold In at a9; have oc := oc_409_109; omega)) ((congrArg Int64.toInt e296).trans (g275_0 _ (show (((y275_8).toNatClampNeg : Nat) : Int) < (gvZ s).2.2.2.2.2.2.1 from (by rw [(show ((y275_8).toNatClampNeg : Int) = (y275_8).toInt from clx (by have a0 := j179_3; unfold In at a0; have a1 := j179_2; unfold In at a1; have a2 := j275_1; unfold In at a2; have a3 := i281a; unfold In at a3; have a4 := i281; unfold In at a4; have a5 := j275_7; unfold In at a5; have a6 := j275_6; unfold In at a6; have a7 := i298; unfold In at a7; have a8 := t_add e298 i281 (in_c 1 rfl) rfl; have a9 := (in_c 1 rfl); unfold In at a9; have oc := oc_409_109; omega)), gvz_n hI, ← e_109_20]; have a0 := j179_3; unfold In at a0; have a1 := j179_2; unfold In at a1; have a2 := j275_1; unfold In at a2; have a3 := i281a; unfold In at a3; have a4 := i281; unfold In at a4; have a5 := j275_7; unfold In at a5; have a6 := j275_6; unfold In at a6; have a7 := i298; unfold In at a7; have a8 := t_add e298 i281 (in_c 1 rfl) rfl; have a9 := (in_c 1 rfl); unfold In at a9; have oc := oc_409_109; omega)))) (by have a0 := j179_3; unfold In at a0; have a1 := j179_2; unfold In at a1; have a2 := j275_1; unfold In at a2; have a3 := i281a; unfold In at a3; have a4 := i281; unfold In at a4; have a5 := j275_7; unfold In at a5; have a6 := j275_6; unfold In at a6; have a7 := i298; unfold In at a7; have a8 := t_add e298 i281 (in_c 1 rfl) rfl; have a9 := (in_c 1 rfl); unfold In at a9; have oc := oc_409_109; omega)
            have n275d : ((y275_7).toInt ≠ 0 ↔ CHG (gvZ s) (fun j => rcd (s.1 184 j).toInt (s.1 185 j).toInt) (s.1 186 1).toInt.toNat (s.1 186 2).toInt.toNat (y179_6).toInt.toNat) := by exact g275_2
            have n275e : ∀ q : Nat, q < (y179_6).toInt.toNat → CHG (gvZ s) (fun j => rcd (s.1 184 j).toInt (s.1 185 j).toInt) (s.1 186 1).toInt.toNat (s.1 186 2).toInt.toNat q := by exact g275_3
            have n275f : (((sL sc275 191 y275_8.toNatClampNeg z296)).2.2.1 109 0).toInt = 0 := by exact g275_4
            have n275g : ((sL sc275 191 y275_8.toNatClampNeg z296)).2.2.1 109 113 = s.2.2.1 109 20 := by exact g275_5
            exact gg_w (by omega) (gg_f (gf_cons rfl (gf_cons rfl (gf_cons rfl (gf_cons rfl (gf_cons rfl (gf_cons rfl (gf_cons rfl (gf_cons rfl gf_nil)))))))) (ih275 (sL sc275 191 y275_8.toNatClampNeg z296) y275_6 y275_7 z298 hI297 (fr_sL rfl hFc275) (in_w 1 200 j275_1 rfl) (in_w 1 200 j275_6 rfl) (in_w 0 1 j275_7 rfl) (in_w 0 32 i298 rfl) n275 n275a n275b n275c n275d n275e n275f n275g (m_up mm275 (t_add e298 i281 (in_c 1 rfl) rfl) (in_w 1 1 (in_c 1 rfl) rfl))))
      have ct207 : ∀ (k207 : Nat) (sc207 : GS) (y207_6 : Int32) (y207_7 : Int32) (y207_8 : Int32), Inv sc207 → Fr fm_409 s sc207 → (In x1 1 200) → (In y207_6 1 200) → (In y207_7 0 1) → (In y207_8 0 32) → ((y207_6).toInt = y179_6.toInt + 1) → ((y207_8).toInt ≤ (u_109_20).toInt) → (ALR ((sc207).2.1 191) (gvZ s).2.2.2.2.2.2.1 (STA (gvZ s) (fun j => rcd (s.1 184 j).toInt (s.1 185 j).toInt) (s.1 186 1).toInt.toNat (s.1 186 2).toInt.toNat (y179_6).toInt.toNat)) → (DRI (STA (gvZ s) (fun j => rcd (s.1 184 j).toInt (s.1 185 j).toInt) (s.1 186 1).toInt.toNat (s.1 186 2).toInt.toNat ((y179_6).toInt.toNat + 1)) (STA (gvZ s) (fun j => rcd (s.1 184 j).toInt (s.1 185 j).toInt) (s.1 186 1).toInt.toNat (s.1 186 2).toInt.toNat (y179_6).toInt.toNat) (y207_8).toInt (y207_7).toInt ((sc207).2.1 192)) → (∀ q : Nat, q < (y179_6).toInt.toNat → CHG (gvZ s) (fun j => rcd (s.1 184 j).toInt (s.1 185 j).toInt) (s.1 186 1).toInt.toNat (s.1 186 2).toInt.toNat q) → (((sc207).2.2.1 109 0).toInt = 0) → ((sc207).2.2.1 109 113 = s.2.2.1 109 20) → 32 - (y207_8).toInt < (k207 : Int) → GG Z (d - 1) 409 post (gx xp) (1 + k179 * 63902 + 29702 + k207 * 900) 207 (fun j => xlook j [(0, .ref (A 109)), (1, .int x1), (2, .int x2), (3, .int x3), (4, .long x4), (6, .int y207_6), (7, .int y207_7), (8, .int y207_8)]) [] (WW Z A sc207 ++ ex) 0 0 := by
        intro k207
        induction k207 with
        | zero => intro sc207 y207_6 y207_7 y207_8 hIc207 hFc207 j207_1 j207_6 j207_7 j207_8 n207_0 n207_1 g207_0 g207_1 g207_2 g207_3 g207_4 mm207; exact m_no mm207 j207_8 rfl
        | succ k207 ih207 =>
          intro sc207 y207_6 y207_7 y207_8 hIc207 hFc207 j207_1 j207_6 j207_7 j207_8 n207_0 n207_1 g207_0 g207_1 g207_2 g207_3 g207_4 mm207
          refine gg_w (M := 1 + k179 * 63902 + 29702 + k207 * 900 + 900) (by omega) ?_
          refine g_iload 209 (gd rfl) rfl rfl ?_
          refine g_aload_n 210 (gd rfl) rfl rfl ?_
          refine g_getI 213 (gd rfl) rfl rfl rfl (fun z210 e210 => ?_)
          have q210 : u_109_20 = z210 := (fr_F e_109_20 hFc207 rfl).trans e210.symm
          subst q210
          refine g_cmp_ge 216 272 (gd rfl) rfl rfl (fun c213 => ?_) (fun c213 => ?_)
          · skip
            refine g_iconst 0 273 (gd rfl) rfl rfl ?_
            refine g_istore 275 (gd rfl) rfl (Nat.le_of_ble_eq_true rfl) ?_
            have n275 : (y207_6).toInt = y179_6.toInt + 1 := by have a0 := j179_3; unfold In at a0; have a1 := j179_2; unfold In at a1; have a2 := j207_1; unfold In at a2; have a3 := ro_109_20; unfold In at a3; have a4 := j207_8; unfold In at a4; have a5 := j207_7; unfold In at a5; have a6 := j207_6; unfold In at a6; have a7 := (in_c 0 rfl); unfold In at a7; have oc := oc_409_109; omega
            have n275a : ((Int32.ofInt 0)).toInt ≤ (u_109_20).toInt := by have a0 := j179_3; unfold In at a0; have a1 := j179_2; unfold In at a1; have a2 := j207_1; unfold In at a2; have a3 := ro_109_20; unfold In at a3; have a4 := j207_8; unfold In at a4; have a5 := j207_7; unfold In at a5; have a6 := j207_6; unfold In at a6; have a7 := (in_c 0 rfl); unfold In at a7; have oc := oc_409_109; omega
            have n275b : ALR ((sc207).2.1 192) (gvZ s).2.2.2.2.2.2.1 (STA (gvZ s) (fun j => rcd (s.1 184 j).toInt (s.1 185 j).toInt) (s.1 186 1).toInt.toNat (s.1 186 2).toInt.toNat ((y179_6).toInt.toNat + 1)) := by rw [show (gvZ s).2.2.2.2.2.2.1 = (y207_8).toInt from (by rw [gvz_n hI, ← e_109_20]; have a0 := j179_3; unfold In at a0; have a1 := j179_2; unfold In at a1; have a2 := j207_1; unfold In at a2; have a3 := ro_109_20; unfold In at a3; have a4 := j207_8; unfold In at a4; have a5 := j207_7; unfold In at a5; have a6 := j207_6; unfold In at a6; have a7 := (in_c 0 rfl); unfold In at a7; have oc := oc_409_109; omega)]; exact g207_1.1
            have n275c : ALR ((sc207).2.1 191) ((Int32.ofInt 0)).toInt (STA (gvZ s) (fun j => rcd (s.1 184 j).toInt (s.1 185 j).toInt) (s.1 186 1).toInt.toNat (s.1 186 2).toInt.toNat ((y179_6).toInt.toNat + 1)) := by exact alr_0 rfl
            have n275d : ((y207_7).toInt ≠ 0 ↔ CHG (gvZ s) (fun j => rcd (s.1 184 j).toInt (s.1 185 j).toInt) (s.1 186 1).toInt.toNat (s.1 186 2).toInt.toNat (y179_6).toInt.toNat) := by unfold CHG; rw [show (gvZ s).2.2.2.2.2.2.1 = (y207_8).toInt from (by rw [gvz_n hI, ← e_109_20]; have a0 := j179_3; unfold In at a0; have a1 := j179_2; unfold In at a1; have a2 := j207_1; unfold In at a2; have a3 := ro_109_20; unfold In at a3; have a4 := j207_8; unfold In at a4; have a5 := j207_7; unfold In at a5; have a6 := j207_6; unfold In at a6; have a7 := (in_c 0 rfl); unfold In at a7; have oc := oc_409_109; omega)]; exact g207_1.2
            have n275e : ∀ q : Nat, q < (y179_6).toInt.toNat → CHG (gvZ s) (fun j => rcd (s.1 184 j).toInt (s.1 185 j).toInt) (s.1 186 1).toInt.toNat (s.1 186 2).toInt.toNat q := by exact g207_2
            have n275f : ((sc207).2.2.1 109 0).toInt = 0 := by exact g207_3
            have n275g : (sc207).2.2.1 109 113 = s.2.2.1 109 20 := by exact g207_4
            exact gg_w (by omega) (gg_f (gf_cons rfl (gf_cons rfl (gf_cons rfl (gf_cons rfl (gf_cons rfl (gf_cons rfl (gf_cons rfl (gf_cons rfl gf_nil)))))))) (ct275 33 sc207 y207_6 y207_7 (Int32.ofInt 0) hIc207 hFc207 (in_w 1 200 j207_1 rfl) (in_w 1 200 j207_6 rfl) (in_w 0 1 j207_7 rfl) (in_w 0 32 (in_c 0 rfl) rfl) n275 n275a n275b n275c n275d n275e n275f n275g (m_in 33 (in_w 0 32 (in_c 0 rfl) rfl) rfl)))
          · skip
            have i213 := r_lt1 0 31 c213 j207_8 ro_109_20 rfl
            have i213a := r_lt2 1 32 c213 j207_8 ro_109_20 rfl
            refine g_aload_n 217 (gd rfl) rfl rfl ?_
            refine g_iload 219 (gd rfl) rfl rfl ?_
            refine g_iload 221 (gd rfl) rfl rfl ?_
            have p221 : XBD (sc207.2.2.1 109 20).toInt (fun u => (sc207.2.1 191 u).toInt) := by intro u hu; rw [hFc207.2.2.1 109 20 rfl, ← gvz_n hI] at hu; show BD (sc207.2.1 191 u).toInt; rw [g207_0 u hu]; exact (sta_b (C := (fun j => rcd (s.1 184 j).toInt (s.1 185 j).toInt)) rcb (show (gvZ s).2.2.2.2.2.2.1 ≤ 32 from (by rw [gvz_n hI, ← e_109_20]; have a0 := j179_3; unfold In at a0; have a1 := j179_2; unfold In at a1; have a2 := j207_1; unfold In at a2; have a3 := i213a; unfold In at a3; have a4 := i213; unfold In at a4; have a5 := j207_7; unfold In at a5; have a6 := j207_6; unfold In at a6; have oc := oc_409_109; omega)) (y179_6).toInt.toNat (by have a0 := j179_3; unfold In at a0; have a1 := j179_2; unfold In at a1; have a2 := j207_1; unfold In at a2; have a3 := i213a; unfold In at a3; have a4 := i213; unfold In at a4; have a5 := j207_7; unfold In at a5; have a6 := j207_6; unfold In at a6; have oc := oc_409_109; omega)) u hu
            refine g_callv (X := _) (As := [.int y207_8, .int y207_6]) (r := []) (b := A 109) (q := 109) 224 (gd rfl) rfl rfl rfl rfl rfl (ww_o rfl) (Nat.le_of_ble_eq_true rfl) (Nat.zero_le _) (Nat.zero_le _) (f_407 (by omega) hIc207 (in_w 0 31 i213 rfl) (in_w 0 200 j207_6 rfl) p221) (fun e u h => h) (fun v u h => ?_)
            obtain ⟨s221, hI221, hF221, rfl, rfl, p221a⟩ := h
            show GG _ _ _ _ _ _ _ _ [] _ _ _
            refine g_aload_n 225 (gd rfl) rfl rfl ?_
            refine g_getA (q2 := 192) 228 (gd rfl) rfl rfl rfl rfl ?_
            refine g_iload 230 (gd rfl) rfl rfl ?_
            refine g_aload_n 231 (gd rfl) rfl rfl ?_
            refine g_iconst 1 232 (gd rfl) rfl rfl ?_
            have p232 : VBD (s221.2.1 194) := by have hV := p221a; rw [gvz_cg hFc207 rfl] at hV; exact vlr_b hV (by show BD (sc207.2.1 191 (y207_8).toNatClampNeg).toInt; rw [g207_0 _ (show (((y207_8).toNatClampNeg : Nat) : Int) < (gvZ s).2.2.2.2.2.2.1 from (by rw [(show ((y207_8).toNatClampNeg : Int) = (y207_8).toInt from clx (by have a0 := j179_3; unfold In at a0; have a1 := j179_2; unfold In at a1; have a2 := j207_1; unfold In at a2; have a3 := i213a; unfold In at a3; have a4 := i213; unfold In at a4; have a5 := j207_7; unfold In at a5; have a6 := j207_6; unfold In at a6; have oc := oc_409_109; omega)), gvz_n hI, ← e_109_20]; have a0 := j179_3; unfold In at a0; have a1 := j179_2; unfold In at a1; have a2 := j207_1; unfold In at a2; have a3 := i213a; unfold In at a3; have a4 := i213; unfold In at a4; have a5 := j207_7; unfold In at a5; have a6 := j207_6; unfold In at a6; have oc := oc_409_109; omega))]; exact (sta_b (C := (fun j => rcd (s.1 184 j).toInt (s.1 185 j).toInt)) rcb (show (gvZ s).2.2.2.2.2.2.1 ≤ 32 from (by rw [gvz_n hI, ← e_109_20]; have a0 := j179_3; unfold In at a0; have a1 := j179_2; unfold In at a1; have a2 := j207_1; unfold In at a2; have a3 := i213a; unfold In at a3; have a4 := i213; unfold In at a4; have a5 := j207_7; unfold In at a5; have a6 := j207_6; unfold In at a6; have oc := oc_409_109; omega)) (y179_6).toInt.toNat (by have a0 := j179_3; unfold In at a0; have a1 := j179_2; unfold In at a1; have a2 := j207_1; unfold In at a2; have a3 := i213a; unfold In at a3; have a4 := i213; unfold In at a4; have a5 := j207_7; unfold In at a5; have a6 := j207_6; unfold In at a6; have oc := oc_409_109; omega)) _ (show (((y207_8).toNatClampNeg : Nat) : Int) < (gvZ s).2.2.2.2.2.2.1 from (by rw [(show ((y207_8).toNatClampNeg : Int) = (y207_8).toInt from clx (by have a0 := j179_3; unfold In at a0; have a1 := j179_2; unfold In at a1; have a2 := j207_1; unfold In at a2; have a3 := i213a; unfold In at a3; have a4 := i213; unfold In at a4; have a5 := j207_7; unfold In at a5; have a6 := j207_6; unfold In at a6; have oc := oc_409_109; omega)), gvz_n hI, ← e_109_20]; have a0 := j179_3; unfold In at a0; have a1 := j179_2; unfold In at a1; have a2 := j207_1; unfold In at a2; have a3 := i213a; unfold In at a3; have a4 := i213; unfold In at a4; have a5 := j207_7; unfold In at a5; have a6 := j207_6; unfold In at a6; have oc := oc_409_109; omega))) (by show (y207_8).toInt.toNat < 32; have a0 := j179_3; unfold In at a0; have a1 := j179_2; unfold In at a1; have a2 := j207_1; unfold In at a2; have a3 := i213a; unfold In at a3; have a4 := i213; unfold In at a4; have a5 := j207_7; unfold In at a5; have a6 := j207_6; unfold In at a6; have oc := oc_409_109; omega) bd_i
            have p232a : POK s221 := by exact pok_fr (pok_fr q_0 hFc207 rfl) hF221 rfl
            have p232b : RPC s221 := by exact rpc_fr (rpc_fr q_1 hFc207 rfl) hF221 rfl
            refine g_callv (X := _) (As := [.int (Int32.ofInt 1)]) (r := [.int y207_8, .ref (A 192)]) (b := A 109) (q := 109) 235 (gd rfl) rfl rfl rfl rfl rfl (ww_o rfl) (Nat.le_of_ble_eq_true rfl) (Nat.zero_le _) (Nat.zero_le _) (f_408 (by omega) hI221 (in_w 0 1 (in_c 1 rfl) rfl) p232 p232a p232b) (fun e u h => h) (fun v u h => ?_)
            obtain ⟨s232, hI232, hF232, z232, rfl, rfl, p232c⟩ := h
            show GG _ _ _ _ _ _ _ _ [.long z232, .int y207_8, .ref (A 192)] _ _ _
            refine g_lastore 236 (gd rfl) rfl (n := 32) rfl (in_ix i213 rfl) ?_
            have hI235 := inv_sL (q := 192) (j := y207_8.toNatClampNeg) (x := z232) hI232 rfl (l_rng z232)
            refine g_iload 238 (gd rfl) rfl rfl ?_
            refine g_if_ne 241 259 (gd rfl) rfl rfl (fun c238 => ?_) (fun c238 => ?_)
            · skip
              have i238 := z_ne 1 1 c238 j207_7 rfl
              refine g_iconst 1 260 (gd rfl) rfl rfl ?_
              refine g_goto 264 (gd rfl) rfl ?_
              refine g_istore 266 (gd rfl) rfl (Nat.le_of_ble_eq_true rfl) ?_
              refine g_iinc 269 (gd rfl) rfl rfl (Nat.le_of_ble_eq_true rfl) (fun z266 e266 => ?_)
              have i266 := in_add 1 32 e266 i213 (in_c 1 rfl) rfl rfl
              refine g_goto 207 (gd rfl) rfl ?_
              have n207 : (y207_6).toInt = y179_6.toInt + 1 := by have a0 := j179_3; unfold In at a0; have a1 := j179_2; unfold In at a1; have a2 := j207_1; unfold In at a2; have a3 := i213a; unfold In at a3; have a4 := i213; unfold In at a4; have a5 := i238; unfold In at a5; have a6 := j207_6; unfold In at a6; have a7 := i266; unfold In at a7; have a8 := t_add e266 i213 (in_c 1 rfl) rfl; have a9 := (in_c 1 rfl); unfold In at a9; have oc := oc_409_109; omega
              have n207a : (z266).toInt ≤ (u_109_20).toInt := by have a0 := j179_3; unfold In at a0; have a1 := j179_2; unfold In at a1; have a2 := j207_1; unfold In at a2; have a3 := i213a; unfold In at a3; have a4 := i213; unfold In at a4; have a5 := i238; unfold In at a5; have a6 := j207_6; unfold In at a6; have a7 := i266; unfold In at a7; have a8 := t_add e266 i213 (in_c 1 rfl) rfl; have a9 := (in_c 1 rfl); unfold In at a9; have oc := oc_409_109; omega
              have n207b : ALR (((sL s232 192 y207_8.toNatClampNeg z232)).2.1 191) (gvZ s).2.2.2.2.2.2.1 (STA (gvZ s) (fun j => rcd (s.1 184 j).toInt (s.1 185 j).toInt) (s.1 186 1).toInt.toNat (s.1 186 2).toInt.toNat (y179_6).toInt.toNat) := by rw [show (sL s232 192 (y207_8).toNatClampNeg z232).2.1 191 = sc207.2.1 191 from (sL_o rfl).trans ((hF232.2.1 191 rfl).trans (hF221.2.1 191 rfl))]; exact g207_0
              have n207c : DRI (STA (gvZ s) (fun j => rcd (s.1 184 j).toInt (s.1 185 j).toInt) (s.1 186 1).toInt.toNat (s.1 186 2).toInt.toNat ((y179_6).toInt.toNat + 1)) (STA (gvZ s) (fun j => rcd (s.1 184 j).toInt (s.1 185 j).toInt) (s.1 186 1).toInt.toNat (s.1 186 2).toInt.toNat (y179_6).toInt.toNat) (z266).toInt ((Int32.ofInt 1)).toInt (((sL s232 192 y207_8.toNatClampNeg z232)).2.1 192) := by have hV := p221a; rw [gvz_cg hFc207 rfl] at hV; have h9 := p232c; rw [show wa s221 (Int32.ofInt 1) = (s221.1 186 1).toNatClampNeg from if_neg (by decide), ((hF221.1 184 rfl).trans (hFc207.1 184 rfl)), ((hF221.1 185 rfl).trans (hFc207.1 185 rfl)), ((hF221.1 186 rfl).trans (hFc207.1 186 rfl))] at h9; have hz9 : (z232).toInt = (STA (gvZ s) (fun j => rcd (s.1 184 j).toInt (s.1 185 j).toInt) (s.1 186 1).toInt.toNat (s.1 186 2).toInt.toNat ((y179_6).toInt.toNat + 1)) (y207_8).toNatClampNeg := (by rw [← (show (y207_6).toInt.toNat = ((y179_6).toInt.toNat + 1) from (by have a0 := j179_3; unfold In at a0; have a1 := j179_2; unfold In at a1; have a2 := j207_1; unfold In at a2; have a3 := i213a; unfold In at a3; have a4 := i213; unfold In at a4; have a5 := i238; unfold In at a5; have a6 := j207_6; unfold In at a6; have a7 := i266; unfold In at a7; have a8 := t_add e266 i213 (in_c 1 rfl) rfl; have a9 := (in_c 1 rfl); unfold In at a9; have oc := oc_409_109; omega))]; exact rz_1 hV (by have a0 := j179_3; unfold In at a0; have a1 := j179_2; unfold In at a1; have a2 := j207_1; unfold In at a2; have a3 := i213a; unfold In at a3; have a4 := i213; unfold In at a4; have a5 := i238; unfold In at a5; have a6 := j207_6; unfold In at a6; have a7 := i266; unfold In at a7; have a8 := t_add e266 i213 (in_c 1 rfl) rfl; have a9 := (in_c 1 rfl); unfold In at a9; have oc := oc_409_109; omega) (ndq_z hI) (show (((y207_8).toNatClampNeg : Nat) : Int) < (gvZ s).2.2.2.2.2.2.1 from (by rw [(show ((y207_8).toNatClampNeg : Int) = (y207_8).toInt from clx (by have a0 := j179_3; unfold In at a0; have a1 := j179_2; unfold In at a1; have a2 := j207_1; unfold In at a2; have a3 := i213a; unfold In at a3; have a4 := i213; unfold In at a4; have a5 := i238; unfold In at a5; have a6 := j207_6; unfold In at a6; have a7 := i266; unfold In at a7; have a8 := t_add e266 i213 (in_c 1 rfl) rfl; have a9 := (in_c 1 rfl); unfold In at a9; have oc := oc_409_109; omega)), gvz_n hI, ← e_109_20]; have a0 := j179_3; unfold In at a0; have a1 := j179_2; unfold In at a1; have a2 := j207_1; unfold In at a2; have a3 := i213a; unfold In at a3; have a4 := i213; unfold In at a4; have a5 := i238; unfold In at a5; have a6 := j207_6; unfold In at a6; have a7 := i266; unfold In at a7; have a8 := t_add e266 i213 (in_c 1 rfl) rfl; have a9 := (in_c 1 rfl); unfold In at a9; have oc := oc_409_109; omega)) (fun u hu => by rw [(show ((y207_6).toInt - 1).toNat = (y179_6).toInt.toNat from (by have a0 := j179_3; unfold In at a0; have a1 := j179_2; unfold In at a1; have a2 := j207_1; unfold In at a2; have a3 := i213a; unfold In at a3; have a4 := i213; unfold In at a4; have a5 := i238; unfold In at a5; have a6 := j207_6; unfold In at a6; have a7 := i266; unfold In at a7; have a8 := t_add e266 i213 (in_c 1 rfl) rfl; have a9 := (in_c 1 rfl); unfold In at a9; have oc := oc_409_109; omega))]; exact g207_0 u hu) (fun j hj => cdo_r (q_0 j (by have h9 := q_1.2; omega))) h9); rw [sL_v, show s232.2.1 192 = sc207.2.1 192 from ((hF232.2.1 192 rfl).trans (hF221.2.1 192 rfl))]; exact dri_s g207_1 (show ((y207_8).toNatClampNeg : Int) = (y207_8).toInt from clx (by have a0 := j179_3; unfold In at a0; have a1 := j179_2; unfold In at a1; have a2 := j207_1; unfold In at a2; have a3 := i213a; unfold In at a3; have a4 := i213; unfold In at a4; have a5 := i238; unfold In at a5; have a6 := j207_6; unfold In at a6; have a7 := i266; unfold In at a7; have a8 := t_add e266 i213 (in_c 1 rfl) rfl; have a9 := (in_c 1 rfl); unfold In at a9; have oc := oc_409_109; omega)) hz9 (by have a0 := j179_3; unfold In at a0; have a1 := j179_2; unfold In at a1; have a2 := j207_1; unfold In at a2; have a3 := i213a; unfold In at a3; have a4 := i213; unfold In at a4; have a5 := i238; unfold In at a5; have a6 := j207_6; unfold In at a6; have a7 := i266; unfold In at a7; have a8 := t_add e266 i213 (in_c 1 rfl) rfl; have a9 := (in_c 1 rfl); unfold In at a9; have oc := oc_409_109; omega) ⟨fun _ => Or.inl (by have a0 := j179_3; unfold In at a0; have a1 := j179_2; unfold In at a1; have a2 := j207_1; unfold In at a2; have a3 := i213a; unfold In at a3; have a4 := i213; unfold In at a4; have a5 := i238; unfold In at a5; have a6 := j207_6; unfold In at a6; have a7 := i266; unfold In at a7; have a8 := t_add e266 i213 (in_c 1 rfl) rfl; have a9 := (in_c 1 rfl); unfold In at a9; have oc := oc_409_109; omega), fun _ => by decide⟩
              have n207d : ∀ q : Nat, q < (y179_6).toInt.toNat → CHG (gvZ s) (fun j => rcd (s.1 184 j).toInt (s.1 185 j).toInt) (s.1 186 1).toInt.toNat (s.1 186 2).toInt.toNat q := by exact g207_2
              have n207e : (((sL s232 192 y207_8.toNatClampNeg z232)).2.2.1 109 0).toInt = 0 := by show (s232.2.2.1 109 0).toInt = 0; rw [((hF232.2.2.1 109 0 rfl).trans (hF221.2.2.1 109 0 rfl))]; exact g207_3
              have n207f : ((sL s232 192 y207_8.toNatClampNeg z232)).2.2.1 109 113 = s.2.2.1 109 20 := by exact ((hF232.2.2.1 109 113 rfl).trans (hF221.2.2.1 109 113 rfl)).trans g207_4
              exact gg_w (by omega) (gg_f (gf_cons rfl (gf_cons rfl (gf_cons rfl (gf_cons rfl (gf_cons rfl (gf_cons rfl (gf_cons rfl (gf_cons rfl gf_nil)))))))) (ih207 (sL s232 192 y207_8.toNatClampNeg z232) y207_6 (Int32.ofInt 1) z266 hI235 (fr_sL rfl (fr_tr rfl (fr_tr rfl hFc207 hF221) hF232)) (in_w 1 200 j207_1 rfl) (in_w 1 200 j207_6 rfl) (in_w 0 1 (in_c 1 rfl) rfl) (in_w 0 32 i266 rfl) n207 n207a n207b n207c n207d n207e n207f (m_up mm207 (t_add e266 i213 (in_c 1 rfl) rfl) (in_w 1 1 (in_c 1 rfl) rfl))))
            · skip
              have i238 := z_eq 0 0 c238 j207_7 rfl
              refine g_aload_n 242 (gd rfl) rfl rfl ?_
              refine g_getA (q2 := 192) 245 (gd rfl) rfl rfl rfl rfl ?_
              refine g_iload 247 (gd rfl) rfl rfl ?_
              refine g_laload 248 (gd rfl) rfl (n := 32) rfl (in_ix i213 rfl) (fun z247 e247 => ?_)
              refine g_aload_n 249 (gd rfl) rfl rfl ?_
              refine g_getA (q2 := 191) 252 (gd rfl) rfl rfl rfl rfl ?_
              refine g_iload 254 (gd rfl) rfl rfl ?_
              refine g_laload 255 (gd rfl) rfl (n := 32) rfl (in_ix i213 rfl) (fun z254 e254 => ?_)
              refine g_lcmp 256 (gd rfl) rfl (fun z255 e255 => ?_)
              have i255 := lc_in e255
              refine g_if_eq 259 263 (gd rfl) rfl rfl (fun c256 => ?_) (fun c256 => ?_)
              · skip
                have i256 := z_eq 0 0 c256 i255 rfl
                have c256a := lc_eq e255 c256
                refine g_iconst 0 264 (gd rfl) rfl rfl ?_
                refine g_istore 266 (gd rfl) rfl (Nat.le_of_ble_eq_true rfl) ?_
                refine g_iinc 269 (gd rfl) rfl rfl (Nat.le_of_ble_eq_true rfl) (fun z266 e266 => ?_)
                have i266 := in_add 1 32 e266 i213 (in_c 1 rfl) rfl rfl
                refine g_goto 207 (gd rfl) rfl ?_
                have n207 : (y207_6).toInt = y179_6.toInt + 1 := by have a0 := j179_3; unfold In at a0; have a1 := j179_2; unfold In at a1; have a2 := j207_1; unfold In at a2; have a3 := i213a; unfold In at a3; have a4 := i213; unfold In at a4; have a5 := i238; unfold In at a5; have a6 := j207_6; unfold In at a6; have a7 := i266; unfold In at a7; have a8 := t_add e266 i213 (in_c 1 rfl) rfl; have a9 := (in_c 1 rfl); unfold In at a9; have a10 := (in_c 0 rfl); unfold In at a10; have oc := oc_409_109; omega
                have n207a : (z266).toInt ≤ (u_109_20).toInt := by have a0 := j179_3; unfold In at a0; have a1 := j179_2; unfold In at a1; have a2 := j207_1; unfold In at a2; have a3 := i213a; unfold In at a3; have a4 := i213; unfold In at a4; have a5 := i238; unfold In at a5; have a6 := j207_6; unfold In at a6; have a7 := i266; unfold In at a7; have a8 := t_add e266 i213 (in_c 1 rfl) rfl; have a9 := (in_c 1 rfl); unfold In at a9; have a10 := (in_c 0 rfl); unfold In at a10; have oc := oc_409_109; omega
                have n207b : ALR (((sL s232 192 y207_8.toNatClampNeg z232)).2.1 191) (gvZ s).2.2.2.2.2.2.1 (STA (gvZ s) (fun j => rcd (s.1 184 j).toInt (s.1 185 j).toInt) (s.1 186 1).toInt.toNat (s.1 186 2).toInt.toNat (y179_6).toInt.toNat) := by rw [show (sL s232 192 (y207_8).toNatClampNeg z232).2.1 191 = sc207.2.1 191 from (sL_o rfl).trans ((hF232.2.1 191 rfl).trans (hF221.2.1 191 rfl))]; exact g207_0
                have n207c : DRI (STA (gvZ s) (fun j => rcd (s.1 184 j).toInt (s.1 185 j).toInt) (s.1 186 1).toInt.toNat (s.1 186 2).toInt.toNat ((y179_6).toInt.toNat + 1)) (STA (gvZ s) (fun j => rcd (s.1 184 j).toInt (s.1 185 j).toInt) (s.1 186 1).toInt.toNat (s.1 186 2).toInt.toNat (y179_6).toInt.toNat) (z266).toInt ((Int32.ofInt 0)).toInt (((sL s232 192 y207_8.toNatClampNeg z232)).2.1 192) := by have hV := p221a; rw [gvz_cg hFc207 rfl] at hV; have h9 := p232c; rw [show wa s221 (Int32.ofInt 1) = (s221.1 186 1).toNatClampNeg from if_neg (by decide), ((hF221.1 184 rfl).trans (hFc207.1 184 rfl)), ((hF221.1 185 rfl).trans (hFc207.1 185 rfl)), ((hF221.1 186 rfl).trans (hFc207.1 186 rfl))] at h9; have hz9 : (z232).toInt = (STA (gvZ s) (fun j => rcd (s.1 184 j).toInt (s.1 185 j).toInt) (s.1 186 1).toInt.toNat (s.1 186 2).toInt.toNat ((y179_6).toInt.toNat + 1)) (y207_8).toNatClampNeg := (by rw [← (show (y207_6).toInt.toNat = ((y179_6).toInt.toNat + 1) from (by have a0 := j179_3; unfold In at a0; have a1 := j179_2; unfold In at a1; have a2 := j207_1; unfold In at a2; have a3 := i213a; unfold In at a3; have a4 := i213; unfold In at a4; have a5 := i238; unfold In at a5; have a6 := j207_6; unfold In at a6; have a7 := i266; unfold In at a7; have a8 := t_add e266 i213 (in_c 1 rfl) rfl; have a9 := (in_c 1 rfl); unfold In at a9; have a10 := (in_c 0 rfl); unfold In at a10; have oc := oc_409_109; omega))]; exact rz_1 hV (by have a0 := j179_3; unfold In at a0; have a1 := j179_2; unfold In at a1; have a2 := j207_1; unfold In at a2; have a3 := i213a; unfold In at a3; have a4 := i213; unfold In at a4; have a5 := i238; unfold In at a5; have a6 := j207_6; unfold In at a6; have a7 := i266; unfold In at a7; have a8 := t_add e266 i213 (in_c 1 rfl) rfl; have a9 := (in_c 1 rfl); unfold In at a9; have a10 := (in_c 0 rfl); unfold In at a10; have oc := oc_409_109; omega) (ndq_z hI) (show (((y207_8).toNatClampNeg : Nat) : Int) < (gvZ s).2.2.2.2.2.2.1 from (by rw [(show ((y207_8).toNatClampNeg : Int) = (y207_8).toInt from clx (by have a0 := j179_3; unfold In at a0; have a1 := j179_2; unfold In at a1; have a2 := j207_1; unfold In at a2; have a3 := i213a; unfold In at a3; have a4 := i213; unfold In at a4; have a5 := i238; unfold In at a5; have a6 := j207_6; unfold In at a6; have a7 := i266; unfold In at a7; have a8 := t_add e266 i213 (in_c 1 rfl) rfl; have a9 := (in_c 1 rfl); unfold In at a9; have a10 := (in_c 0 rfl); unfold In at a10; have oc := oc_409_109; omega)), gvz_n hI, ← e_109_20]; have a0 := j179_3; unfold In at a0; have a1 := j179_2; unfold In at a1; have a2 := j207_1; unfold In at a2; have a3 := i213a; unfold In at a3; have a4 := i213; unfold In at a4; have a5 := i238; unfold In at a5; have a6 := j207_6; unfold In at a6; have a7 := i266; unfold In at a7; have a8 := t_add e266 i213 (in_c 1 rfl) rfl; have a9 := (in_c 1 rfl); unfold In at a9; have a10 := (in_c 0 rfl); unfold In at a10; have oc := oc_409_109; omega)) (fun u hu => by rw [(show ((y207_6).toInt - 1).toNat = (y179_6).toInt.toNat from (by have a0 := j179_3; unfold In at a0; have a1 := j179_2; unfold In at a1; have a2 := j207_1; unfold In at a2; have a3 := i213a; unfold In at a3; have a4 := i213; unfold In at a4; have a5 := i238; unfold In at a5; have a6 := j207_6; unfold In at a6; have a7 := i266; unfold In at a7; have a8 := t_add e266 i213 (in_c 1 rfl) rfl; have a9 := (in_c 1 rfl); unfold In at a9; have a10 := (in_c 0 rfl); unfold In at a10; have oc := oc_409_109; omega))]; exact g207_0 u hu) (fun j hj => cdo_r (q_0 j (by have h9 := q_1.2; omega))) h9); have t247 : (z247).toInt = (STA (gvZ s) (fun j => rcd (s.1 184 j).toInt (s.1 185 j).toInt) (s.1 186 1).toInt.toNat (s.1 186 2).toInt.toNat ((y179_6).toInt.toNat + 1)) (y207_8).toNatClampNeg := (congrArg Int64.toInt (e247.trans (by rw [sL_v]; exact vu_at))).trans hz9; have t254 : (z254).toInt = (STA (gvZ s) (fun j => rcd (s.1 184 j).toInt (s.1 185 j).toInt) (s.1 186 1).toInt.toNat (s.1 186 2).toInt.toNat (y179_6).toInt.toNat) (y207_8).toNatClampNeg := (congrArg Int64.toInt (e254.trans (congrFun ((sL_o rfl).trans ((hF232.2.1 191 rfl).trans (hF221.2.1 191 rfl))) _))).trans (g207_0 _ (show (((y207_8).toNatClampNeg : Nat) : Int) < (gvZ s).2.2.2.2.2.2.1 from (by rw [(show ((y207_8).toNatClampNeg : Int) = (y207_8).toInt from clx (by have a0 := j179_3; unfold In at a0; have a1 := j179_2; unfold In at a1; have a2 := j207_1; unfold In at a2; have a3 := i213a; unfold In at a3; have a4 := i213; unfold In at a4; have a5 := i238; unfold In at a5; have a6 := j207_6; unfold In at a6; have a7 := i266; unfold In at a7; have a8 := t_add e266 i213 (in_c 1 rfl) rfl; have a9 := (in_c 1 rfl); unfold In at a9; have a10 := (in_c 0 rfl); unfold In at a10; have oc := oc_409_109; omega)), gvz_n hI, ← e_109_20]; have a0 := j179_3; unfold In at a0; have a1 := j179_2; unfold In at a1; have a2 := j207_1; unfold In at a2; have a3 := i213a; unfold In at a3; have a4 := i213; unfold In at a4; have a5 := i238; unfold In at a5; have a6 := j207_6; unfold In at a6; have a7 := i266; unfold In at a7; have a8 := t_add e266 i213 (in_c 1 rfl) rfl; have a9 := (in_c 1 rfl); unfold In at a9; have a10 := (in_c 0 rfl); unfold In at a10; have oc := oc_409_109; omega))); rw [sL_v, show s232.2.1 192 = sc207.2.1 192 from ((hF232.2.1 192 rfl).trans (hF221.2.1 192 rfl))]; exact dri_s g207_1 (show ((y207_8).toNatClampNeg : Int) = (y207_8).toInt from clx (by have a0 := j179_3; unfold In at a0; have a1 := j179_2; unfold In at a1; have a2 := j207_1; unfold In at a2; have a3 := i213a; unfold In at a3; have a4 := i213; unfold In at a4; have a5 := i238; unfold In at a5; have a6 := j207_6; unfold In at a6; have a7 := i266; unfold In at a7; have a8 := t_add e266 i213 (in_c 1 rfl) rfl; have a9 := (in_c 1 rfl); unfold In at a9; have a10 := (in_c 0 rfl); unfold In at a10; have oc := oc_409_109; omega)) hz9 (by have a0 := j179_3; unfold In at a0; have a1 := j179_2; unfold In at a1; have a2 := j207_1; unfold In at a2; have a3 := i213a; unfold In at a3; have a4 := i213; unfold In at a4; have a5 := i238; unfold In at a5; have a6 := j207_6; unfold In at a6; have a7 := i266; unfold In at a7; have a8 := t_add e266 i213 (in_c 1 rfl) rfl; have a9 := (in_c 1 rfl); unfold In at a9; have a10 := (in_c 0 rfl); unfold In at a10; have oc := oc_409_109; omega) (by first | exact ⟨fun h => absurd rfl h, fun h => h.elim (fun k => absurd (by have a0 := j179_3; unfold In at a0; have a1 := j179_2; unfold In at a1; have a2 := j207_1; unfold In at a2; have a3 := i213a; unfold In at a3; have a4 := i213; unfold In at a4; have a5 := i238; unfold In at a5; have a6 := j207_6; unfold In at a6; have a7 := i266; unfold In at a7; have a8 := t_add e266 i213 (in_c 1 rfl) rfl; have a9 := (in_c 1 rfl); unfold In at a9; have a10 := (in_c 0 rfl); unfold In at a10; have oc := oc_409_109; omega) k) (fun k => absurd (t247.symm.trans (c256a.trans t254)) k)⟩ | exact ⟨fun _ => Or.inr (fun k => c256a (t247.trans (k.trans t254.symm))), fun _ => by decide⟩)
                have n207d : ∀ q : Nat, q < (y179_6).toInt.toNat → CHG (gvZ s) (fun j => rcd (s.1 184 j).toInt (s.1 185 j).toInt) (s.1 186 1).toInt.toNat (s.1 186 2).toInt.toNat q := by exact g207_2
                have n207e : (((sL s232 192 y207_8.toNatClampNeg z232)).2.2.1 109 0).toInt = 0 := by show (s232.2.2.1 109 0).toInt = 0; rw [((hF232.2.2.1 109 0 rfl).trans (hF221.2.2.1 109 0 rfl))]; exact g207_3
                have n207f : ((sL s232 192 y207_8.toNatClampNeg z232)).2.2.1 109 113 = s.2.2.1 109 20 := by exact ((hF232.2.2.1 109 113 rfl).trans (hF221.2.2.1 109 113 rfl)).trans g207_4
                exact gg_w (by omega) (gg_f (gf_cons rfl (gf_cons rfl (gf_cons rfl (gf_cons rfl (gf_cons rfl (gf_cons rfl (gf_cons rfl (gf_cons rfl gf_nil)))))))) (ih207 (sL s232 192 y207_8.toNatClampNeg z232) y207_6 (Int32.ofInt 0) z266 hI235 (fr_sL rfl (fr_tr rfl (fr_tr rfl hFc207 hF221) hF232)) (in_w 1 200 j207_1 rfl) (in_w 1 200 j207_6 rfl) (in_w 0 1 (in_c 0 rfl) rfl) (in_w 0 32 i266 rfl) n207 n207a n207b n207c n207d n207e n207f (m_up mm207 (t_add e266 i213 (in_c 1 rfl) rfl) (in_w 1 1 (in_c 1 rfl) rfl))))
              · skip
                have c256a := lc_ne e255 c256
                refine g_iconst 1 260 (gd rfl) rfl rfl ?_
                refine g_goto 264 (gd rfl) rfl ?_
                refine g_istore 266 (gd rfl) rfl (Nat.le_of_ble_eq_true rfl) ?_
                refine g_iinc 269 (gd rfl) rfl rfl (Nat.le_of_ble_eq_true rfl) (fun z266 e266 => ?_)
                have i266 := in_add 1 32 e266 i213 (in_c 1 rfl) rfl rfl
                refine g_goto 207 (gd rfl) rfl ?_
                have n207 : (y207_6).toInt = y179_6.toInt + 1 := by have a0 := j179_3; unfold In at a0; have a1 := j179_2; unfold In at a1; have a2 := j207_1; unfold In at a2; have a3 := i213a; unfold In at a3; have a4 := i213; unfold In at a4; have a5 := i238; unfold In at a5; have a6 := j207_6; unfold In at a6; have a7 := i266; unfold In at a7; have a8 := t_add e266 i213 (in_c 1 rfl) rfl; have a9 := (in_c 1 rfl); unfold In at a9; have oc := oc_409_109; omega
                have n207a : (z266).toInt ≤ (u_109_20).toInt := by have a0 := j179_3; unfold In at a0; have a1 := j179_2; unfold In at a1; have a2 := j207_1; unfold In at a2; have a3 := i213a; unfold In at a3; have a4 := i213; unfold In at a4; have a5 := i238; unfold In at a5; have a6 := j207_6; unfold In at a6; have a7 := i266; unfold In at a7; have a8 := t_add e266 i213 (in_c 1 rfl) rfl; have a9 := (in_c 1 rfl); unfold In at a9; have oc := oc_409_109; omega
                have n207b : ALR (((sL s232 192 y207_8.toNatClampNeg z232)).2.1 191) (gvZ s).2.2.2.2.2.2.1 (STA (gvZ s) (fun j => rcd (s.1 184 j).toInt (s.1 185 j).toInt) (s.1 186 1).toInt.toNat (s.1 186 2).toInt.toNat (y179_6).toInt.toNat) := by rw [show (sL s232 192 (y207_8).toNatClampNeg z232).2.1 191 = sc207.2.1 191 from (sL_o rfl).trans ((hF232.2.1 191 rfl).trans (hF221.2.1 191 rfl))]; exact g207_0
                have n207c : DRI (STA (gvZ s) (fun j => rcd (s.1 184 j).toInt (s.1 185 j).toInt) (s.1 186 1).toInt.toNat (s.1 186 2).toInt.toNat ((y179_6).toInt.toNat + 1)) (STA (gvZ s) (fun j => rcd (s.1 184 j).toInt (s.1 185 j).toInt) (s.1 186 1).toInt.toNat (s.1 186 2).toInt.toNat (y179_6).toInt.toNat) (z266).toInt ((Int32.ofInt 1)).toInt (((sL s232 192 y207_8.toNatClampNeg z232)).2.1 192) := by have hV := p221a; rw [gvz_cg hFc207 rfl] at hV; have h9 := p232c; rw [show wa s221 (Int32.ofInt 1) = (s221.1 186 1).toNatClampNeg from if_neg (by decide), ((hF221.1 184 rfl).trans (hFc207.1 184 rfl)), ((hF221.1 185 rfl).trans (hFc207.1 185 rfl)), ((hF221.1 186 rfl).trans (hFc207.1 186 rfl))] at h9; have hz9 : (z232).toInt = (STA (gvZ s) (fun j => rcd (s.1 184 j).toInt (s.1 185 j).toInt) (s.1 186 1).toInt.toNat (s.1 186 2).toInt.toNat ((y179_6).toInt.toNat + 1)) (y207_8).toNatClampNeg := (by rw [← (show (y207_6).toInt.toNat = ((y179_6).toInt.toNat + 1) from (by have a0 := j179_3; unfold In at a0; have a1 := j179_2; unfold In at a1; have a2 := j207_1; unfold In at a2; have a3 := i213a; unfold In at a3; have a4 := i213; unfold In at a4; have a5 := i238; unfold In at a5; have a6 := j207_6; unfold In at a6; have a7 := i266; unfold In at a7; have a8 := t_add e266 i213 (in_c 1 rfl) rfl; have a9 := (in_c 1 rfl); unfold In at a9; have oc := oc_409_109; omega))]; exact rz_1 hV (by have a0 := j179_3; unfold In at a0; have a1 := j179_2; unfold In at a1; have a2 := j207_1; unfold In at a2; have a3 := i213a; unfold In at a3; have a4 := i213; unfold In at a4; have a5 := i238; unfold In at a5; have a6 := j207_6; unfold In at a6; have a7 := i266; unfold In at a7; have a8 := t_add e266 i213 (in_c 1 rfl) rfl; have a9 := (in_c 1 rfl); unfold In at a9; have oc := oc_409_109; omega) (ndq_z hI) (show (((y207_8).toNatClampNeg : Nat) : Int) < (gvZ s).2.2.2.2.2.2.1 from (by rw [(show ((y207_8).toNatClampNeg : Int) = (y207_8).toInt from clx (by have a0 := j179_3; unfold In at a0; have a1 := j179_2; unfold In at a1; have a2 := j207_1; unfold In at a2; have a3 := i213a; unfold In at a3; have a4 := i213; unfold In at a4; have a5 := i238; unfold In at a5; have a6 := j207_6; unfold In at a6; have a7 := i266; unfold In at a7; have a8 := t_add e266 i213 (in_c 1 rfl) rfl; have a9 := (in_c 1 rfl); unfold In at a9; have oc := oc_409_109; omega)), gvz_n hI, ← e_109_20]; have a0 := j179_3; unfold In at a0; have a1 := j179_2; unfold In at a1; have a2 := j207_1; unfold In at a2; have a3 := i213a; unfold In at a3; have a4 := i213; unfold In at a4; have a5 := i238; unfold In at a5; have a6 := j207_6; unfold In at a6; have a7 := i266; unfold In at a7; have a8 := t_add e266 i213 (in_c 1 rfl) rfl; have a9 := (in_c 1 rfl); unfold In at a9; have oc := oc_409_109; omega)) (fun u hu => by rw [(show ((y207_6).toInt - 1).toNat = (y179_6).toInt.toNat from (by have a0 := j179_3; unfold In at a0; have a1 := j179_2; unfold In at a1; have a2 := j207_1; unfold In at a2; have a3 := i213a; unfold In at a3; have a4 := i213; unfold In at a4; have a5 := i238; unfold In at a5; have a6 := j207_6; unfold In at a6; have a7 := i266; unfold In at a7; have a8 := t_add e266 i213 (in_c 1 rfl) rfl; have a9 := (in_c 1 rfl); unfold In at a9; have oc := oc_409_109; omega))]; exact g207_0 u hu) (fun j hj => cdo_r (q_0 j (by have h9 := q_1.2; omega))) h9); have t247 : (z247).toInt = (STA (gvZ s) (fun j => rcd (s.1 184 j).toInt (s.1 185 j).toInt) (s.1 186 1).toInt.toNat (s.1 186 2).toInt.toNat ((y179_6).toInt.toNat + 1)) (y207_8).toNatClampNeg := (congrArg Int64.toInt (e247.trans (by rw [sL_v]; exact vu_at))).trans hz9; have t254 : (z254).toInt = (STA (gvZ s) (fun j => rcd (s.1 184 j).toInt (s.1 185 j).toInt) (s.1 186 1).toInt.toNat (s.1 186 2).toInt.toNat (y179_6).toInt.toNat) (y207_8).toNatClampNeg := (congrArg Int64.toInt (e254.trans (congrFun ((sL_o rfl).trans ((hF232.2.1 191 rfl).trans (hF221.2.1 191 rfl))) _))).trans (g207_0 _ (show (((y207_8).toNatClampNeg : Nat) : Int) < (gvZ s).2.2.2.2.2.2.1 from (by rw [(show ((y207_8).toNatClampNeg : Int) = (y207_8).toInt from clx (by have a0 := j179_3; unfold In at a0; have a1 := j179_2; unfold In at a1; have a2 := j207_1; unfold In at a2; have a3 := i213a; unfold In at a3; have a4 := i213; unfold In at a4; have a5 := i238; unfold In at a5; have a6 := j207_6; unfold In at a6; have a7 := i266; unfold In at a7; have a8 := t_add e266 i213 (in_c 1 rfl) rfl; have a9 := (in_c 1 rfl); unfold In at a9; have oc := oc_409_109; omega)), gvz_n hI, ← e_109_20]; have a0 := j179_3; unfold In at a0; have a1 := j179_2; unfold In at a1; have a2 := j207_1; unfold In at a2; have a3 := i213a; unfold In at a3; have a4 := i213; unfold In at a4; have a5 := i238; unfold In at a5; have a6 := j207_6; unfold In at a6; have a7 := i266; unfold In at a7; have a8 := t_add e266 i213 (in_c 1 rfl) rfl; have a9 := (in_c 1 rfl); unfold In at a9; have oc := oc_409_109; omega))); rw [sL_v, show s232.2.1 192 = sc207.2.1 192 from ((hF232.2.1 192 rfl).trans (hF221.2.1 192 rfl))]; exact dri_s g207_1 (show ((y207_8).toNatClampNeg : Int) = (y207_8).toInt from clx (by have a0 := j179_3; unfold In at a0; have a1 := j179_2; unfold In at a1; have a2 := j207_1; unfold In at a2; have a3 := i213a; unfold In at a3; have a4 := i213; unfold In at a4; have a5 := i238; unfold In at a5; have a6 := j207_6; unfold In at a6; have a7 := i266; unfold In at a7; have a8 := t_add e266 i213 (in_c 1 rfl) rfl; have a9 := (in_c 1 rfl); unfold In at a9; have oc := oc_409_109; omega)) hz9 (by have a0 := j179_3; unfold In at a0; have a1 := j179_2; unfold In at a1; have a2 := j207_1; unfold In at a2; have a3 := i213a; unfold In at a3; have a4 := i213; unfold In at a4; have a5 := i238; unfold In at a5; have a6 := j207_6; unfold In at a6; have a7 := i266; unfold In at a7; have a8 := t_add e266 i213 (in_c 1 rfl) rfl; have a9 := (in_c 1 rfl); unfold In at a9; have oc := oc_409_109; omega) (by first | exact ⟨fun h => absurd rfl h, fun h => h.elim (fun k => absurd (by have a0 := j179_3; unfold In at a0; have a1 := j179_2; unfold In at a1; have a2 := j207_1; unfold In at a2; have a3 := i213a; unfold In at a3; have a4 := i213; unfold In at a4; have a5 := i238; unfold In at a5; have a6 := j207_6; unfold In at a6; have a7 := i266; unfold In at a7; have a8 := t_add e266 i213 (in_c 1 rfl) rfl; have a9 := (in_c 1 rfl); unfold In at a9; have oc := oc_409_109; omega) k) (fun k => absurd (t247.symm.trans (c256a.trans t254)) k)⟩ | exact ⟨fun _ => Or.inr (fun k => c256a (t247.trans (k.trans t254.symm))), fun _ => by decide⟩)
                have n207d : ∀ q : Nat, q < (y179_6).toInt.toNat → CHG (gvZ s) (fun j => rcd (s.1 184 j).toInt (s.1 185 j).toInt) (s.1 186 1).toInt.toNat (s.1 186 2).toInt.toNat q := by exact g207_2
                have n207e : (((sL s232 192 y207_8.toNatClampNeg z232)).2.2.1 109 0).toInt = 0 := by show (s232.2.2.1 109 0).toInt = 0; rw [((hF232.2.2.1 109 0 rfl).trans (hF221.2.2.1 109 0 rfl))]; exact g207_3
                have n207f : ((sL s232 192 y207_8.toNatClampNeg z232)).2.2.1 109 113 = s.2.2.1 109 20 := by exact ((hF232.2.2.1 109 113 rfl).trans (hF221.2.2.1 109 113 rfl)).trans g207_4
                exact gg_w (by omega) (gg_f (gf_cons rfl (gf_cons rfl (gf_cons rfl (gf_cons rfl (gf_cons rfl (gf_cons rfl (gf_cons rfl (gf_cons rfl gf_nil)))))))) (ih207 (sL s232 192 y207_8.toNatClampNeg z232) y207_6 (Int32.ofInt 1) z266 hI235 (fr_sL rfl (fr_tr rfl (fr_tr rfl hFc207 hF221) hF232)) (in_w 1 200 j207_1 rfl) (in_w 1 200 j207_6 rfl) (in_w 0 1 (in_c 1 rfl) rfl) (in_w 0 32 i266 rfl) n207 n207a n207b n207c n207d n207e n207f (m_up mm207 (t_add e266 i213 (in_c 1 rfl) rfl) (in_w 1 1 (in_c 1 rfl) rfl))))
      refine g_iload 181 (gd rfl) rfl rfl ?_
      refine g_if_eq 184 307 (gd rfl) rfl rfl (fun c181 => ?_) (fun c181 => ?_)
      · skip
        have i181 := z_eq 0 0 c181 j179_7 rfl
        refine g_iload 309 (gd rfl) rfl rfl ?_
        have n309 : RUR s sc179 (fun j => rcd (s.1 184 j).toInt (s.1 185 j).toInt) 113 x1 x2 x3 y179_6 := by exact Or.inr ⟨g179_1, ⟨⟨by have a0 := j179_3; unfold In at a0; have a1 := j179_2; unfold In at a1; have a2 := j179_1; unfold In at a2; have a3 := ro_109_20; unfold In at a3; have a4 := i181; unfold In at a4; have a5 := j179_6; unfold In at a5; have oc := oc_409_109; omega, by have a0 := j179_3; unfold In at a0; have a1 := j179_2; unfold In at a1; have a2 := j179_1; unfold In at a2; have a3 := ro_109_20; unfold In at a3; have a4 := i181; unfold In at a4; have a5 := j179_6; unfold In at a5; have oc := oc_409_109; omega⟩, ⟨by have a0 := j179_3; unfold In at a0; have a1 := j179_2; unfold In at a1; have a2 := j179_1; unfold In at a2; have a3 := ro_109_20; unfold In at a3; have a4 := i181; unfold In at a4; have a5 := j179_6; unfold In at a5; have oc := oc_409_109; omega, by have a0 := j179_3; unfold In at a0; have a1 := j179_2; unfold In at a1; have a2 := j179_1; unfold In at a2; have a3 := ro_109_20; unfold In at a3; have a4 := i181; unfold In at a4; have a5 := j179_6; unfold In at a5; have oc := oc_409_109; omega⟩, by have a0 := j179_3; unfold In at a0; have a1 := j179_2; unfold In at a1; have a2 := j179_1; unfold In at a2; have a3 := ro_109_20; unfold In at a3; have a4 := i181; unfold In at a4; have a5 := j179_6; unfold In at a5; have oc := oc_409_109; omega, by have a0 := j179_3; unfold In at a0; have a1 := j179_2; unfold In at a1; have a2 := j179_1; unfold In at a2; have a3 := ro_109_20; unfold In at a3; have a4 := i181; unfold In at a4; have a5 := j179_6; unfold In at a5; have oc := oc_409_109; omega⟩, rwi_e g179_0 (by have a0 := j179_3; unfold In at a0; have a1 := j179_2; unfold In at a1; have a2 := j179_1; unfold In at a2; have a3 := ro_109_20; unfold In at a3; have a4 := i181; unfold In at a4; have a5 := j179_6; unfold In at a5; have oc := oc_409_109; omega) (by have a0 := j179_3; unfold In at a0; have a1 := j179_2; unfold In at a1; have a2 := j179_1; unfold In at a2; have a3 := ro_109_20; unfold In at a3; have a4 := i181; unfold In at a4; have a5 := j179_6; unfold In at a5; have oc := oc_409_109; omega) (by first | exact Or.inl (by have a0 := j179_3; unfold In at a0; have a1 := j179_2; unfold In at a1; have a2 := j179_1; unfold In at a2; have a3 := ro_109_20; unfold In at a3; have a4 := i181; unfold In at a4; have a5 := j179_6; unfold In at a5; have oc := oc_409_109; omega) | exact Or.inr (by have a0 := j179_3; unfold In at a0; have a1 := j179_2; unfold In at a1; have a2 := j179_1; unfold In at a2; have a3 := ro_109_20; unfold In at a3; have a4 := i181; unfold In at a4; have a5 := j179_6; unfold In at a5; have oc := oc_409_109; omega)), g179_2⟩
        exact g_ireturn (gd rfl) rfl rfl (hP _ _ ⟨sc179, hIc179, hFc179, y179_6, rfl, rfl, in_w 0 200 j179_6 rfl, n309⟩)
      · skip
        have i181 := z_ne 1 1 c181 j179_7 rfl
        refine g_iload 186 (gd rfl) rfl rfl ?_
        refine g_iload_n 187 (gd rfl) rfl rfl ?_
        refine g_cmp_ge 190 307 (gd rfl) rfl rfl (fun c187 => ?_) (fun c187 => ?_)
        · skip
          refine g_iload 309 (gd rfl) rfl rfl ?_
          have n309 : RUR s sc179 (fun j => rcd (s.1 184 j).toInt (s.1 185 j).toInt) 113 x1 x2 x3 y179_6 := by exact Or.inr ⟨g179_1, ⟨⟨by have a0 := j179_3; unfold In at a0; have a1 := j179_2; unfold In at a1; have a2 := j179_1; unfold In at a2; have a3 := ro_109_20; unfold In at a3; have a4 := i181; unfold In at a4; have a5 := j179_6; unfold In at a5; have oc := oc_409_109; omega, by have a0 := j179_3; unfold In at a0; have a1 := j179_2; unfold In at a1; have a2 := j179_1; unfold In at a2; have a3 := ro_109_20; unfold In at a3; have a4 := i181; unfold In at a4; have a5 := j179_6; unfold In at a5; have oc := oc_409_109; omega⟩, ⟨by have a0 := j179_3; unfold In at a0; have a1 := j179_2; unfold In at a1; have a2 := j179_1; unfold In at a2; have a3 := ro_109_20; unfold In at a3; have a4 := i181; unfold In at a4; have a5 := j179_6; unfold In at a5; have oc := oc_409_109; omega, by have a0 := j179_3; unfold In at a0; have a1 := j179_2; unfold In at a1; have a2 := j179_1; unfold In at a2; have a3 := ro_109_20; unfold In at a3; have a4 := i181; unfold In at a4; have a5 := j179_6; unfold In at a5; have oc := oc_409_109; omega⟩, by have a0 := j179_3; unfold In at a0; have a1 := j179_2; unfold In at a1; have a2 := j179_1; unfold In at a2; have a3 := ro_109_20; unfold In at a3; have a4 := i181; unfold In at a4; have a5 := j179_6; unfold In at a5; have oc := oc_409_109; omega, by have a0 := j179_3; unfold In at a0; have a1 := j179_2; unfold In at a1; have a2 := j179_1; unfold In at a2; have a3 := ro_109_20; unfold In at a3; have a4 := i181; unfold In at a4; have a5 := j179_6; unfold In at a5; have oc := oc_409_109; omega⟩, rwi_e g179_0 (by have a0 := j179_3; unfold In at a0; have a1 := j179_2; unfold In at a1; have a2 := j179_1; unfold In at a2; have a3 := ro_109_20; unfold In at a3; have a4 := i181; unfold In at a4; have a5 := j179_6; unfold In at a5; have oc := oc_409_109; omega) (by have a0 := j179_3; unfold In at a0; have a1 := j179_2; unfold In at a1; have a2 := j179_1; unfold In at a2; have a3 := ro_109_20; unfold In at a3; have a4 := i181; unfold In at a4; have a5 := j179_6; unfold In at a5; have oc := oc_409_109; omega) (by first | exact Or.inl (by have a0 := j179_3; unfold In at a0; have a1 := j179_2; unfold In at a1; have a2 := j179_1; unfold In at a2; have a3 := ro_109_20; unfold In at a3; have a4 := i181; unfold In at a4; have a5 := j179_6; unfold In at a5; have oc := oc_409_109; omega) | exact Or.inr (by have a0 := j179_3; unfold In at a0; have a1 := j179_2; unfold In at a1; have a2 := j179_1; unfold In at a2; have a3 := ro_109_20; unfold In at a3; have a4 := i181; unfold In at a4; have a5 := j179_6; unfold In at a5; have oc := oc_409_109; omega)), g179_2⟩
          exact g_ireturn (gd rfl) rfl rfl (hP _ _ ⟨sc179, hIc179, hFc179, y179_6, rfl, rfl, in_w 0 200 j179_6 rfl, n309⟩)
        · skip
          have i187 := r_lt1 0 199 c187 j179_6 j179_1 rfl
          have i187a := r_lt2 1 200 c187 j179_6 j179_1 rfl
          refine g_iinc 193 (gd rfl) rfl rfl (Nat.le_of_ble_eq_true rfl) (fun z190 e190 => ?_)
          have i190 := in_add 1 200 e190 i187 (in_c 1 rfl) rfl rfl
          refine g_aload_n 194 (gd rfl) rfl rfl ?_
          refine g_iload_n 195 (gd rfl) rfl rfl ?_
          refine g_iload_n 196 (gd rfl) rfl rfl ?_
          refine g_lload 198 (gd rfl) rfl rfl ?_
          refine g_callv (X := _) (As := [.int x2, .int x3, .long x4]) (r := []) (b := A 109) (q := 109) 201 (gd rfl) rfl rfl rfl rfl rfl (ww_o rfl) (Nat.le_of_ble_eq_true rfl) (Nat.zero_le _) (Nat.zero_le _) (k_411 (by omega) hIc179 (in_w 1 4 j179_2 rfl) (in_w 0 90 j179_3 rfl)) (fun e u h => h) (fun v u h => ?_)
          obtain ⟨s198, hI198, hF198, rfl, rfl⟩ := h
          show GG _ _ _ _ _ _ _ _ [] _ _ _
          refine g_iconst 0 202 (gd rfl) rfl rfl ?_
          refine g_istore 204 (gd rfl) rfl (Nat.le_of_ble_eq_true rfl) ?_
          refine g_iconst 0 205 (gd rfl) rfl rfl ?_
          refine g_istore 207 (gd rfl) rfl (Nat.le_of_ble_eq_true rfl) ?_
          have n207 : (z190).toInt = y179_6.toInt + 1 := by have a0 := j179_3; unfold In at a0; have a1 := j179_2; unfold In at a1; have a2 := i187a; unfold In at a2; have a3 := ro_109_20; unfold In at a3; have a4 := i181; unfold In at a4; have a5 := i187; unfold In at a5; have a6 := (in_c 0 rfl); unfold In at a6; have a7 := i190; unfold In at a7; have a8 := t_add e190 i187 (in_c 1 rfl) rfl; have a9 := (in_c 1 rfl); unfold In at a9; have oc := oc_409_109; omega
          have n207a : ((Int32.ofInt 0)).toInt ≤ (u_109_20).toInt := by have a0 := j179_3; unfold In at a0; have a1 := j179_2; unfold In at a1; have a2 := i187a; unfold In at a2; have a3 := ro_109_20; unfold In at a3; have a4 := i181; unfold In at a4; have a5 := i187; unfold In at a5; have a6 := (in_c 0 rfl); unfold In at a6; have a7 := i190; unfold In at a7; have a8 := t_add e190 i187 (in_c 1 rfl) rfl; have a9 := (in_c 1 rfl); unfold In at a9; have oc := oc_409_109; omega
          have n207b : ALR ((s198).2.1 191) (gvZ s).2.2.2.2.2.2.1 (STA (gvZ s) (fun j => rcd (s.1 184 j).toInt (s.1 185 j).toInt) (s.1 186 1).toInt.toNat (s.1 186 2).toInt.toNat (y179_6).toInt.toNat) := by rw [hF198.2.1 191 rfl]; exact g179_0.1
          have n207c : DRI (STA (gvZ s) (fun j => rcd (s.1 184 j).toInt (s.1 185 j).toInt) (s.1 186 1).toInt.toNat (s.1 186 2).toInt.toNat ((y179_6).toInt.toNat + 1)) (STA (gvZ s) (fun j => rcd (s.1 184 j).toInt (s.1 185 j).toInt) (s.1 186 1).toInt.toNat (s.1 186 2).toInt.toNat (y179_6).toInt.toNat) ((Int32.ofInt 0)).toInt ((Int32.ofInt 0)).toInt ((s198).2.1 192) := by exact dri_0 rfl rfl
          have n207d : ∀ q : Nat, q < (y179_6).toInt.toNat → CHG (gvZ s) (fun j => rcd (s.1 184 j).toInt (s.1 185 j).toInt) (s.1 186 1).toInt.toNat (s.1 186 2).toInt.toNat q := by exact rwi_h g179_0 (by have a0 := j179_3; unfold In at a0; have a1 := j179_2; unfold In at a1; have a2 := i187a; unfold In at a2; have a3 := ro_109_20; unfold In at a3; have a4 := i181; unfold In at a4; have a5 := i187; unfold In at a5; have a6 := (in_c 0 rfl); unfold In at a6; have a7 := i190; unfold In at a7; have a8 := t_add e190 i187 (in_c 1 rfl) rfl; have a9 := (in_c 1 rfl); unfold In at a9; have oc := oc_409_109; omega)
          have n207e : ((s198).2.2.1 109 0).toInt = 0 := by rw [hF198.2.2.1 109 0 rfl]; exact g179_1
          have n207f : (s198).2.2.1 109 113 = s.2.2.1 109 20 := by exact (hF198.2.2.1 109 113 rfl).trans g179_2
          exact gg_w (by omega) (gg_f (gf_cons rfl (gf_cons rfl (gf_cons rfl (gf_cons rfl (gf_cons rfl (gf_cons rfl (gf_cons rfl (gf_cons rfl gf_nil)))))))) (ct207 33 s198 z190 (Int32.ofInt 0) (Int32.ofInt 0) hI198 (fr_tr rfl hFc179 hF198) (in_w 1 200 i187a rfl) (in_w 1 200 i190 rfl) (in_w 0 1 (in_c 0 rfl) rfl) (in_w 0 32 (in_c 0 rfl) rfl) n207 n207a n207b n207c n207d n207e n207f (m_in 33 (in_w 0 32 (in_c 0 rfl) rfl) rfl)))
  have ct144 : ∀ (k144 : Nat) (sc144 : GS) (y144_6 : Int32), Inv sc144 → Fr fm_409 s sc144 → (In x1 0 200) → (In x2 1 4) → (In x3 0 90) → (In y144_6 0 32) → ((y144_6).toInt ≤ (u_109_20).toInt) → (ALR ((sc144).2.1 192) (gvZ s).2.2.2.2.2.2.1 (STA (gvZ s) (fun j => rcd (s.1 184 j).toInt (s.1 185 j).toInt) (s.1 186 1).toInt.toNat (s.1 186 2).toInt.toNat 0)) → (ALR ((sc144).2.1 191) (y144_6).toInt (STA (gvZ s) (fun j => rcd (s.1 184 j).toInt (s.1 185 j).toInt) (s.1 186 1).toInt.toNat (s.1 186 2).toInt.toNat 0)) → (((sc144).2.2.1 109 0).toInt = 0) → ((sc144).2.2.1 109 113 = s.2.2.1 109 20) → 32 - (y144_6).toInt < (k144 : Int) → GG Z (d - 1) 409 post (gx xp) (12844304 + k144 * 900) 144 (fun j => xlook j [(0, .ref (A 109)), (1, .int x1), (2, .int x2), (3, .int x3), (4, .long x4), (6, .int y144_6)]) [] (WW Z A sc144 ++ ex) 0 0 := by
    intro k144
    induction k144 with
    | zero => intro sc144 y144_6 hIc144 hFc144 j144_1 j144_2 j144_3 j144_6 n144_0 g144_0 g144_1 g144_2 g144_3 mm144; exact m_no mm144 j144_6 rfl
    | succ k144 ih144 =>
      intro sc144 y144_6 hIc144 hFc144 j144_1 j144_2 j144_3 j144_6 n144_0 g144_0 g144_1 g144_2 g144_3 mm144
      refine gg_w (M := 12844304 + k144 * 900 + 900) (by omega) ?_
      refine g_iload 146 (gd rfl) rfl rfl ?_
      refine g_aload_n 147 (gd rfl) rfl rfl ?_
      refine g_getI 150 (gd rfl) rfl rfl rfl (fun z147 e147 => ?_)
      have q147 : u_109_20 = z147 := (fr_F e_109_20 hFc144 rfl).trans e147.symm
      subst q147
      refine g_cmp_ge 153 173 (gd rfl) rfl rfl (fun c150 => ?_) (fun c150 => ?_)
      · skip
        refine g_iconst 0 174 (gd rfl) rfl rfl ?_
        refine g_istore 176 (gd rfl) rfl (Nat.le_of_ble_eq_true rfl) ?_
        refine g_iconst 1 177 (gd rfl) rfl rfl ?_
        refine g_istore 179 (gd rfl) rfl (Nat.le_of_ble_eq_true rfl) ?_
        have n179 : ((Int32.ofInt 0)).toInt ≤ (x1).toInt := by have a0 := j144_3; unfold In at a0; have a1 := j144_2; unfold In at a1; have a2 := j144_1; unfold In at a2; have a3 := ro_109_20; unfold In at a3; have a4 := j144_6; unfold In at a4; have a5 := (in_c 1 rfl); unfold In at a5; have a6 := (in_c 0 rfl); unfold In at a6; have oc := oc_409_109; omega
        have n179a : RWI (gvZ s) (fun j => rcd (s.1 184 j).toInt (s.1 185 j).toInt) (s.1 186 1).toInt.toNat (s.1 186 2).toInt.toNat ((Int32.ofInt 0)).toInt ((Int32.ofInt 1)).toInt ((sc144).2.1 191) := by exact rwi_0 (by rw [show (gvZ s).2.2.2.2.2.2.1 = (y144_6).toInt from (by rw [gvz_n hI, ← e_109_20]; have a0 := j144_3; unfold In at a0; have a1 := j144_2; unfold In at a1; have a2 := j144_1; unfold In at a2; have a3 := ro_109_20; unfold In at a3; have a4 := j144_6; unfold In at a4; have a5 := (in_c 1 rfl); unfold In at a5; have a6 := (in_c 0 rfl); unfold In at a6; have oc := oc_409_109; omega)]; exact g144_1) rfl (by decide)
        have n179b : ((sc144).2.2.1 109 0).toInt = 0 := by exact g144_2
        have n179c : (sc144).2.2.1 109 113 = s.2.2.1 109 20 := by exact g144_3
        have m179 : 200 - ((Int32.ofInt 0)).toInt < ((201 : Nat) : Int) := by have a0 := j144_3; unfold In at a0; have a1 := j144_2; unfold In at a1; have a2 := j144_1; unfold In at a2; have a3 := ro_109_20; unfold In at a3; have a4 := j144_6; unfold In at a4; have a5 := (in_c 1 rfl); unfold In at a5; have a6 := (in_c 0 rfl); unfold In at a6; have oc := oc_409_109; omega
        exact gg_w (by omega) (gg_f (gf_cons rfl (gf_cons rfl (gf_cons rfl (gf_cons rfl (gf_cons rfl (gf_cons rfl (gf_cons rfl gf_nil))))))) (ct179 201 sc144 (Int32.ofInt 0) (Int32.ofInt 1) hIc144 hFc144 (in_w 0 200 j144_1 rfl) (in_w 1 4 j144_2 rfl) (in_w 0 90 j144_3 rfl) (in_w 0 200 (in_c 0 rfl) rfl) (in_w 0 1 (in_c 1 rfl) rfl) n179 n179a n179b n179c m179))
      · skip
        have i150 := r_lt1 0 31 c150 j144_6 ro_109_20 rfl
        have i150a := r_lt2 1 32 c150 j144_6 ro_109_20 rfl
        refine g_aload_n 154 (gd rfl) rfl rfl ?_
        refine g_getA (q2 := 191) 157 (gd rfl) rfl rfl rfl rfl ?_
        refine g_iload 159 (gd rfl) rfl rfl ?_
        refine g_aload_n 160 (gd rfl) rfl rfl ?_
        refine g_getA (q2 := 192) 163 (gd rfl) rfl rfl rfl rfl ?_
        refine g_iload 165 (gd rfl) rfl rfl ?_
        refine g_laload 166 (gd rfl) rfl (n := 32) rfl (in_ix i150 rfl) (fun z165 e165 => ?_)
        refine g_lastore 167 (gd rfl) rfl (n := 32) rfl (in_ix i150 rfl) ?_
        have hI166 := inv_sL (q := 191) (j := y144_6.toNatClampNeg) (x := z165) hIc144 rfl (l_rng z165)
        refine g_iinc 170 (gd rfl) rfl rfl (Nat.le_of_ble_eq_true rfl) (fun z167 e167 => ?_)
        have i167 := in_add 1 32 e167 i150 (in_c 1 rfl) rfl rfl
        refine g_goto 144 (gd rfl) rfl ?_
        have n144 : (z167).toInt ≤ (u_109_20).toInt := by have a0 := j144_3; unfold In at a0; have a1 := j144_2; unfold In at a1; have a2 := j144_1; unfold In at a2; have a3 := i150a; unfold In at a3; have a4 := i150; unfold In at a4; have a5 := i167; unfold In at a5; have a6 := t_add e167 i150 (in_c 1 rfl) rfl; have a7 := (in_c 1 rfl); unfold In at a7; have oc := oc_409_109; omega
        have n144a : ALR (((sL sc144 191 y144_6.toNatClampNeg z165)).2.1 192) (gvZ s).2.2.2.2.2.2.1 (STA (gvZ s) (fun j => rcd (s.1 184 j).toInt (s.1 185 j).toInt) (s.1 186 1).toInt.toNat (s.1 186 2).toInt.toNat 0) := by rw [show (sL sc144 191 (y144_6).toNatClampNeg z165).2.1 192 = sc144.2.1 192 from sL_o rfl]; exact g144_0
        have n144b : ALR (((sL sc144 191 y144_6.toNatClampNeg z165)).2.1 191) (z167).toInt (STA (gvZ s) (fun j => rcd (s.1 184 j).toInt (s.1 185 j).toInt) (s.1 186 1).toInt.toNat (s.1 186 2).toInt.toNat 0) := by rw [sL_v]; exact alr_s g144_1 (show ((y144_6).toNatClampNeg : Int) = (y144_6).toInt from clx (by have a0 := j144_3; unfold In at a0; have a1 := j144_2; unfold In at a1; have a2 := j144_1; unfold In at a2; have a3 := i150a; unfold In at a3; have a4 := i150; unfold In at a4; have a5 := i167; unfold In at a5; have a6 := t_add e167 i150 (in_c 1 rfl) rfl; have a7 := (in_c 1 rfl); unfold In at a7; have oc := oc_409_109; omega)) ((congrArg Int64.toInt e165).trans (g144_0 _ (show (((y144_6).toNatClampNeg : Nat) : Int) < (gvZ s).2.2.2.2.2.2.1 from (by rw [(show ((y144_6).toNatClampNeg : Int) = (y144_6).toInt from clx (by have a0 := j144_3; unfold In at a0; have a1 := j144_2; unfold In at a1; have a2 := j144_1; unfold In at a2; have a3 := i150a; unfold In at a3; have a4 := i150; unfold In at a4; have a5 := i167; unfold In at a5; have a6 := t_add e167 i150 (in_c 1 rfl) rfl; have a7 := (in_c 1 rfl); unfold In at a7; have oc := oc_409_109; omega)), gvz_n hI, ← e_109_20]; have a0 := j144_3; unfold In at a0; have a1 := j144_2; unfold In at a1; have a2 := j144_1; unfold In at a2; have a3 := i150a; unfold In at a3; have a4 := i150; unfold In at a4; have a5 := i167; unfold In at a5; have a6 := t_add e167 i150 (in_c 1 rfl) rfl; have a7 := (in_c 1 rfl); unfold In at a7; have oc := oc_409_109; omega)))) (by have a0 := j144_3; unfold In at a0; have a1 := j144_2; unfold In at a1; have a2 := j144_1; unfold In at a2; have a3 := i150a; unfold In at a3; have a4 := i150; unfold In at a4; have a5 := i167; unfold In at a5; have a6 := t_add e167 i150 (in_c 1 rfl) rfl; have a7 := (in_c 1 rfl); unfold In at a7; have oc := oc_409_109; omega)
        have n144c : (((sL sc144 191 y144_6.toNatClampNeg z165)).2.2.1 109 0).toInt = 0 := by exact g144_2
        have n144d : ((sL sc144 191 y144_6.toNatClampNeg z165)).2.2.1 109 113 = s.2.2.1 109 20 := by exact g144_3
        exact gg_w (by omega) (gg_f (gf_cons rfl (gf_cons rfl (gf_cons rfl (gf_cons rfl (gf_cons rfl (gf_cons rfl gf_nil)))))) (ih144 (sL sc144 191 y144_6.toNatClampNeg z165) z167 hI166 (fr_sL rfl hFc144) (in_w 0 200 j144_1 rfl) (in_w 1 4 j144_2 rfl) (in_w 0 90 j144_3 rfl) (in_w 0 32 i167 rfl) n144 n144a n144b n144c n144d (m_up mm144 (t_add e167 i150 (in_c 1 rfl) rfl) (in_w 1 1 (in_c 1 rfl) rfl))))
  have ct107 : ∀ (k107 : Nat) (sc107 : GS) (y107_6 : Int32), Inv sc107 → Fr fm_409 s sc107 → (In x1 0 200) → (In x2 1 4) → (In x3 0 90) → (In y107_6 0 32) → ((y107_6).toInt ≤ (u_109_20).toInt) → (ALR ((sc107).2.1 191) (gvZ s).2.2.2.2.2.2.1 (fun _ : Nat => (0 : Int))) → (ALR ((sc107).2.1 192) (y107_6).toInt (STA (gvZ s) (fun j => rcd (s.1 184 j).toInt (s.1 185 j).toInt) (s.1 186 1).toInt.toNat (s.1 186 2).toInt.toNat 0)) → (((sc107).2.2.1 109 0).toInt = 0) → ((sc107).2.2.1 109 113 = s.2.2.1 109 20) → 32 - (y107_6).toInt < (k107 : Int) → GG Z (d - 1) 409 post (gx xp) (12874005 + k107 * 900) 107 (fun j => xlook j [(0, .ref (A 109)), (1, .int x1), (2, .int x2), (3, .int x3), (4, .long x4), (6, .int y107_6)]) [] (WW Z A sc107 ++ ex) 0 0 := by
    intro k107
    induction k107 with
    | zero => intro sc107 y107_6 hIc107 hFc107 j107_1 j107_2 j107_3 j107_6 n107_0 g107_0 g107_1 g107_2 g107_3 mm107; exact m_no mm107 j107_6 rfl
    | succ k107 ih107 =>
      intro sc107 y107_6 hIc107 hFc107 j107_1 j107_2 j107_3 j107_6 n107_0 g107_0 g107_1 g107_2 g107_3 mm107
      refine gg_w (M := 12874005 + k107 * 900 + 900) (by omega) ?_
      refine g_iload 109 (gd rfl) rfl rfl ?_
      refine g_aload_n 110 (gd rfl) rfl rfl ?_
      refine g_getI 113 (gd rfl) rfl rfl rfl (fun z110 e110 => ?_)
      have q110 : u_109_20 = z110 := (fr_F e_109_20 hFc107 rfl).trans e110.symm
      subst q110
      refine g_cmp_ge 116 141 (gd rfl) rfl rfl (fun c113 => ?_) (fun c113 => ?_)
      · skip
        refine g_iconst 0 142 (gd rfl) rfl rfl ?_
        refine g_istore 144 (gd rfl) rfl (Nat.le_of_ble_eq_true rfl) ?_
        have n144 : ((Int32.ofInt 0)).toInt ≤ (u_109_20).toInt := by have a0 := j107_3; unfold In at a0; have a1 := j107_2; unfold In at a1; have a2 := j107_1; unfold In at a2; have a3 := ro_109_20; unfold In at a3; have a4 := j107_6; unfold In at a4; have a5 := (in_c 0 rfl); unfold In at a5; have oc := oc_409_109; omega
        have n144a : ALR ((sc107).2.1 192) (gvZ s).2.2.2.2.2.2.1 (STA (gvZ s) (fun j => rcd (s.1 184 j).toInt (s.1 185 j).toInt) (s.1 186 1).toInt.toNat (s.1 186 2).toInt.toNat 0) := by rw [show (gvZ s).2.2.2.2.2.2.1 = (y107_6).toInt from (by rw [gvz_n hI, ← e_109_20]; have a0 := j107_3; unfold In at a0; have a1 := j107_2; unfold In at a1; have a2 := j107_1; unfold In at a2; have a3 := ro_109_20; unfold In at a3; have a4 := j107_6; unfold In at a4; have a5 := (in_c 0 rfl); unfold In at a5; have oc := oc_409_109; omega)]; exact g107_1
        have n144b : ALR ((sc107).2.1 191) ((Int32.ofInt 0)).toInt (STA (gvZ s) (fun j => rcd (s.1 184 j).toInt (s.1 185 j).toInt) (s.1 186 1).toInt.toNat (s.1 186 2).toInt.toNat 0) := by exact alr_0 rfl
        have n144c : ((sc107).2.2.1 109 0).toInt = 0 := by exact g107_2
        have n144d : (sc107).2.2.1 109 113 = s.2.2.1 109 20 := by exact g107_3
        exact gg_w (by omega) (gg_f (gf_cons rfl (gf_cons rfl (gf_cons rfl (gf_cons rfl (gf_cons rfl (gf_cons rfl gf_nil)))))) (ct144 33 sc107 (Int32.ofInt 0) hIc107 hFc107 (in_w 0 200 j107_1 rfl) (in_w 1 4 j107_2 rfl) (in_w 0 90 j107_3 rfl) (in_w 0 32 (in_c 0 rfl) rfl) n144 n144a n144b n144c n144d (m_in 33 (in_w 0 32 (in_c 0 rfl) rfl) rfl)))
      · skip
        have i113 := r_lt1 0 31 c113 j107_6 ro_109_20 rfl
        have i113a := r_lt2 1 32 c113 j107_6 ro_109_20 rfl
        refine g_aload_n 117 (gd rfl) rfl rfl ?_
        refine g_iload 119 (gd rfl) rfl rfl ?_
        refine g_iconst 0 120 (gd rfl) rfl rfl ?_
        have p120 : XBD (sc107.2.2.1 109 20).toInt (fun u => (sc107.2.1 191 u).toInt) := by intro u hu; rw [hFc107.2.2.1 109 20 rfl, ← gvz_n hI] at hu; show BD (sc107.2.1 191 u).toInt; rw [g107_0 u hu]; unfold BD; omega
        refine g_callv (X := _) (As := [.int y107_6, .int (Int32.ofInt 0)]) (r := []) (b := A 109) (q := 109) 123 (gd rfl) rfl rfl rfl rfl rfl (ww_o rfl) (Nat.le_of_ble_eq_true rfl) (Nat.zero_le _) (Nat.zero_le _) (f_407 (by omega) hIc107 (in_w 0 31 i113 rfl) (in_w 0 200 (in_c 0 rfl) rfl) p120) (fun e u h => h) (fun v u h => ?_)
        obtain ⟨s120, hI120, hF120, rfl, rfl, p120a⟩ := h
        show GG _ _ _ _ _ _ _ _ [] _ _ _
        refine g_aload_n 124 (gd rfl) rfl rfl ?_
        refine g_getA (q2 := 192) 127 (gd rfl) rfl rfl rfl rfl ?_
        refine g_iload 129 (gd rfl) rfl rfl ?_
        refine g_aload_n 130 (gd rfl) rfl rfl ?_
        refine g_iconst 0 131 (gd rfl) rfl rfl ?_
        have p131 : VBD (s120.2.1 194) := by have hV := p120a; rw [gvz_cg hFc107 rfl] at hV; exact vlr_b hV (by show BD (sc107.2.1 191 (y107_6).toNatClampNeg).toInt; rw [g107_0 _ (show (((y107_6).toNatClampNeg : Nat) : Int) < (gvZ s).2.2.2.2.2.2.1 from (by rw [(show ((y107_6).toNatClampNeg : Int) = (y107_6).toInt from clx (by have a0 := j107_3; unfold In at a0; have a1 := j107_2; unfold In at a1; have a2 := j107_1; unfold In at a2; have a3 := i113a; unfold In at a3; have a4 := i113; unfold In at a4; have oc := oc_409_109; omega)), gvz_n hI, ← e_109_20]; have a0 := j107_3; unfold In at a0; have a1 := j107_2; unfold In at a1; have a2 := j107_1; unfold In at a2; have a3 := i113a; unfold In at a3; have a4 := i113; unfold In at a4; have oc := oc_409_109; omega))]; unfold BD; omega) (by show (y107_6).toInt.toNat < 32; have a0 := j107_3; unfold In at a0; have a1 := j107_2; unfold In at a1; have a2 := j107_1; unfold In at a2; have a3 := i113a; unfold In at a3; have a4 := i113; unfold In at a4; have oc := oc_409_109; omega) bd_i
        have p131a : POK s120 := by exact pok_fr (pok_fr q_0 hFc107 rfl) hF120 rfl
        have p131b : RPC s120 := by exact rpc_fr (rpc_fr q_1 hFc107 rfl) hF120 rfl
        refine g_callv (X := _) (As := [.int (Int32.ofInt 0)]) (r := [.int y107_6, .ref (A 192)]) (b := A 109) (q := 109) 134 (gd rfl) rfl rfl rfl rfl rfl (ww_o rfl) (Nat.le_of_ble_eq_true rfl) (Nat.zero_le _) (Nat.zero_le _) (f_408 (by omega) hI120 (in_w 0 1 (in_c 0 rfl) rfl) p131 p131a p131b) (fun e u h => h) (fun v u h => ?_)
        obtain ⟨s131, hI131, hF131, z131, rfl, rfl, p131c⟩ := h
        show GG _ _ _ _ _ _ _ _ [.long z131, .int y107_6, .ref (A 192)] _ _ _
        refine g_lastore 135 (gd rfl) rfl (n := 32) rfl (in_ix i113 rfl) ?_
        have hI134 := inv_sL (q := 192) (j := y107_6.toNatClampNeg) (x := z131) hI131 rfl (l_rng z131)
        refine g_iinc 138 (gd rfl) rfl rfl (Nat.le_of_ble_eq_true rfl) (fun z135 e135 => ?_)
        have i135 := in_add 1 32 e135 i113 (in_c 1 rfl) rfl rfl
        refine g_goto 107 (gd rfl) rfl ?_
        have n107 : (z135).toInt ≤ (u_109_20).toInt := by have a0 := j107_3; unfold In at a0; have a1 := j107_2; unfold In at a1; have a2 := j107_1; unfold In at a2; have a3 := i113a; unfold In at a3; have a4 := i113; unfold In at a4; have a5 := i135; unfold In at a5; have a6 := t_add e135 i113 (in_c 1 rfl) rfl; have a7 := (in_c 1 rfl); unfold In at a7; have oc := oc_409_109; omega
        have n107a : ALR (((sL s131 192 y107_6.toNatClampNeg z131)).2.1 191) (gvZ s).2.2.2.2.2.2.1 (fun _ : Nat => (0 : Int)) := by rw [show (sL s131 192 (y107_6).toNatClampNeg z131).2.1 191 = sc107.2.1 191 from (sL_o rfl).trans ((hF131.2.1 191 rfl).trans (hF120.2.1 191 rfl))]; exact g107_0
        have n107b : ALR (((sL s131 192 y107_6.toNatClampNeg z131)).2.1 192) (z135).toInt (STA (gvZ s) (fun j => rcd (s.1 184 j).toInt (s.1 185 j).toInt) (s.1 186 1).toInt.toNat (s.1 186 2).toInt.toNat 0) := by have hV := p120a; rw [gvz_cg hFc107 rfl] at hV; have h9 := p131c; rw [show wa s120 (Int32.ofInt 0) = 0 from if_pos rfl, ((hF120.1 184 rfl).trans (hFc107.1 184 rfl)), ((hF120.1 185 rfl).trans (hFc107.1 185 rfl)), ((hF120.1 186 rfl).trans (hFc107.1 186 rfl))] at h9; have hz9 : (z131).toInt = (STA (gvZ s) (fun j => rcd (s.1 184 j).toInt (s.1 185 j).toInt) (s.1 186 1).toInt.toNat (s.1 186 2).toInt.toNat 0) (y107_6).toNatClampNeg := rz_0 hV rfl (ndq_z hI) (show (((y107_6).toNatClampNeg : Nat) : Int) < (gvZ s).2.2.2.2.2.2.1 from (by rw [(show ((y107_6).toNatClampNeg : Int) = (y107_6).toInt from clx (by have a0 := j107_3; unfold In at a0; have a1 := j107_2; unfold In at a1; have a2 := j107_1; unfold In at a2; have a3 := i113a; unfold In at a3; have a4 := i113; unfold In at a4; have a5 := i135; unfold In at a5; have a6 := t_add e135 i113 (in_c 1 rfl) rfl; have a7 := (in_c 1 rfl); unfold In at a7; have oc := oc_409_109; omega)), gvz_n hI, ← e_109_20]; have a0 := j107_3; unfold In at a0; have a1 := j107_2; unfold In at a1; have a2 := j107_1; unfold In at a2; have a3 := i113a; unfold In at a3; have a4 := i113; unfold In at a4; have a5 := i135; unfold In at a5; have a6 := t_add e135 i113 (in_c 1 rfl) rfl; have a7 := (in_c 1 rfl); unfold In at a7; have oc := oc_409_109; omega)) (fun u hu => g107_0 u hu) (fun j hj => cdo_r (q_0 j (by have h9 := q_1.2; omega))) h9; rw [sL_v, show s131.2.1 192 = sc107.2.1 192 from ((hF131.2.1 192 rfl).trans (hF120.2.1 192 rfl))]; exact alr_s g107_1 (show ((y107_6).toNatClampNeg : Int) = (y107_6).toInt from clx (by have a0 := j107_3; unfold In at a0; have a1 := j107_2; unfold In at a1; have a2 := j107_1; unfold In at a2; have a3 := i113a; unfold In at a3; have a4 := i113; unfold In at a4; have a5 := i135; unfold In at a5; have a6 := t_add e135 i113 (in_c 1 rfl) rfl; have a7 := (in_c 1 rfl); unfold In at a7; have oc := oc_409_109; omega)) hz9 (by have a0 := j107_3; unfold In at a0; have a1 := j107_2; unfold In at a1; have a2 := j107_1; unfold In at a2; have a3 := i113a; unfold In at a3; have a4 := i113; unfold In at a4; have a5 := i135; unfold In at a5; have a6 := t_add e135 i113 (in_c 1 rfl) rfl; have a7 := (in_c 1 rfl); unfold In at a7; have oc := oc_409_109; omega)
        have n107c : (((sL s131 192 y107_6.toNatClampNeg z131)).2.2.1 109 0).toInt = 0 := by show (s131.2.2.1 109 0).toInt = 0; rw [((hF131.2.2.1 109 0 rfl).trans (hF120.2.2.1 109 0 rfl))]; exact g107_2
        have n107d : ((sL s131 192 y107_6.toNatClampNeg z131)).2.2.1 109 113 = s.2.2.1 109 20 := by exact ((hF131.2.2.1 109 113 rfl).trans (hF120.2.2.1 109 113 rfl)).trans g107_3
        exact gg_w (by omega) (gg_f (gf_cons rfl (gf_cons rfl (gf_cons rfl (gf_cons rfl (gf_cons rfl (gf_cons rfl gf_nil)))))) (ih107 (sL s131 192 y107_6.toNatClampNeg z131) z135 hI134 (fr_sL rfl (fr_tr rfl (fr_tr rfl hFc107 hF120) hF131)) (in_w 0 200 j107_1 rfl) (in_w 1 4 j107_2 rfl) (in_w 0 90 j107_3 rfl) (in_w 0 32 i135 rfl) n107 n107a n107b n107c n107d (m_up mm107 (t_add e135 i113 (in_c 1 rfl) rfl) (in_w 1 1 (in_c 1 rfl) rfl))))
  have ct81 : ∀ (k81 : Nat) (sc81 : GS) (y81_6 : Int32), Inv sc81 → Fr fm_409 s sc81 → (In x1 0 200) → (In x2 1 4) → (In x3 0 90) → (In y81_6 0 32) → ((y81_6).toInt ≤ (u_109_20).toInt) → (ALR ((sc81).2.1 191) (y81_6).toInt (fun _ : Nat => (0 : Int))) → (((sc81).2.2.1 109 0).toInt = 0) → ((sc81).2.2.1 109 113 = s.2.2.1 109 20) → 32 - (y81_6).toInt < (k81 : Int) → GG Z (d - 1) 409 post (gx xp) (12903706 + k81 * 900) 81 (fun j => xlook j [(0, .ref (A 109)), (1, .int x1), (2, .int x2), (3, .int x3), (4, .long x4), (6, .int y81_6)]) [] (WW Z A sc81 ++ ex) 0 0 := by
    intro k81
    induction k81 with
    | zero => intro sc81 y81_6 hIc81 hFc81 j81_1 j81_2 j81_3 j81_6 n81_0 g81_0 g81_1 g81_2 mm81; exact m_no mm81 j81_6 rfl
    | succ k81 ih81 =>
      intro sc81 y81_6 hIc81 hFc81 j81_1 j81_2 j81_3 j81_6 n81_0 g81_0 g81_1 g81_2 mm81
      refine gg_w (M := 12903706 + k81 * 900 + 900) (by omega) ?_
      refine g_iload 83 (gd rfl) rfl rfl ?_
      refine g_aload_n 84 (gd rfl) rfl rfl ?_
      refine g_getI 87 (gd rfl) rfl rfl rfl (fun z84 e84 => ?_)
      have q84 : u_109_20 = z84 := (fr_F e_109_20 hFc81 rfl).trans e84.symm
      subst q84
      refine g_cmp_ge 90 104 (gd rfl) rfl rfl (fun c87 => ?_) (fun c87 => ?_)
      · skip
        refine g_iconst 0 105 (gd rfl) rfl rfl ?_
        refine g_istore 107 (gd rfl) rfl (Nat.le_of_ble_eq_true rfl) ?_
        have n107 : ((Int32.ofInt 0)).toInt ≤ (u_109_20).toInt := by have a0 := j81_3; unfold In at a0; have a1 := j81_2; unfold In at a1; have a2 := j81_1; unfold In at a2; have a3 := ro_109_20; unfold In at a3; have a4 := j81_6; unfold In at a4; have a5 := (in_c 0 rfl); unfold In at a5; have oc := oc_409_109; omega
        have n107a : ALR ((sc81).2.1 191) (gvZ s).2.2.2.2.2.2.1 (fun _ : Nat => (0 : Int)) := by rw [show (gvZ s).2.2.2.2.2.2.1 = (y81_6).toInt from (by rw [gvz_n hI, ← e_109_20]; have a0 := j81_3; unfold In at a0; have a1 := j81_2; unfold In at a1; have a2 := j81_1; unfold In at a2; have a3 := ro_109_20; unfold In at a3; have a4 := j81_6; unfold In at a4; have a5 := (in_c 0 rfl); unfold In at a5; have oc := oc_409_109; omega)]; exact g81_0
        have n107b : ALR ((sc81).2.1 192) ((Int32.ofInt 0)).toInt (STA (gvZ s) (fun j => rcd (s.1 184 j).toInt (s.1 185 j).toInt) (s.1 186 1).toInt.toNat (s.1 186 2).toInt.toNat 0) := by exact alr_0 rfl
        have n107c : ((sc81).2.2.1 109 0).toInt = 0 := by exact g81_1
        have n107d : (sc81).2.2.1 109 113 = s.2.2.1 109 20 := by exact g81_2
        exact gg_w (by omega) (gg_f (gf_cons rfl (gf_cons rfl (gf_cons rfl (gf_cons rfl (gf_cons rfl (gf_cons rfl gf_nil)))))) (ct107 33 sc81 (Int32.ofInt 0) hIc81 hFc81 (in_w 0 200 j81_1 rfl) (in_w 1 4 j81_2 rfl) (in_w 0 90 j81_3 rfl) (in_w 0 32 (in_c 0 rfl) rfl) n107 n107a n107b n107c n107d (m_in 33 (in_w 0 32 (in_c 0 rfl) rfl) rfl)))
      · skip
        have i87 := r_lt1 0 31 c87 j81_6 ro_109_20 rfl
        have i87a := r_lt2 1 32 c87 j81_6 ro_109_20 rfl
        refine g_aload_n 91 (gd rfl) rfl rfl ?_
        refine g_getA (q2 := 191) 94 (gd rfl) rfl rfl rfl rfl ?_
        refine g_iload 96 (gd rfl) rfl rfl ?_
        refine g_lconst 0 97 (gd rfl) rfl rfl ?_
        refine g_lastore 98 (gd rfl) rfl (n := 32) rfl (in_ix i87 rfl) ?_
        have hI97 := inv_sL (q := 191) (j := y81_6.toNatClampNeg) (x := (Int64.ofInt 0)) hIc81 rfl (l_rng (Int64.ofInt 0))
        refine g_iinc 101 (gd rfl) rfl rfl (Nat.le_of_ble_eq_true rfl) (fun z98 e98 => ?_)
        have i98 := in_add 1 32 e98 i87 (in_c 1 rfl) rfl rfl
        refine g_goto 81 (gd rfl) rfl ?_
        have n81 : (z98).toInt ≤ (u_109_20).toInt := by have a0 := j81_3; unfold In at a0; have a1 := j81_2; unfold In at a1; have a2 := j81_1; unfold In at a2; have a3 := i87a; unfold In at a3; have a4 := i87; unfold In at a4; have a5 := i98; unfold In at a5; have a6 := t_add e98 i87 (in_c 1 rfl) rfl; have a7 := (in_c 1 rfl); unfold In at a7; have oc := oc_409_109; omega
        have n81a : ALR (((sL sc81 191 y81_6.toNatClampNeg (Int64.ofInt 0))).2.1 191) (z98).toInt (fun _ : Nat => (0 : Int)) := by rw [sL_v]; exact alr_s g81_0 (show ((y81_6).toNatClampNeg : Int) = (y81_6).toInt from clx (by have a0 := j81_3; unfold In at a0; have a1 := j81_2; unfold In at a1; have a2 := j81_1; unfold In at a2; have a3 := i87a; unfold In at a3; have a4 := i87; unfold In at a4; have a5 := i98; unfold In at a5; have a6 := t_add e98 i87 (in_c 1 rfl) rfl; have a7 := (in_c 1 rfl); unfold In at a7; have oc := oc_409_109; omega)) rfl (by have a0 := j81_3; unfold In at a0; have a1 := j81_2; unfold In at a1; have a2 := j81_1; unfold In at a2; have a3 := i87a; unfold In at a3; have a4 := i87; unfold In at a4; have a5 := i98; unfold In at a5; have a6 := t_add e98 i87 (in_c 1 rfl) rfl; have a7 := (in_c 1 rfl); unfold In at a7; have oc := oc_409_109; omega)
        have n81b : (((sL sc81 191 y81_6.toNatClampNeg (Int64.ofInt 0))).2.2.1 109 0).toInt = 0 := by exact g81_1
        have n81c : ((sL sc81 191 y81_6.toNatClampNeg (Int64.ofInt 0))).2.2.1 109 113 = s.2.2.1 109 20 := by exact g81_2
        exact gg_w (by omega) (gg_f (gf_cons rfl (gf_cons rfl (gf_cons rfl (gf_cons rfl (gf_cons rfl (gf_cons rfl gf_nil)))))) (ih81 (sL sc81 191 y81_6.toNatClampNeg (Int64.ofInt 0)) z98 hI97 (fr_sL rfl hFc81) (in_w 0 200 j81_1 rfl) (in_w 1 4 j81_2 rfl) (in_w 0 90 j81_3 rfl) (in_w 0 32 i98 rfl) n81 n81a n81b n81c (m_up mm81 (t_add e98 i87 (in_c 1 rfl) rfl) (in_w 1 1 (in_c 1 rfl) rfl))))
  refine g_enter2 (k := 409) (N := 12934306) (by omega) rfl (Nat.le_of_ble_eq_true rfl) ?_
  refine g_aload_n 1 (gd rfl) rfl rfl ?_
  refine g_iload_n 2 (gd rfl) rfl rfl ?_
  refine g_i2l 3 (gd rfl) rfl (fun z2 e2 => ?_)
  have i2 := l_i e2 (i_rng x1)
  refine g_lconst 0 4 (gd rfl) rfl rfl ?_
  refine g_ldc2_w 200 7 (gd rfl) rfl rfl ?_
  refine g_calls (As := [.long z2, .long (Int64.ofInt 0), .long (Int64.ofInt 200)]) (r := [.ref (A 109)]) 10 (gd rfl) rfl rfl rfl rfl rfl (Nat.le_of_ble_eq_true rfl) (mc := 0) (ms := 0) (Nat.zero_le _) (Nat.zero_le _) (P := fun v u => _) ?_ (fun v u h => h)
  intro po7 xx7 hp7 hx7
  refine g_enter2 (k := 269) (N := 300) (by omega) rfl (Nat.le_of_ble_eq_true rfl) ?_
  refine g_lload_n 1 (gd rfl) rfl rfl ?_
  refine g_lload_n 2 (gd rfl) rfl rfl ?_
  refine g_lcmp 3 (gd rfl) rfl (fun z7x2 e7x2 => ?_)
  have i7x2 := lc_in e7x2
  refine g_if_lt 6 17 (gd rfl) rfl rfl (fun c7x3 => ?_) (fun c7x3 => ?_)
  · skip
    have i7x3 := z_lt (-1) (-1) c7x3 i7x2 rfl
    have c7x3a := lc_lt e7x2 c7x3
    have i7x3a := lr_lt1 (-2147483648) (-1) c7x3a i2 (l_c 0 rfl) rfl
    have i7x3b := l_b e2 i7x3a
    refine g_iconst 0 18 (gd rfl) rfl rfl ?_
    refine g_ireturn (gd rfl) rfl (nb01 (in_w 0 1 (in_c 0 rfl) rfl)) (hp7 _ _ ?_)
    show GG _ _ _ _ _ _ _ _ [.int (Int32.ofInt 0), .ref (A 109)] _ _ _
    refine g_if_eq 13 41 (gd rfl) rfl rfl (fun c10 => ?_) (fun c10 => ?_)
    · skip
      refine g_iconst 0 42 (gd rfl) rfl rfl ?_
      refine g_callv (X := _) (As := [.int (Int32.ofInt 0)]) (r := []) (b := A 109) (q := 109) 45 (gd rfl) rfl rfl rfl rfl rfl (ww_o rfl) (Nat.le_of_ble_eq_true rfl) (mc := 0) (ms := 0) (Nat.zero_le _) (Nat.zero_le _) (P := fun v u => _) ?_ (fun e u h => h) (fun v u h => h)
      intro po42 xx42 hp42 hx42
      refine g_enter2 (k := 271) (N := 300) (by omega) rfl (Nat.le_of_ble_eq_true rfl) ?_
      refine g_aload_n 1 (gd rfl) rfl rfl ?_
      refine g_iload_n 2 (gd rfl) rfl rfl ?_
      refine g_iconst 1 3 (gd rfl) rfl rfl ?_
      refine g_callv (X := _) (As := [.int (Int32.ofInt 0), .int (Int32.ofInt 1)]) (r := []) (b := A 109) (q := 109) 6 (gd rfl) rfl rfl rfl rfl rfl (ww_o rfl) (Nat.le_of_ble_eq_true rfl) (mc := 0) (ms := 0) (Nat.zero_le _) (Nat.zero_le _) (P := fun v u => _) ?_ (fun e u h => h) (fun v u h => h)
      intro po42x3 xx42x3 hp42x3 hx42x3
      refine g_enter2 (k := 270) (N := 300) (by omega) rfl (Nat.le_of_ble_eq_true rfl) ?_
      refine g_aload_n 1 (gd rfl) rfl rfl ?_
      refine g_iload_n 2 (gd rfl) rfl rfl ?_
      refine g_if_ne 5 9 (gd rfl) rfl rfl (fun c42x3x2 => ?_) (fun c42x3x2 => ?_)
      · skip
        exact zn_ne c42x3x2 (in_c 0 rfl) rfl
      · skip
        refine g_iconst 1 6 (gd rfl) rfl rfl ?_
        refine g_goto 18 (gd rfl) rfl ?_
        refine g_putI 21 (gd rfl) rfl rfl rfl rfl ?_
        have hI42x3x18 := inv_sF (q := 109) (j := 0) hI rfl (in_w 0 2 (in_c 1 rfl) rfl)
        refine g_aload_n 22 (gd rfl) rfl rfl ?_
        refine g_getI 25 (gd rfl) rfl rfl rfl (fun z42x3x22 e42x3x22 => ?_)
        have q42x3x22 : (Int32.ofInt 1) = z42x3x22 := (sF_get).trans e42x3x22.symm
        subst q42x3x22
        refine g_if_le 28 32 (gd rfl) rfl rfl (fun c42x3x25 => ?_) (fun c42x3x25 => ?_)
        · skip
          exact zn_le c42x3x25 (in_c 1 rfl) rfl
        · skip
          refine g_iconst 1 29 (gd rfl) rfl rfl ?_
          refine g_goto 33 (gd rfl) rfl ?_
          refine g_ireturn (gd rfl) rfl (nb01 (in_w 0 1 (in_c 1 rfl) rfl)) (hp42x3 _ _ ?_)
          show GG _ _ _ _ _ _ _ _ [.int (Int32.ofInt 1)] _ _ _
          refine g_ireturn (gd rfl) rfl (nb01 (in_w 0 1 (in_c 1 rfl) rfl)) (hp42 _ _ ?_)
          show GG _ _ _ _ _ _ _ _ [.int (Int32.ofInt 1)] _ _ _
          refine g_if_eq 48 50 (gd rfl) rfl rfl (fun c45 => ?_) (fun c45 => ?_)
          · skip
            exact zn_eq c45 (in_c 1 rfl) rfl
          · skip
            refine g_iconst 0 49 (gd rfl) rfl rfl ?_
            have n49 : RUR s (sF s 109 0 (Int32.ofInt 1)) (fun j => rcd (s.1 184 j).toInt (s.1 185 j).toInt) 113 x1 x2 x3 (Int32.ofInt 0) := by exact Or.inl ⟨rfl, fun h => by unfold RUP In at h; have a0 := ro_109_20; unfold In at a0; have a1 := i7x3b; unfold In at a1; have a2 := (in_c 1 rfl); unfold In at a2; have a3 := tx_i2l e2; have oc := oc_409_109; omega, rfl, rfl⟩
            exact g_ireturn (gd rfl) rfl rfl (hP _ _ ⟨(sF s 109 0 (Int32.ofInt 1)), hI42x3x18, (fr_sF rfl fr_rf), (Int32.ofInt 0), rfl, rfl, in_w 0 200 (in_c 0 rfl) rfl, n49⟩)
    · skip
      exact zn_ne c10 (in_c 0 rfl) rfl
  · skip
    have i7x3 := z_ge 0 1 c7x3 i7x2 rfl
    have c7x3a := lc_ge e7x2 c7x3
    have i7x3a := lr_le2 0 2147483647 c7x3a (l_c 0 rfl) i2 rfl
    have i7x3b := l_b e2 i7x3a
    refine g_lload_n 7 (gd rfl) rfl rfl ?_
    refine g_lload 9 (gd rfl) rfl rfl ?_
    refine g_lcmp 10 (gd rfl) rfl (fun z7x9 e7x9 => ?_)
    have i7x9 := lc_in e7x9
    refine g_if_gt 13 17 (gd rfl) rfl rfl (fun c7x10 => ?_) (fun c7x10 => ?_)
    · skip
      have i7x10 := z_gt 1 1 c7x10 i7x9 rfl
      have c7x10a := lc_gt e7x9 c7x10
      have i7x10a := lr_lt2 201 2147483647 c7x10a (l_c 200 rfl) i7x3a rfl
      have i7x10b := l_b e2 i7x10a
      refine g_iconst 0 18 (gd rfl) rfl rfl ?_
      refine g_ireturn (gd rfl) rfl (nb01 (in_w 0 1 (in_c 0 rfl) rfl)) (hp7 _ _ ?_)
      show GG _ _ _ _ _ _ _ _ [.int (Int32.ofInt 0), .ref (A 109)] _ _ _
      refine g_if_eq 13 41 (gd rfl) rfl rfl (fun c10 => ?_) (fun c10 => ?_)
      · skip
        refine g_iconst 0 42 (gd rfl) rfl rfl ?_
        refine g_callv (X := _) (As := [.int (Int32.ofInt 0)]) (r := []) (b := A 109) (q := 109) 45 (gd rfl) rfl rfl rfl rfl rfl (ww_o rfl) (Nat.le_of_ble_eq_true rfl) (mc := 0) (ms := 0) (Nat.zero_le _) (Nat.zero_le _) (P := fun v u => _) ?_ (fun e u h => h) (fun v u h => h)
        intro po42 xx42 hp42 hx42
        refine g_enter2 (k := 271) (N := 300) (by omega) rfl (Nat.le_of_ble_eq_true rfl) ?_
        refine g_aload_n 1 (gd rfl) rfl rfl ?_
        refine g_iload_n 2 (gd rfl) rfl rfl ?_
        refine g_iconst 1 3 (gd rfl) rfl rfl ?_
        refine g_callv (X := _) (As := [.int (Int32.ofInt 0), .int (Int32.ofInt 1)]) (r := []) (b := A 109) (q := 109) 6 (gd rfl) rfl rfl rfl rfl rfl (ww_o rfl) (Nat.le_of_ble_eq_true rfl) (mc := 0) (ms := 0) (Nat.zero_le _) (Nat.zero_le _) (P := fun v u => _) ?_ (fun e u h => h) (fun v u h => h)
        intro po42x3 xx42x3 hp42x3 hx42x3
        refine g_enter2 (k := 270) (N := 300) (by omega) rfl (Nat.le_of_ble_eq_true rfl) ?_
        refine g_aload_n 1 (gd rfl) rfl rfl ?_
        refine g_iload_n 2 (gd rfl) rfl rfl ?_
        refine g_if_ne 5 9 (gd rfl) rfl rfl (fun c42x3x2 => ?_) (fun c42x3x2 => ?_)
        · skip
          exact zn_ne c42x3x2 (in_c 0 rfl) rfl
        · skip
          refine g_iconst 1 6 (gd rfl) rfl rfl ?_
          refine g_goto 18 (gd rfl) rfl ?_
          refine g_putI 21 (gd rfl) rfl rfl rfl rfl ?_
          have hI42x3x18 := inv_sF (q := 109) (j := 0) hI rfl (in_w 0 2 (in_c 1 rfl) rfl)
          refine g_aload_n 22 (gd rfl) rfl rfl ?_
          refine g_getI 25 (gd rfl) rfl rfl rfl (fun z42x3x22 e42x3x22 => ?_)
          have q42x3x22 : (Int32.ofInt 1) = z42x3x22 := (sF_get).trans e42x3x22.symm
          subst q42x3x22
          refine g_if_le 28 32 (gd rfl) rfl rfl (fun c42x3x25 => ?_) (fun c42x3x25 => ?_)
          · skip
            exact zn_le c42x3x25 (in_c 1 rfl) rfl
          · skip
            refine g_iconst 1 29 (gd rfl) rfl rfl ?_
            refine g_goto 33 (gd rfl) rfl ?_
            refine g_ireturn (gd rfl) rfl (nb01 (in_w 0 1 (in_c 1 rfl) rfl)) (hp42x3 _ _ ?_)
            show GG _ _ _ _ _ _ _ _ [.int (Int32.ofInt 1)] _ _ _
            refine g_ireturn (gd rfl) rfl (nb01 (in_w 0 1 (in_c 1 rfl) rfl)) (hp42 _ _ ?_)
            show GG _ _ _ _ _ _ _ _ [.int (Int32.ofInt 1)] _ _ _
            refine g_if_eq 48 50 (gd rfl) rfl rfl (fun c45 => ?_) (fun c45 => ?_)
            · skip
              exact zn_eq c45 (in_c 1 rfl) rfl
            · skip
              refine g_iconst 0 49 (gd rfl) rfl rfl ?_
              have n49 : RUR s (sF s 109 0 (Int32.ofInt 1)) (fun j => rcd (s.1 184 j).toInt (s.1 185 j).toInt) 113 x1 x2 x3 (Int32.ofInt 0) := by exact Or.inl ⟨rfl, fun h => by unfold RUP In at h; have a0 := ro_109_20; unfold In at a0; have a1 := i7x10b; unfold In at a1; have a2 := (in_c 1 rfl); unfold In at a2; have a3 := tx_i2l e2; have oc := oc_409_109; omega, rfl, rfl⟩
              exact g_ireturn (gd rfl) rfl rfl (hP _ _ ⟨(sF s 109 0 (Int32.ofInt 1)), hI42x3x18, (fr_sF rfl fr_rf), (Int32.ofInt 0), rfl, rfl, in_w 0 200 (in_c 0 rfl) rfl, n49⟩)
      · skip
        exact zn_ne c10 (in_c 0 rfl) rfl
    · skip
      have i7x10 := z_le (-1) 0 c7x10 i7x9 rfl
      have c7x10a := lc_le e7x9 c7x10
      have i7x10a := lr_le1 0 200 c7x10a i7x3a (l_c 200 rfl) rfl
      have i7x10b := l_b e2 i7x10a
      refine g_iconst 1 14 (gd rfl) rfl rfl ?_
      refine g_goto 18 (gd rfl) rfl ?_
      refine g_ireturn (gd rfl) rfl (nb01 (in_w 0 1 (in_c 1 rfl) rfl)) (hp7 _ _ ?_)
      show GG _ _ _ _ _ _ _ _ [.int (Int32.ofInt 1), .ref (A 109)] _ _ _
      refine g_if_eq 13 41 (gd rfl) rfl rfl (fun c10 => ?_) (fun c10 => ?_)
      · skip
        exact zn_eq c10 (in_c 1 rfl) rfl
      · skip
        refine g_iload_n 14 (gd rfl) rfl rfl ?_
        refine g_i2l 15 (gd rfl) rfl (fun z14 e14 => ?_)
        have i14 := l_i e14 (i_rng x2)
        refine g_lconst 1 16 (gd rfl) rfl rfl ?_
        refine g_ldc2_w 4 19 (gd rfl) rfl rfl ?_
        refine g_calls (As := [.long z14, .long (Int64.ofInt 1), .long (Int64.ofInt 4)]) (r := [.ref (A 109)]) 22 (gd rfl) rfl rfl rfl rfl rfl (Nat.le_of_ble_eq_true rfl) (mc := 0) (ms := 0) (Nat.zero_le _) (Nat.zero_le _) (P := fun v u => _) ?_ (fun v u h => h)
        intro po19 xx19 hp19 hx19
        refine g_enter2 (k := 269) (N := 300) (by omega) rfl (Nat.le_of_ble_eq_true rfl) ?_
        refine g_lload_n 1 (gd rfl) rfl rfl ?_
        refine g_lload_n 2 (gd rfl) rfl rfl ?_
        refine g_lcmp 3 (gd rfl) rfl (fun z19x2 e19x2 => ?_)
        have i19x2 := lc_in e19x2
        refine g_if_lt 6 17 (gd rfl) rfl rfl (fun c19x3 => ?_) (fun c19x3 => ?_)
        · skip
          have i19x3 := z_lt (-1) (-1) c19x3 i19x2 rfl
          have c19x3a := lc_lt e19x2 c19x3
          have i19x3a := lr_lt1 (-2147483648) 0 c19x3a i14 (l_c 1 rfl) rfl
          have i19x3b := l_b e14 i19x3a
          refine g_iconst 0 18 (gd rfl) rfl rfl ?_
          refine g_ireturn (gd rfl) rfl (nb01 (in_w 0 1 (in_c 0 rfl) rfl)) (hp19 _ _ ?_)
          show GG _ _ _ _ _ _ _ _ [.int (Int32.ofInt 0), .ref (A 109)] _ _ _
          refine g_if_eq 25 41 (gd rfl) rfl rfl (fun c22 => ?_) (fun c22 => ?_)
          · skip
            refine g_iconst 0 42 (gd rfl) rfl rfl ?_
            refine g_callv (X := _) (As := [.int (Int32.ofInt 0)]) (r := []) (b := A 109) (q := 109) 45 (gd rfl) rfl rfl rfl rfl rfl (ww_o rfl) (Nat.le_of_ble_eq_true rfl) (mc := 0) (ms := 0) (Nat.zero_le _) (Nat.zero_le _) (P := fun v u => _) ?_ (fun e u h => h) (fun v u h => h)
            intro po42 xx42 hp42 hx42
            refine g_enter2 (k := 271) (N := 300) (by omega) rfl (Nat.le_of_ble_eq_true rfl) ?_
            refine g_aload_n 1 (gd rfl) rfl rfl ?_
            refine g_iload_n 2 (gd rfl) rfl rfl ?_
            refine g_iconst 1 3 (gd rfl) rfl rfl ?_
            refine g_callv (X := _) (As := [.int (Int32.ofInt 0), .int (Int32.ofInt 1)]) (r := []) (b := A 109) (q := 109) 6 (gd rfl) rfl rfl rfl rfl rfl (ww_o rfl) (Nat.le_of_ble_eq_true rfl) (mc := 0) (ms := 0) (Nat.zero_le _) (Nat.zero_le _) (P := fun v u => _) ?_ (fun e u h => h) (fun v u h => h)
            intro po42x3 xx42x3 hp42x3 hx42x3
            refine g_enter2 (k := 270) (N := 300) (by omega) rfl (Nat.le_of_ble_eq_true rfl) ?_
            refine g_aload_n 1 (gd rfl) rfl rfl ?_
            refine g_iload_n 2 (gd rfl) rfl rfl ?_
            refine g_if_ne 5 9 (gd rfl) rfl rfl (fun c42x3x2 => ?_) (fun c42x3x2 => ?_)
            · skip
              exact zn_ne c42x3x2 (in_c 0 rfl) rfl
            · skip
              refine g_iconst 1 6 (gd rfl) rfl rfl ?_
              refine g_goto 18 (gd rfl) rfl ?_
              refine g_putI 21 (gd rfl) rfl rfl rfl rfl ?_
              have hI42x3x18 := inv_sF (q := 109) (j := 0) hI rfl (in_w 0 2 (in_c 1 rfl) rfl)
              refine g_aload_n 22 (gd rfl) rfl rfl ?_
              refine g_getI 25 (gd rfl) rfl rfl rfl (fun z42x3x22 e42x3x22 => ?_)
              have q42x3x22 : (Int32.ofInt 1) = z42x3x22 := (sF_get).trans e42x3x22.symm
              subst q42x3x22
              refine g_if_le 28 32 (gd rfl) rfl rfl (fun c42x3x25 => ?_) (fun c42x3x25 => ?_)
              · skip
                exact zn_le c42x3x25 (in_c 1 rfl) rfl
              · skip
                refine g_iconst 1 29 (gd rfl) rfl rfl ?_
                refine g_goto 33 (gd rfl) rfl ?_
                refine g_ireturn (gd rfl) rfl (nb01 (in_w 0 1 (in_c 1 rfl) rfl)) (hp42x3 _ _ ?_)
                show GG _ _ _ _ _ _ _ _ [.int (Int32.ofInt 1)] _ _ _
                refine g_ireturn (gd rfl) rfl (nb01 (in_w 0 1 (in_c 1 rfl) rfl)) (hp42 _ _ ?_)
                show GG _ _ _ _ _ _ _ _ [.int (Int32.ofInt 1)] _ _ _
                refine g_if_eq 48 50 (gd rfl) rfl rfl (fun c45 => ?_) (fun c45 => ?_)
                · skip
                  exact zn_eq c45 (in_c 1 rfl) rfl
                · skip
                  refine g_iconst 0 49 (gd rfl) rfl rfl ?_
                  have n49 : RUR s (sF s 109 0 (Int32.ofInt 1)) (fun j => rcd (s.1 184 j).toInt (s.1 185 j).toInt) 113 x1 x2 x3 (Int32.ofInt 0) := by exact Or.inl ⟨rfl, fun h => by unfold RUP In at h; have a0 := i7x10b; unfold In at a0; have a1 := ro_109_20; unfold In at a1; have a2 := i19x3b; unfold In at a2; have a3 := (in_c 1 rfl); unfold In at a3; have a4 := tx_i2l e14; have a5 := tx_i2l e2; have oc := oc_409_109; omega, rfl, rfl⟩
                  exact g_ireturn (gd rfl) rfl rfl (hP _ _ ⟨(sF s 109 0 (Int32.ofInt 1)), hI42x3x18, (fr_sF rfl fr_rf), (Int32.ofInt 0), rfl, rfl, in_w 0 200 (in_c 0 rfl) rfl, n49⟩)
          · skip
            exact zn_ne c22 (in_c 0 rfl) rfl
        · skip
          have i19x3 := z_ge 0 1 c19x3 i19x2 rfl
          have c19x3a := lc_ge e19x2 c19x3
          have i19x3a := lr_le2 1 2147483647 c19x3a (l_c 1 rfl) i14 rfl
          have i19x3b := l_b e14 i19x3a
          refine g_lload_n 7 (gd rfl) rfl rfl ?_
          refine g_lload 9 (gd rfl) rfl rfl ?_
          refine g_lcmp 10 (gd rfl) rfl (fun z19x9 e19x9 => ?_)
          have i19x9 := lc_in e19x9
          refine g_if_gt 13 17 (gd rfl) rfl rfl (fun c19x10 => ?_) (fun c19x10 => ?_)
          · skip
            have i19x10 := z_gt 1 1 c19x10 i19x9 rfl
            have c19x10a := lc_gt e19x9 c19x10
            have i19x10a := lr_lt2 5 2147483647 c19x10a (l_c 4 rfl) i19x3a rfl
            have i19x10b := l_b e14 i19x10a
            refine g_iconst 0 18 (gd rfl) rfl rfl ?_
            refine g_ireturn (gd rfl) rfl (nb01 (in_w 0 1 (in_c 0 rfl) rfl)) (hp19 _ _ ?_)
            show GG _ _ _ _ _ _ _ _ [.int (Int32.ofInt 0), .ref (A 109)] _ _ _
            refine g_if_eq 25 41 (gd rfl) rfl rfl (fun c22 => ?_) (fun c22 => ?_)
            · skip
              refine g_iconst 0 42 (gd rfl) rfl rfl ?_
              refine g_callv (X := _) (As := [.int (Int32.ofInt 0)]) (r := []) (b := A 109) (q := 109) 45 (gd rfl) rfl rfl rfl rfl rfl (ww_o rfl) (Nat.le_of_ble_eq_true rfl) (mc := 0) (ms := 0) (Nat.zero_le _) (Nat.zero_le _) (P := fun v u => _) ?_ (fun e u h => h) (fun v u h => h)
              intro po42 xx42 hp42 hx42
              refine g_enter2 (k := 271) (N := 300) (by omega) rfl (Nat.le_of_ble_eq_true rfl) ?_
              refine g_aload_n 1 (gd rfl) rfl rfl ?_
              refine g_iload_n 2 (gd rfl) rfl rfl ?_
              refine g_iconst 1 3 (gd rfl) rfl rfl ?_
              refine g_callv (X := _) (As := [.int (Int32.ofInt 0), .int (Int32.ofInt 1)]) (r := []) (b := A 109) (q := 109) 6 (gd rfl) rfl rfl rfl rfl rfl (ww_o rfl) (Nat.le_of_ble_eq_true rfl) (mc := 0) (ms := 0) (Nat.zero_le _) (Nat.zero_le _) (P := fun v u => _) ?_ (fun e u h => h) (fun v u h => h)
              intro po42x3 xx42x3 hp42x3 hx42x3
              refine g_enter2 (k := 270) (N := 300) (by omega) rfl (Nat.le_of_ble_eq_true rfl) ?_
              refine g_aload_n 1 (gd rfl) rfl rfl ?_
              refine g_iload_n 2 (gd rfl) rfl rfl ?_
              refine g_if_ne 5 9 (gd rfl) rfl rfl (fun c42x3x2 => ?_) (fun c42x3x2 => ?_)
              · skip
                exact zn_ne c42x3x2 (in_c 0 rfl) rfl
              · skip
                refine g_iconst 1 6 (gd rfl) rfl rfl ?_
                refine g_goto 18 (gd rfl) rfl ?_
                refine g_putI 21 (gd rfl) rfl rfl rfl rfl ?_
                have hI42x3x18 := inv_sF (q := 109) (j := 0) hI rfl (in_w 0 2 (in_c 1 rfl) rfl)
                refine g_aload_n 22 (gd rfl) rfl rfl ?_
                refine g_getI 25 (gd rfl) rfl rfl rfl (fun z42x3x22 e42x3x22 => ?_)
                have q42x3x22 : (Int32.ofInt 1) = z42x3x22 := (sF_get).trans e42x3x22.symm
                subst q42x3x22
                refine g_if_le 28 32 (gd rfl) rfl rfl (fun c42x3x25 => ?_) (fun c42x3x25 => ?_)
                · skip
                  exact zn_le c42x3x25 (in_c 1 rfl) rfl
                · skip
                  refine g_iconst 1 29 (gd rfl) rfl rfl ?_
                  refine g_goto 33 (gd rfl) rfl ?_
                  refine g_ireturn (gd rfl) rfl (nb01 (in_w 0 1 (in_c 1 rfl) rfl)) (hp42x3 _ _ ?_)
                  show GG _ _ _ _ _ _ _ _ [.int (Int32.ofInt 1)] _ _ _
                  refine g_ireturn (gd rfl) rfl (nb01 (in_w 0 1 (in_c 1 rfl) rfl)) (hp42 _ _ ?_)
                  show GG _ _ _ _ _ _ _ _ [.int (Int32.ofInt 1)] _ _ _
                  refine g_if_eq 48 50 (gd rfl) rfl rfl (fun c45 => ?_) (fun c45 => ?_)
                  · skip
                    exact zn_eq c45 (in_c 1 rfl) rfl
                  · skip
                    refine g_iconst 0 49 (gd rfl) rfl rfl ?_
                    have n49 : RUR s (sF s 109 0 (Int32.ofInt 1)) (fun j => rcd (s.1 184 j).toInt (s.1 185 j).toInt) 113 x1 x2 x3 (Int32.ofInt 0) := by exact Or.inl ⟨rfl, fun h => by unfold RUP In at h; have a0 := i7x10b; unfold In at a0; have a1 := ro_109_20; unfold In at a1; have a2 := i19x10b; unfold In at a2; have a3 := (in_c 1 rfl); unfold In at a3; have a4 := tx_i2l e14; have a5 := tx_i2l e2; have oc := oc_409_109; omega, rfl, rfl⟩
                    exact g_ireturn (gd rfl) rfl rfl (hP _ _ ⟨(sF s 109 0 (Int32.ofInt 1)), hI42x3x18, (fr_sF rfl fr_rf), (Int32.ofInt 0), rfl, rfl, in_w 0 200 (in_c 0 rfl) rfl, n49⟩)
            · skip
              exact zn_ne c22 (in_c 0 rfl) rfl
          · skip
            have i19x10 := z_le (-1) 0 c19x10 i19x9 rfl
            have c19x10a := lc_le e19x9 c19x10
            have i19x10a := lr_le1 1 4 c19x10a i19x3a (l_c 4 rfl) rfl
            have i19x10b := l_b e14 i19x10a
            refine g_iconst 1 14 (gd rfl) rfl rfl ?_
            refine g_goto 18 (gd rfl) rfl ?_
            refine g_ireturn (gd rfl) rfl (nb01 (in_w 0 1 (in_c 1 rfl) rfl)) (hp19 _ _ ?_)
            show GG _ _ _ _ _ _ _ _ [.int (Int32.ofInt 1), .ref (A 109)] _ _ _
            refine g_if_eq 25 41 (gd rfl) rfl rfl (fun c22 => ?_) (fun c22 => ?_)
            · skip
              exact zn_eq c22 (in_c 1 rfl) rfl
            · skip
              refine g_iload_n 26 (gd rfl) rfl rfl ?_
              refine g_i2l 27 (gd rfl) rfl (fun z26 e26 => ?_)
              have i26 := l_i e26 (i_rng x3)
              refine g_lconst 0 28 (gd rfl) rfl rfl ?_
              refine g_ldc2_w 90 31 (gd rfl) rfl rfl ?_
              refine g_calls (As := [.long z26, .long (Int64.ofInt 0), .long (Int64.ofInt 90)]) (r := [.ref (A 109)]) 34 (gd rfl) rfl rfl rfl rfl rfl (Nat.le_of_ble_eq_true rfl) (mc := 0) (ms := 0) (Nat.zero_le _) (Nat.zero_le _) (P := fun v u => _) ?_ (fun v u h => h)
              intro po31 xx31 hp31 hx31
              refine g_enter2 (k := 269) (N := 300) (by omega) rfl (Nat.le_of_ble_eq_true rfl) ?_
              refine g_lload_n 1 (gd rfl) rfl rfl ?_
              refine g_lload_n 2 (gd rfl) rfl rfl ?_
              refine g_lcmp 3 (gd rfl) rfl (fun z31x2 e31x2 => ?_)
              have i31x2 := lc_in e31x2
              refine g_if_lt 6 17 (gd rfl) rfl rfl (fun c31x3 => ?_) (fun c31x3 => ?_)
              · skip
                have i31x3 := z_lt (-1) (-1) c31x3 i31x2 rfl
                have c31x3a := lc_lt e31x2 c31x3
                have i31x3a := lr_lt1 (-2147483648) (-1) c31x3a i26 (l_c 0 rfl) rfl
                have i31x3b := l_b e26 i31x3a
                refine g_iconst 0 18 (gd rfl) rfl rfl ?_
                refine g_ireturn (gd rfl) rfl (nb01 (in_w 0 1 (in_c 0 rfl) rfl)) (hp31 _ _ ?_)
                show GG _ _ _ _ _ _ _ _ [.int (Int32.ofInt 0), .ref (A 109)] _ _ _
                refine g_if_eq 37 41 (gd rfl) rfl rfl (fun c34 => ?_) (fun c34 => ?_)
                · skip
                  refine g_iconst 0 42 (gd rfl) rfl rfl ?_
                  refine g_callv (X := _) (As := [.int (Int32.ofInt 0)]) (r := []) (b := A 109) (q := 109) 45 (gd rfl) rfl rfl rfl rfl rfl (ww_o rfl) (Nat.le_of_ble_eq_true rfl) (mc := 0) (ms := 0) (Nat.zero_le _) (Nat.zero_le _) (P := fun v u => _) ?_ (fun e u h => h) (fun v u h => h)
                  intro po42 xx42 hp42 hx42
                  refine g_enter2 (k := 271) (N := 300) (by omega) rfl (Nat.le_of_ble_eq_true rfl) ?_
                  refine g_aload_n 1 (gd rfl) rfl rfl ?_
                  refine g_iload_n 2 (gd rfl) rfl rfl ?_
                  refine g_iconst 1 3 (gd rfl) rfl rfl ?_
                  refine g_callv (X := _) (As := [.int (Int32.ofInt 0), .int (Int32.ofInt 1)]) (r := []) (b := A 109) (q := 109) 6 (gd rfl) rfl rfl rfl rfl rfl (ww_o rfl) (Nat.le_of_ble_eq_true rfl) (mc := 0) (ms := 0) (Nat.zero_le _) (Nat.zero_le _) (P := fun v u => _) ?_ (fun e u h => h) (fun v u h => h)
                  intro po42x3 xx42x3 hp42x3 hx42x3
                  refine g_enter2 (k := 270) (N := 300) (by omega) rfl (Nat.le_of_ble_eq_true rfl) ?_
                  refine g_aload_n 1 (gd rfl) rfl rfl ?_
                  refine g_iload_n 2 (gd rfl) rfl rfl ?_
                  refine g_if_ne 5 9 (gd rfl) rfl rfl (fun c42x3x2 => ?_) (fun c42x3x2 => ?_)
                  · skip
                    exact zn_ne c42x3x2 (in_c 0 rfl) rfl
                  · skip
                    refine g_iconst 1 6 (gd rfl) rfl rfl ?_
                    refine g_goto 18 (gd rfl) rfl ?_
                    refine g_putI 21 (gd rfl) rfl rfl rfl rfl ?_
                    have hI42x3x18 := inv_sF (q := 109) (j := 0) hI rfl (in_w 0 2 (in_c 1 rfl) rfl)
                    refine g_aload_n 22 (gd rfl) rfl rfl ?_
                    refine g_getI 25 (gd rfl) rfl rfl rfl (fun z42x3x22 e42x3x22 => ?_)
                    have q42x3x22 : (Int32.ofInt 1) = z42x3x22 := (sF_get).trans e42x3x22.symm
                    subst q42x3x22
                    refine g_if_le 28 32 (gd rfl) rfl rfl (fun c42x3x25 => ?_) (fun c42x3x25 => ?_)
                    · skip
                      exact zn_le c42x3x25 (in_c 1 rfl) rfl
                    · skip
                      refine g_iconst 1 29 (gd rfl) rfl rfl ?_
                      refine g_goto 33 (gd rfl) rfl ?_
                      refine g_ireturn (gd rfl) rfl (nb01 (in_w 0 1 (in_c 1 rfl) rfl)) (hp42x3 _ _ ?_)
                      show GG _ _ _ _ _ _ _ _ [.int (Int32.ofInt 1)] _ _ _
                      refine g_ireturn (gd rfl) rfl (nb01 (in_w 0 1 (in_c 1 rfl) rfl)) (hp42 _ _ ?_)
                      show GG _ _ _ _ _ _ _ _ [.int (Int32.ofInt 1)] _ _ _
                      refine g_if_eq 48 50 (gd rfl) rfl rfl (fun c45 => ?_) (fun c45 => ?_)
                      · skip
                        exact zn_eq c45 (in_c 1 rfl) rfl
                      · skip
                        refine g_iconst 0 49 (gd rfl) rfl rfl ?_
                        have n49 : RUR s (sF s 109 0 (Int32.ofInt 1)) (fun j => rcd (s.1 184 j).toInt (s.1 185 j).toInt) 113 x1 x2 x3 (Int32.ofInt 0) := by exact Or.inl ⟨rfl, fun h => by unfold RUP In at h; have a0 := i19x10b; unfold In at a0; have a1 := i7x10b; unfold In at a1; have a2 := ro_109_20; unfold In at a2; have a3 := i31x3b; unfold In at a3; have a4 := (in_c 1 rfl); unfold In at a4; have a5 := tx_i2l e26; have a6 := tx_i2l e14; have a7 := tx_i2l e2; have oc := oc_409_109; omega, rfl, rfl⟩
                        exact g_ireturn (gd rfl) rfl rfl (hP _ _ ⟨(sF s 109 0 (Int32.ofInt 1)), hI42x3x18, (fr_sF rfl fr_rf), (Int32.ofInt 0), rfl, rfl, in_w 0 200 (in_c 0 rfl) rfl, n49⟩)
                · skip
                  exact zn_ne c34 (in_c 0 rfl) rfl
              · skip
                have i31x3 := z_ge 0 1 c31x3 i31x2 rfl
                have c31x3a := lc_ge e31x2 c31x3
                have i31x3a := lr_le2 0 2147483647 c31x3a (l_c 0 rfl) i26 rfl
                have i31x3b := l_b e26 i31x3a
                refine g_lload_n 7 (gd rfl) rfl rfl ?_
                refine g_lload 9 (gd rfl) rfl rfl ?_
                refine g_lcmp 10 (gd rfl) rfl (fun z31x9 e31x9 => ?_)
                have i31x9 := lc_in e31x9
                refine g_if_gt 13 17 (gd rfl) rfl rfl (fun c31x10 => ?_) (fun c31x10 => ?_)
                · skip
                  have i31x10 := z_gt 1 1 c31x10 i31x9 rfl
                  have c31x10a := lc_gt e31x9 c31x10
                  have i31x10a := lr_lt2 91 2147483647 c31x10a (l_c 90 rfl) i31x3a rfl
                  have i31x10b := l_b e26 i31x10a
                  refine g_iconst 0 18 (gd rfl) rfl rfl ?_
                  refine g_ireturn (gd rfl) rfl (nb01 (in_w 0 1 (in_c 0 rfl) rfl)) (hp31 _ _ ?_)
                  show GG _ _ _ _ _ _ _ _ [.int (Int32.ofInt 0), .ref (A 109)] _ _ _
                  refine g_if_eq 37 41 (gd rfl) rfl rfl (fun c34 => ?_) (fun c34 => ?_)
                  · skip
                    refine g_iconst 0 42 (gd rfl) rfl rfl ?_
                    refine g_callv (X := _) (As := [.int (Int32.ofInt 0)]) (r := []) (b := A 109) (q := 109) 45 (gd rfl) rfl rfl rfl rfl rfl (ww_o rfl) (Nat.le_of_ble_eq_true rfl) (mc := 0) (ms := 0) (Nat.zero_le _) (Nat.zero_le _) (P := fun v u => _) ?_ (fun e u h => h) (fun v u h => h)
                    intro po42 xx42 hp42 hx42
                    refine g_enter2 (k := 271) (N := 300) (by omega) rfl (Nat.le_of_ble_eq_true rfl) ?_
                    refine g_aload_n 1 (gd rfl) rfl rfl ?_
                    refine g_iload_n 2 (gd rfl) rfl rfl ?_
                    refine g_iconst 1 3 (gd rfl) rfl rfl ?_
                    refine g_callv (X := _) (As := [.int (Int32.ofInt 0), .int (Int32.ofInt 1)]) (r := []) (b := A 109) (q := 109) 6 (gd rfl) rfl rfl rfl rfl rfl (ww_o rfl) (Nat.le_of_ble_eq_true rfl) (mc := 0) (ms := 0) (Nat.zero_le _) (Nat.zero_le _) (P := fun v u => _) ?_ (fun e u h => h) (fun v u h => h)
                    intro po42x3 xx42x3 hp42x3 hx42x3
                    refine g_enter2 (k := 270) (N := 300) (by omega) rfl (Nat.le_of_ble_eq_true rfl) ?_
                    refine g_aload_n 1 (gd rfl) rfl rfl ?_
                    refine g_iload_n 2 (gd rfl) rfl rfl ?_
                    refine g_if_ne 5 9 (gd rfl) rfl rfl (fun c42x3x2 => ?_) (fun c42x3x2 => ?_)
                    · skip
                      exact zn_ne c42x3x2 (in_c 0 rfl) rfl
                    · skip
                      refine g_iconst 1 6 (gd rfl) rfl rfl ?_
                      refine g_goto 18 (gd rfl) rfl ?_
                      refine g_putI 21 (gd rfl) rfl rfl rfl rfl ?_
                      have hI42x3x18 := inv_sF (q := 109) (j := 0) hI rfl (in_w 0 2 (in_c 1 rfl) rfl)
                      refine g_aload_n 22 (gd rfl) rfl rfl ?_
                      refine g_getI 25 (gd rfl) rfl rfl rfl (fun z42x3x22 e42x3x22 => ?_)
                      have q42x3x22 : (Int32.ofInt 1) = z42x3x22 := (sF_get).trans e42x3x22.symm
                      subst q42x3x22
                      refine g_if_le 28 32 (gd rfl) rfl rfl (fun c42x3x25 => ?_) (fun c42x3x25 => ?_)
                      · skip
                        exact zn_le c42x3x25 (in_c 1 rfl) rfl
                      · skip
                        refine g_iconst 1 29 (gd rfl) rfl rfl ?_
                        refine g_goto 33 (gd rfl) rfl ?_
                        refine g_ireturn (gd rfl) rfl (nb01 (in_w 0 1 (in_c 1 rfl) rfl)) (hp42x3 _ _ ?_)
                        show GG _ _ _ _ _ _ _ _ [.int (Int32.ofInt 1)] _ _ _
                        refine g_ireturn (gd rfl) rfl (nb01 (in_w 0 1 (in_c 1 rfl) rfl)) (hp42 _ _ ?_)
                        show GG _ _ _ _ _ _ _ _ [.int (Int32.ofInt 1)] _ _ _
                        refine g_if_eq 48 50 (gd rfl) rfl rfl (fun c45 => ?_) (fun c45 => ?_)
                        · skip
                          exact zn_eq c45 (in_c 1 rfl) rfl
                        · skip
                          refine g_iconst 0 49 (gd rfl) rfl rfl ?_
                          have n49 : RUR s (sF s 109 0 (Int32.ofInt 1)) (fun j => rcd (s.1 184 j).toInt (s.1 185 j).toInt) 113 x1 x2 x3 (Int32.ofInt 0) := by exact Or.inl ⟨rfl, fun h => by unfold RUP In at h; have a0 := i19x10b; unfold In at a0; have a1 := i7x10b; unfold In at a1; have a2 := ro_109_20; unfold In at a2; have a3 := i31x10b; unfold In at a3; have a4 := (in_c 1 rfl); unfold In at a4; have a5 := tx_i2l e26; have a6 := tx_i2l e14; have a7 := tx_i2l e2; have oc := oc_409_109; omega, rfl, rfl⟩
                          exact g_ireturn (gd rfl) rfl rfl (hP _ _ ⟨(sF s 109 0 (Int32.ofInt 1)), hI42x3x18, (fr_sF rfl fr_rf), (Int32.ofInt 0), rfl, rfl, in_w 0 200 (in_c 0 rfl) rfl, n49⟩)
                  · skip
                    exact zn_ne c34 (in_c 0 rfl) rfl
                · skip
                  have i31x10 := z_le (-1) 0 c31x10 i31x9 rfl
                  have c31x10a := lc_le e31x9 c31x10
                  have i31x10a := lr_le1 0 90 c31x10a i31x3a (l_c 90 rfl) rfl
                  have i31x10b := l_b e26 i31x10a
                  refine g_iconst 1 14 (gd rfl) rfl rfl ?_
                  refine g_goto 18 (gd rfl) rfl ?_
                  refine g_ireturn (gd rfl) rfl (nb01 (in_w 0 1 (in_c 1 rfl) rfl)) (hp31 _ _ ?_)
                  show GG _ _ _ _ _ _ _ _ [.int (Int32.ofInt 1), .ref (A 109)] _ _ _
                  refine g_if_eq 37 41 (gd rfl) rfl rfl (fun c34 => ?_) (fun c34 => ?_)
                  · skip
                    exact zn_eq c34 (in_c 1 rfl) rfl
                  · skip
                    refine g_iconst 1 38 (gd rfl) rfl rfl ?_
                    refine g_goto 42 (gd rfl) rfl ?_
                    refine g_callv (X := _) (As := [.int (Int32.ofInt 1)]) (r := []) (b := A 109) (q := 109) 45 (gd rfl) rfl rfl rfl rfl rfl (ww_o rfl) (Nat.le_of_ble_eq_true rfl) (mc := 0) (ms := 0) (Nat.zero_le _) (Nat.zero_le _) (P := fun v u => _) ?_ (fun e u h => h) (fun v u h => h)
                    intro po42 xx42 hp42 hx42
                    refine g_enter2 (k := 271) (N := 300) (by omega) rfl (Nat.le_of_ble_eq_true rfl) ?_
                    refine g_aload_n 1 (gd rfl) rfl rfl ?_
                    refine g_iload_n 2 (gd rfl) rfl rfl ?_
                    refine g_iconst 1 3 (gd rfl) rfl rfl ?_
                    refine g_callv (X := _) (As := [.int (Int32.ofInt 1), .int (Int32.ofInt 1)]) (r := []) (b := A 109) (q := 109) 6 (gd rfl) rfl rfl rfl rfl rfl (ww_o rfl) (Nat.le_of_ble_eq_true rfl) (mc := 0) (ms := 0) (Nat.zero_le _) (Nat.zero_le _) (P := fun v u => _) ?_ (fun e u h => h) (fun v u h => h)
                    intro po42x3 xx42x3 hp42x3 hx42x3
                    refine g_enter2 (k := 270) (N := 300) (by omega) rfl (Nat.le_of_ble_eq_true rfl) ?_
                    refine g_aload_n 1 (gd rfl) rfl rfl ?_
                    refine g_iload_n 2 (gd rfl) rfl rfl ?_
                    refine g_if_ne 5 9 (gd rfl) rfl rfl (fun c42x3x2 => ?_) (fun c42x3x2 => ?_)
                    · skip
                      refine g_iload_n 10 (gd rfl) rfl rfl ?_
                      refine g_if_ne 13 17 (gd rfl) rfl rfl (fun c42x3x10 => ?_) (fun c42x3x10 => ?_)
                      · skip
                        refine g_iconst 0 18 (gd rfl) rfl rfl ?_
                        refine g_putI 21 (gd rfl) rfl rfl rfl rfl ?_
                        have hI42x3x18 := inv_sF (q := 109) (j := 0) hI rfl (in_w 0 2 (in_c 0 rfl) rfl)
                        refine g_aload_n 22 (gd rfl) rfl rfl ?_
                        refine g_getI 25 (gd rfl) rfl rfl rfl (fun z42x3x22 e42x3x22 => ?_)
                        have q42x3x22 : (Int32.ofInt 0) = z42x3x22 := (sF_get).trans e42x3x22.symm
                        subst q42x3x22
                        refine g_if_le 28 32 (gd rfl) rfl rfl (fun c42x3x25 => ?_) (fun c42x3x25 => ?_)
                        · skip
                          refine g_iconst 0 33 (gd rfl) rfl rfl ?_
                          refine g_ireturn (gd rfl) rfl (nb01 (in_w 0 1 (in_c 0 rfl) rfl)) (hp42x3 _ _ ?_)
                          show GG _ _ _ _ _ _ _ _ [.int (Int32.ofInt 0)] _ _ _
                          refine g_ireturn (gd rfl) rfl (nb01 (in_w 0 1 (in_c 0 rfl) rfl)) (hp42 _ _ ?_)
                          show GG _ _ _ _ _ _ _ _ [.int (Int32.ofInt 0)] _ _ _
                          refine g_if_eq 48 50 (gd rfl) rfl rfl (fun c45 => ?_) (fun c45 => ?_)
                          · skip
                            refine g_aload_n 51 (gd rfl) rfl rfl ?_
                            refine g_aload_n 52 (gd rfl) rfl rfl ?_
                            refine g_getI 55 (gd rfl) rfl rfl rfl (fun z52 e52 => ?_)
                            have q52 : u_109_20 = z52 := (sF_ne rfl (e_109_20)).trans e52.symm
                            subst q52
                            refine g_putI 58 (gd rfl) rfl rfl rfl rfl ?_
                            have hI55 := inv_sF (q := 109) (j := 113) hI42x3x18 rfl (in_w 0 32 ro_109_20 rfl)
                            refine g_aload_n 59 (gd rfl) rfl rfl ?_
                            refine g_iconst 0 60 (gd rfl) rfl rfl ?_
                            refine g_putI 63 (gd rfl) rfl rfl rfl rfl ?_
                            have hI60 := inv_sF (q := 109) (j := 116) hI55 rfl (in_w (-2147483648) 2147483647 (in_c 0 rfl) rfl)
                            refine g_aload_n 64 (gd rfl) rfl rfl ?_
                            refine g_iconst 0 65 (gd rfl) rfl rfl ?_
                            refine g_putI 68 (gd rfl) rfl rfl rfl rfl ?_
                            have hI65 := inv_sF (q := 109) (j := 117) hI60 rfl (in_w (-2147483648) 2147483647 (in_c 0 rfl) rfl)
                            refine g_aload_n 69 (gd rfl) rfl rfl ?_
                            refine g_iconst 0 70 (gd rfl) rfl rfl ?_
                            refine g_putI 73 (gd rfl) rfl rfl rfl rfl ?_
                            have hI70 := inv_sF (q := 109) (j := 118) hI65 rfl (in_w (-2147483648) 2147483647 (in_c 0 rfl) rfl)
                            refine g_aload_n 74 (gd rfl) rfl rfl ?_
                            refine g_lconst 0 75 (gd rfl) rfl rfl ?_
                            refine g_putL 78 (gd rfl) rfl rfl rfl rfl ?_
                            have hI75 := inv_sG (q := 109) (j := 121) (x := (Int64.ofInt 0)) hI70 rfl (l_rng (Int64.ofInt 0))
                            refine g_iconst 0 79 (gd rfl) rfl rfl ?_
                            refine g_istore 81 (gd rfl) rfl (Nat.le_of_ble_eq_true rfl) ?_
                            have n81 : ((Int32.ofInt 0)).toInt ≤ (u_109_20).toInt := by have a0 := i31x10b; unfold In at a0; have a1 := i19x10b; unfold In at a1; have a2 := i7x10b; unfold In at a2; have a3 := ro_109_20; unfold In at a3; have a4 := (in_c 0 rfl); unfold In at a4; have a5 := tx_i2l e26; have a6 := tx_i2l e14; have a7 := tx_i2l e2; have oc := oc_409_109; omega
                            have n81a : ALR (((sG (sF (sF (sF (sF (sF s 109 0 (Int32.ofInt 0)) 109 113 u_109_20) 109 116 (Int32.ofInt 0)) 109 117 (Int32.ofInt 0)) 109 118 (Int32.ofInt 0)) 109 121 (Int64.ofInt 0))).2.1 191) ((Int32.ofInt 0)).toInt (fun _ : Nat => (0 : Int)) := by exact alr_0 rfl
                            have n81b : (((sG (sF (sF (sF (sF (sF s 109 0 (Int32.ofInt 0)) 109 113 u_109_20) 109 116 (Int32.ofInt 0)) 109 117 (Int32.ofInt 0)) 109 118 (Int32.ofInt 0)) 109 121 (Int64.ofInt 0))).2.2.1 109 0).toInt = 0 := by rfl
                            have n81c : ((sG (sF (sF (sF (sF (sF s 109 0 (Int32.ofInt 0)) 109 113 u_109_20) 109 116 (Int32.ofInt 0)) 109 117 (Int32.ofInt 0)) 109 118 (Int32.ofInt 0)) 109 121 (Int64.ofInt 0))).2.2.1 109 113 = s.2.2.1 109 20 := by exact e_109_20
                            exact gg_w (by omega) (gg_f (gf_cons rfl (gf_cons rfl (gf_cons rfl (gf_cons rfl (gf_cons rfl (gf_cons rfl gf_nil)))))) (ct81 33 (sG (sF (sF (sF (sF (sF s 109 0 (Int32.ofInt 0)) 109 113 u_109_20) 109 116 (Int32.ofInt 0)) 109 117 (Int32.ofInt 0)) 109 118 (Int32.ofInt 0)) 109 121 (Int64.ofInt 0)) (Int32.ofInt 0) hI75 (fr_sG rfl (fr_sF rfl (fr_sF rfl (fr_sF rfl (fr_sF rfl (fr_sF rfl fr_rf)))))) (in_w 0 200 i7x10b rfl) (in_w 1 4 i19x10b rfl) (in_w 0 90 i31x10b rfl) (in_w 0 32 (in_c 0 rfl) rfl) n81 n81a n81b n81c (m_in 33 (in_w 0 32 (in_c 0 rfl) rfl) rfl)))
                          · skip
                            exact zn_ne c45 (in_c 0 rfl) rfl
                        · skip
                          exact zn_gt c42x3x25 (in_c 0 rfl) rfl
                      · skip
                        exact zn_eq c42x3x10 (in_c 1 rfl) rfl
                    · skip
                      exact zn_eq c42x3x2 (in_c 1 rfl) rfl

theorem oc_412_109 : (Int32.ofInt (-1)).toInt = (-1) ∧ (Int32.ofInt 0).toInt = 0 ∧ (Int32.ofInt 1).toInt = 1 ∧ (Int64.ofInt 0).toInt = 0 := ⟨rfl, rfl, rfl, rfl⟩
/-- GraphHouseModel.state -/
theorem f_412 {Z : AmZ} {A : Nat → Nat} {s : GS} {ex : va_W} {d : Nat} {X : AmX} {x1 : Int32} (hd : 4 ≤ d) (hI : Inv s)  : GC Z d 412 [.ref (A 109), .int x1] (WW Z A s ++ ex) 0 0 (fun v u => ∃ t : GS, Inv t ∧ Fr fm_412 s t ∧ ∃ z : Int64, v = some (.long z) ∧ u = WW Z A t ++ ex ∧ (STR s t 113 x1 z)) X := by
  intro post xp hP hX
  obtain ⟨u_109_113, e_109_113⟩ : ∃ w, w = s.2.2.1 109 113 := ⟨_, rfl⟩
  have ro_109_113 := inv_F hI 0 32 rfl e_109_113
  refine g_enter2 (k := 412) (N := 900) (by omega) rfl (Nat.le_of_ble_eq_true rfl) ?_
  refine g_aload_n 1 (gd rfl) rfl rfl ?_
  refine g_iload_n 2 (gd rfl) rfl rfl ?_
  refine g_if_lt 5 17 (gd rfl) rfl rfl (fun c2 => ?_) (fun c2 => ?_)
  · skip
    have i2 := z_lt (-2147483648) (-1) c2 (i_rng x1) rfl
    refine g_iconst 0 18 (gd rfl) rfl rfl ?_
    refine g_callv (X := _) (As := [.int (Int32.ofInt 0)]) (r := []) (b := A 109) (q := 109) 21 (gd rfl) rfl rfl rfl rfl rfl (ww_o rfl) (Nat.le_of_ble_eq_true rfl) (mc := 0) (ms := 0) (Nat.zero_le _) (Nat.zero_le _) (P := fun v u => _) ?_ (fun e u h => h) (fun v u h => h)
    intro po18 xx18 hp18 hx18
    refine g_enter2 (k := 271) (N := 300) (by omega) rfl (Nat.le_of_ble_eq_true rfl) ?_
    refine g_aload_n 1 (gd rfl) rfl rfl ?_
    refine g_iload_n 2 (gd rfl) rfl rfl ?_
    refine g_iconst 1 3 (gd rfl) rfl rfl ?_
    refine g_callv (X := _) (As := [.int (Int32.ofInt 0), .int (Int32.ofInt 1)]) (r := []) (b := A 109) (q := 109) 6 (gd rfl) rfl rfl rfl rfl rfl (ww_o rfl) (Nat.le_of_ble_eq_true rfl) (mc := 0) (ms := 0) (Nat.zero_le _) (Nat.zero_le _) (P := fun v u => _) ?_ (fun e u h => h) (fun v u h => h)
    intro po18x3 xx18x3 hp18x3 hx18x3
    refine g_enter2 (k := 270) (N := 300) (by omega) rfl (Nat.le_of_ble_eq_true rfl) ?_
    refine g_aload_n 1 (gd rfl) rfl rfl ?_
    refine g_iload_n 2 (gd rfl) rfl rfl ?_
    refine g_if_ne 5 9 (gd rfl) rfl rfl (fun c18x3x2 => ?_) (fun c18x3x2 => ?_)
    · skip
      exact zn_ne c18x3x2 (in_c 0 rfl) rfl
    · skip
      refine g_iconst 1 6 (gd rfl) rfl rfl ?_
      refine g_goto 18 (gd rfl) rfl ?_
      refine g_putI 21 (gd rfl) rfl rfl rfl rfl ?_
      have hI18x3x18 := inv_sF (q := 109) (j := 0) hI rfl (in_w 0 2 (in_c 1 rfl) rfl)
      refine g_aload_n 22 (gd rfl) rfl rfl ?_
      refine g_getI 25 (gd rfl) rfl rfl rfl (fun z18x3x22 e18x3x22 => ?_)
      have q18x3x22 : (Int32.ofInt 1) = z18x3x22 := (sF_get).trans e18x3x22.symm
      subst q18x3x22
      refine g_if_le 28 32 (gd rfl) rfl rfl (fun c18x3x25 => ?_) (fun c18x3x25 => ?_)
      · skip
        exact zn_le c18x3x25 (in_c 1 rfl) rfl
      · skip
        refine g_iconst 1 29 (gd rfl) rfl rfl ?_
        refine g_goto 33 (gd rfl) rfl ?_
        refine g_ireturn (gd rfl) rfl (nb01 (in_w 0 1 (in_c 1 rfl) rfl)) (hp18x3 _ _ ?_)
        show GG _ _ _ _ _ _ _ _ [.int (Int32.ofInt 1)] _ _ _
        refine g_ireturn (gd rfl) rfl (nb01 (in_w 0 1 (in_c 1 rfl) rfl)) (hp18 _ _ ?_)
        show GG _ _ _ _ _ _ _ _ [.int (Int32.ofInt 1)] _ _ _
        refine g_if_eq 24 28 (gd rfl) rfl rfl (fun c21 => ?_) (fun c21 => ?_)
        · skip
          exact zn_eq c21 (in_c 1 rfl) rfl
        · skip
          refine g_lconst 0 25 (gd rfl) rfl rfl ?_
          refine g_goto 34 (gd rfl) rfl ?_
          have n34 : STR s (sF s 109 0 (Int32.ofInt 1)) 113 x1 (Int64.ofInt 0) := by exact Or.inl ⟨rfl, by rw [← e_109_113]; have a0 := ro_109_113; unfold In at a0; have a1 := i2; unfold In at a1; have a2 := (in_c 1 rfl); unfold In at a2; have oc := oc_412_109; omega⟩
          exact g_lreturn (gd rfl) rfl (hP _ _ ⟨(sF s 109 0 (Int32.ofInt 1)), hI18x3x18, (fr_sF rfl fr_rf), (Int64.ofInt 0), rfl, rfl, n34⟩)
  · skip
    have i2 := z_ge 0 2147483647 c2 (i_rng x1) rfl
    refine g_iload_n 6 (gd rfl) rfl rfl ?_
    refine g_aload_n 7 (gd rfl) rfl rfl ?_
    refine g_getI 10 (gd rfl) rfl rfl rfl (fun z7 e7 => ?_)
    have q7 : u_109_113 = z7 := (e_109_113).trans e7.symm
    subst q7
    refine g_cmp_ge 13 17 (gd rfl) rfl rfl (fun c10 => ?_) (fun c10 => ?_)
    · skip
      refine g_iconst 0 18 (gd rfl) rfl rfl ?_
      refine g_callv (X := _) (As := [.int (Int32.ofInt 0)]) (r := []) (b := A 109) (q := 109) 21 (gd rfl) rfl rfl rfl rfl rfl (ww_o rfl) (Nat.le_of_ble_eq_true rfl) (mc := 0) (ms := 0) (Nat.zero_le _) (Nat.zero_le _) (P := fun v u => _) ?_ (fun e u h => h) (fun v u h => h)
      intro po18 xx18 hp18 hx18
      refine g_enter2 (k := 271) (N := 300) (by omega) rfl (Nat.le_of_ble_eq_true rfl) ?_
      refine g_aload_n 1 (gd rfl) rfl rfl ?_
      refine g_iload_n 2 (gd rfl) rfl rfl ?_
      refine g_iconst 1 3 (gd rfl) rfl rfl ?_
      refine g_callv (X := _) (As := [.int (Int32.ofInt 0), .int (Int32.ofInt 1)]) (r := []) (b := A 109) (q := 109) 6 (gd rfl) rfl rfl rfl rfl rfl (ww_o rfl) (Nat.le_of_ble_eq_true rfl) (mc := 0) (ms := 0) (Nat.zero_le _) (Nat.zero_le _) (P := fun v u => _) ?_ (fun e u h => h) (fun v u h => h)
      intro po18x3 xx18x3 hp18x3 hx18x3
      refine g_enter2 (k := 270) (N := 300) (by omega) rfl (Nat.le_of_ble_eq_true rfl) ?_
      refine g_aload_n 1 (gd rfl) rfl rfl ?_
      refine g_iload_n 2 (gd rfl) rfl rfl ?_
      refine g_if_ne 5 9 (gd rfl) rfl rfl (fun c18x3x2 => ?_) (fun c18x3x2 => ?_)
      · skip
        exact zn_ne c18x3x2 (in_c 0 rfl) rfl
      · skip
        refine g_iconst 1 6 (gd rfl) rfl rfl ?_
        refine g_goto 18 (gd rfl) rfl ?_
        refine g_putI 21 (gd rfl) rfl rfl rfl rfl ?_
        have hI18x3x18 := inv_sF (q := 109) (j := 0) hI rfl (in_w 0 2 (in_c 1 rfl) rfl)
        refine g_aload_n 22 (gd rfl) rfl rfl ?_
        refine g_getI 25 (gd rfl) rfl rfl rfl (fun z18x3x22 e18x3x22 => ?_)
        have q18x3x22 : (Int32.ofInt 1) = z18x3x22 := (sF_get).trans e18x3x22.symm
        subst q18x3x22
        refine g_if_le 28 32 (gd rfl) rfl rfl (fun c18x3x25 => ?_) (fun c18x3x25 => ?_)
        · skip
          exact zn_le c18x3x25 (in_c 1 rfl) rfl
        · skip
          refine g_iconst 1 29 (gd rfl) rfl rfl ?_
          refine g_goto 33 (gd rfl) rfl ?_
          refine g_ireturn (gd rfl) rfl (nb01 (in_w 0 1 (in_c 1 rfl) rfl)) (hp18x3 _ _ ?_)
          show GG _ _ _ _ _ _ _ _ [.int (Int32.ofInt 1)] _ _ _
          refine g_ireturn (gd rfl) rfl (nb01 (in_w 0 1 (in_c 1 rfl) rfl)) (hp18 _ _ ?_)
          show GG _ _ _ _ _ _ _ _ [.int (Int32.ofInt 1)] _ _ _
          refine g_if_eq 24 28 (gd rfl) rfl rfl (fun c21 => ?_) (fun c21 => ?_)
          · skip
            exact zn_eq c21 (in_c 1 rfl) rfl
          · skip
            refine g_lconst 0 25 (gd rfl) rfl rfl ?_
            refine g_goto 34 (gd rfl) rfl ?_
            have n34 : STR s (sF s 109 0 (Int32.ofInt 1)) 113 x1 (Int64.ofInt 0) := by exact Or.inl ⟨rfl, by rw [← e_109_113]; have a0 := ro_109_113; unfold In at a0; have a1 := i2; unfold In at a1; have a2 := (in_c 1 rfl); unfold In at a2; have oc := oc_412_109; omega⟩
            exact g_lreturn (gd rfl) rfl (hP _ _ ⟨(sF s 109 0 (Int32.ofInt 1)), hI18x3x18, (fr_sF rfl fr_rf), (Int64.ofInt 0), rfl, rfl, n34⟩)
    · skip
      have i10 := r_lt1 0 31 c10 i2 ro_109_113 rfl
      have i10a := r_lt2 1 32 c10 i2 ro_109_113 rfl
      refine g_iconst 1 14 (gd rfl) rfl rfl ?_
      refine g_goto 18 (gd rfl) rfl ?_
      refine g_callv (X := _) (As := [.int (Int32.ofInt 1)]) (r := []) (b := A 109) (q := 109) 21 (gd rfl) rfl rfl rfl rfl rfl (ww_o rfl) (Nat.le_of_ble_eq_true rfl) (mc := 0) (ms := 0) (Nat.zero_le _) (Nat.zero_le _) (P := fun v u => _) ?_ (fun e u h => h) (fun v u h => h)
      intro po18 xx18 hp18 hx18
      refine g_enter2 (k := 271) (N := 300) (by omega) rfl (Nat.le_of_ble_eq_true rfl) ?_
      refine g_aload_n 1 (gd rfl) rfl rfl ?_
      refine g_iload_n 2 (gd rfl) rfl rfl ?_
      refine g_iconst 1 3 (gd rfl) rfl rfl ?_
      refine g_callv (X := _) (As := [.int (Int32.ofInt 1), .int (Int32.ofInt 1)]) (r := []) (b := A 109) (q := 109) 6 (gd rfl) rfl rfl rfl rfl rfl (ww_o rfl) (Nat.le_of_ble_eq_true rfl) (mc := 0) (ms := 0) (Nat.zero_le _) (Nat.zero_le _) (P := fun v u => _) ?_ (fun e u h => h) (fun v u h => h)
      intro po18x3 xx18x3 hp18x3 hx18x3
      refine g_enter2 (k := 270) (N := 300) (by omega) rfl (Nat.le_of_ble_eq_true rfl) ?_
      refine g_aload_n 1 (gd rfl) rfl rfl ?_
      refine g_iload_n 2 (gd rfl) rfl rfl ?_
      refine g_if_ne 5 9 (gd rfl) rfl rfl (fun c18x3x2 => ?_) (fun c18x3x2 => ?_)
      · skip
        refine g_iload_n 10 (gd rfl) rfl rfl ?_
        refine g_if_ne 13 17 (gd rfl) rfl rfl (fun c18x3x10 => ?_) (fun c18x3x10 => ?_)
        · skip
          refine g_iconst 0 18 (gd rfl) rfl rfl ?_
          refine g_putI 21 (gd rfl) rfl rfl rfl rfl ?_
          have hI18x3x18 := inv_sF (q := 109) (j := 0) hI rfl (in_w 0 2 (in_c 0 rfl) rfl)
          refine g_aload_n 22 (gd rfl) rfl rfl ?_
          refine g_getI 25 (gd rfl) rfl rfl rfl (fun z18x3x22 e18x3x22 => ?_)
          have q18x3x22 : (Int32.ofInt 0) = z18x3x22 := (sF_get).trans e18x3x22.symm
          subst q18x3x22
          refine g_if_le 28 32 (gd rfl) rfl rfl (fun c18x3x25 => ?_) (fun c18x3x25 => ?_)
          · skip
            refine g_iconst 0 33 (gd rfl) rfl rfl ?_
            refine g_ireturn (gd rfl) rfl (nb01 (in_w 0 1 (in_c 0 rfl) rfl)) (hp18x3 _ _ ?_)
            show GG _ _ _ _ _ _ _ _ [.int (Int32.ofInt 0)] _ _ _
            refine g_ireturn (gd rfl) rfl (nb01 (in_w 0 1 (in_c 0 rfl) rfl)) (hp18 _ _ ?_)
            show GG _ _ _ _ _ _ _ _ [.int (Int32.ofInt 0)] _ _ _
            refine g_if_eq 24 28 (gd rfl) rfl rfl (fun c21 => ?_) (fun c21 => ?_)
            · skip
              refine g_aload_n 29 (gd rfl) rfl rfl ?_
              refine g_getA (q2 := 191) 32 (gd rfl) rfl rfl rfl rfl ?_
              refine g_iload_n 33 (gd rfl) rfl rfl ?_
              refine g_laload 34 (gd rfl) rfl (n := 32) rfl (in_ix i10 rfl) (fun z33 e33 => ?_)
              have n34 : STR s (sF s 109 0 (Int32.ofInt 0)) 113 x1 z33 := by exact Or.inr ⟨rfl, ⟨by have a0 := i10; unfold In at a0; have a1 := i10a; unfold In at a1; have a2 := (in_c 0 rfl); unfold In at a2; have oc := oc_412_109; omega, by rw [← e_109_113]; have a0 := i10; unfold In at a0; have a1 := i10a; unfold In at a1; have a2 := (in_c 0 rfl); unfold In at a2; have oc := oc_412_109; omega⟩, e33⟩
              exact g_lreturn (gd rfl) rfl (hP _ _ ⟨(sF s 109 0 (Int32.ofInt 0)), hI18x3x18, (fr_sF rfl fr_rf), z33, rfl, rfl, n34⟩)
            · skip
              exact zn_ne c21 (in_c 0 rfl) rfl
          · skip
            exact zn_gt c18x3x25 (in_c 0 rfl) rfl
        · skip
          exact zn_eq c18x3x10 (in_c 1 rfl) rfl
      · skip
        exact zn_eq c18x3x2 (in_c 1 rfl) rfl
