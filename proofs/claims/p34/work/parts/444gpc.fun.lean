/-! functional contracts, by fgen.py -/
theorem nm1 {x : Int32} (h : In x 0 31) : x.toInt ≠ -1 := by
  have h1 := in_u h
  omega
theorem ixb {s : GS} {z b i : Int32} (e : z = b + i) (eb : b = s.2.2.1 109 19) (hb : In b 0 160) (hi : In i 0 159) : z.toNatClampNeg = bs s + i.toNatClampNeg := by
  have h := t_add e hb hi rfl
  have h1 := in_u hb
  have h2 := in_u hi
  show z.toInt.toNat = (s.2.2.1 109 19).toInt.toNat + i.toInt.toNat
  rw [← eb]
  omega
theorem ixm {k m u v : Int32} (em : m = Int32.ofInt 32 * u) (ek : k = m + v) (hm : In m 0 992) (hu : In u 0 31) (hv : In v 0 31) : k.toNatClampNeg = 32 * u.toNatClampNeg + v.toNatClampNeg := by
  have h1 := (t_mulc 32 (Or.inl em) hu rfl).1
  have h2 := t_add ek hm hv rfl
  have h3 := in_u hu
  have h4 := in_u hv
  show k.toInt.toNat = 32 * u.toInt.toNat + v.toInt.toNat
  omega
theorem ixn {z y : Int32} (e : z = y + Int32.ofInt 1) (hy : In y 0 159) : z.toNatClampNeg = y.toNatClampNeg + 1 := by
  have h := t_add e hy (in_c 1 rfl) rfl
  have h1 := in_u hy
  have h2 : (Int32.ofInt 1).toInt = 1 := rfl
  show z.toInt.toNat = y.toInt.toNat + 1
  omega
theorem oc_360_109 : (Int32.ofInt (-1)).toInt = (-1) ∧ (Int32.ofInt 0).toInt = 0 ∧ (Int32.ofInt 1).toInt = 1 ∧ (Int32.ofInt 32).toInt = 32 ∧ (Int32.ofInt 160).toInt = 160 ∧ (Int32.ofInt 1024).toInt = 1024 ∧ (Int64.ofInt 9000000000000000).toInt = 9000000000000000 := ⟨rfl, rfl, rfl, rfl, rfl, rfl, rfl⟩
set_option maxHeartbeats 2000000 in
/-- GraphHouseModel.pairUp -/
theorem f_360 {Z : AmZ} {A : Nat → Nat} {s : GS} {ex : va_W} {d : Nat} {X : AmX}  (hd : 3 ≤ d) (hI : Inv s)  : GC Z d 360 [.ref (A 109)] (WW Z A s ++ ex) 0 0 (fun v u => ∃ t : GS, Inv t ∧ Fr fm_360 s t ∧ v = none ∧ u = WW Z A t ++ ex ∧ (PP t ∧ PEE t ∧ PWM (gvZ s) t 160)) X := by
  intro post xp hP hX
  obtain ⟨u_109_19, e_109_19⟩ : ∃ w, w = s.2.2.1 109 19 := ⟨_, rfl⟩
  have ro_109_19 := inv_F hI 0 160 rfl e_109_19
  obtain ⟨u_109_20, e_109_20⟩ : ∃ w, w = s.2.2.1 109 20 := ⟨_, rfl⟩
  have ro_109_20 := inv_F hI 0 32 rfl e_109_20
  have ct186 : ∀ (k186 : Nat) (sc186 : GS) (y186_1 : Int32), Inv sc186 → Fr fm_360 s sc186 → (In y186_1 0 1) → (PP sc186) → (PWM (gvZ s) sc186 160 ∧ PPS sc186 ∧ ((y186_1).toInt = 0 → PEE sc186)) → 2 * cM (sc186.1 151) (s.2.2.1 109 20).toNatClampNeg + (y186_1).toInt.toNat < k186 → GG Z (d - 1) 360 post (gx xp) (1 + k186 * 32401) 186 (fun j => xlook j [(0, .ref (A 109)), (1, .int y186_1)]) [] (WW Z A sc186 ++ ex) 0 0 := by
    intro k186
    induction k186 with
    | zero => intro sc186 y186_1 hIc186 hFc186 j186_1 g186_0 g186_1 mm186; exact absurd mm186 (Nat.not_lt_zero _)
    | succ k186 ih186 =>
      intro sc186 y186_1 hIc186 hFc186 j186_1 g186_0 g186_1 mm186
      refine gg_w (M := 1 + k186 * 32401 + 32401) (by omega) ?_
      have ct205 : ∀ (k205 : Nat) (sc205 : GS) (y205_1 : Int32) (y205_2 : Int32), Inv sc205 → Fr fm_360 s sc205 → (In y205_1 0 1) → (In y205_2 (-1) 31) → (∃ n, FLP sc205 (y205_2).toInt n) → (y186_1.toInt = 1) → (cM (sc205.1 151) (s.2.2.1 109 20).toNatClampNeg < cM (sc186.1 151) (s.2.2.1 109 20).toNatClampNeg ∨ (cM (sc205.1 151) (s.2.2.1 109 20).toNatClampNeg ≤ cM (sc186.1 151) (s.2.2.1 109 20).toNatClampNeg ∧ ((0 ≤ (y205_2).toInt ∧ (sc205.1 151 (y205_2).toNatClampNeg).toInt < 0) ∨ (y205_1).toInt = 0))) → (∃ n, FLS sc205 (y205_2).toInt n) → ((y205_1).toInt = 0 → (y205_2).toInt < 0 ∧ PEE sc205) → (PWM (gvZ s) sc205 160) → lst (FLP sc205 (y205_2).toInt) < k205 → GG Z (d - 1) 360 post (gx xp) (1 + k186 * 32401 + 1 + k205 * 900) 205 (fun j => xlook j [(0, .ref (A 109)), (1, .int y205_1), (2, .int y205_2)]) [] (WW Z A sc205 ++ ex) 0 0 := by
        intro k205
        induction k205 with
        | zero => intro sc205 y205_1 y205_2 hIc205 hFc205 j205_1 j205_2 g205_0 g205_1 g205_2 g205_3 g205_4 g205_5 mm205; exact absurd mm205 (Nat.not_lt_zero _)
        | succ k205 ih205 =>
          intro sc205 y205_1 y205_2 hIc205 hFc205 j205_1 j205_2 g205_0 g205_1 g205_2 g205_3 g205_4 g205_5 mm205
          refine gg_w (M := 1 + k186 * 32401 + 1 + k205 * 900 + 900) (by omega) ?_
          refine g_iload_n 206 (gd rfl) rfl rfl ?_
          refine g_if_lt 209 244 (gd rfl) rfl rfl (fun c206 => ?_) (fun c206 => ?_)
          · skip
            have i206 := z_lt (-1) (-1) c206 j205_2 rfl
            refine g_goto 186 (gd rfl) rfl ?_
            have n186 : PP sc205 := by first | exact pp_0 g163_0 (fun k hk => g163_1 k (by unfold nnq at hk; rw [hFc163.2.2.1 109 20 rfl, ← e_109_20] at hk; have a0 := ro_109_20; unfold In at a0; have a1 := ro_109_19; unfold In at a1; have a2 := i206; unfold In at a2; have a3 := j205_1; unfold In at a3; have oc := oc_360_109; omega)) | (obtain ⟨n, hn⟩ := g205_0; exact flp_pp hn (by have a0 := ro_109_20; unfold In at a0; have a1 := ro_109_19; unfold In at a1; have a2 := i206; unfold In at a2; have a3 := j205_1; unfold In at a3; have oc := oc_360_109; omega))
            have n186a : PWM (gvZ s) sc205 160 ∧ PPS sc205 ∧ ((y205_1).toInt = 0 → PEE sc205) := by obtain ⟨n9, h9⟩ := g205_3; exact ⟨g205_5, fls_pp h9, fun hz => (g205_4 hz).2⟩
            have m186 : 2 * cM (sc205.1 151) (s.2.2.1 109 20).toNatClampNeg + (y205_1).toInt.toNat < k186 := by have hm := mm186; have hj := g205_1; rcases g205_2 with h | ⟨h1, h2⟩; (have a0 := ro_109_20; unfold In at a0; have a1 := ro_109_19; unfold In at a1; have a2 := i206; unfold In at a2; have a3 := j205_1; unfold In at a3; have oc := oc_360_109; omega); (rcases h2 with h2 | h2; (exfalso; have hc := c206; omega); (have a0 := ro_109_20; unfold In at a0; have a1 := ro_109_19; unfold In at a1; have a2 := i206; unfold In at a2; have a3 := j205_1; unfold In at a3; have oc := oc_360_109; omega))
            exact gg_w (by omega) (gg_f (gf_cons rfl (gf_cons rfl gf_nil)) (ih186  sc205 y205_1 hIc205 hFc205 (in_w 0 1 j205_1 rfl) n186 n186a m186))
          · skip
            have i206 := z_ge 0 31 c206 j205_2 rfl
            refine g_aload_n 210 (gd rfl) rfl rfl ?_
            refine g_getA (q2 := 148) 213 (gd rfl) rfl rfl rfl rfl ?_
            refine g_iload_n 214 (gd rfl) rfl rfl ?_
            refine g_iaload 215 (gd rfl) rfl (n := 34) rfl (in_ix i206 rfl) (fun z214 e214 => ?_)
            have i214 := inv_I hIc205 (n := 34) (t := 0) (-1) 1000 rfl (in_ix i206 rfl) rfl e214
            have i215 : In z214 0 31 := by obtain ⟨n, hn⟩ := g205_0; have hu := flp_u hn i206.1; rw [show sc205.1 148 y205_2.toInt.toNat = z214 from e214.symm] at hu; exact ⟨hu.1, hu.2.1⟩
            refine g_istore_n 216 (gd rfl) rfl (Nat.le_of_ble_eq_true rfl) ?_
            refine g_aload_n 217 (gd rfl) rfl rfl ?_
            refine g_getA (q2 := 151) 220 (gd rfl) rfl rfl rfl rfl ?_
            refine g_iload_n 221 (gd rfl) rfl rfl ?_
            refine g_iaload 222 (gd rfl) rfl (n := 32) rfl (in_ix i215 rfl) (fun z221 e221 => ?_)
            have i221 := inv_I hIc205 (n := 32) (t := 0) (-1) 31 rfl (in_ix i215 rfl) rfl e221
            refine g_istore 224 (gd rfl) rfl (Nat.le_of_ble_eq_true rfl) ?_
            refine g_aload_n 225 (gd rfl) rfl rfl ?_
            refine g_getA (q2 := 151) 228 (gd rfl) rfl rfl rfl rfl ?_
            refine g_iload_n 229 (gd rfl) rfl rfl ?_
            refine g_iload_n 230 (gd rfl) rfl rfl ?_
            refine g_iastore 231 (gd rfl) rfl (n := 32) rfl (in_ix i215 rfl) ?_
            have hI230 := inv_sI (q := 151) (j := z214.toNatClampNeg) hIc205 rfl (in_w (-1) 31 i206 rfl)
            refine g_aload_n 232 (gd rfl) rfl rfl ?_
            refine g_getA (q2 := 151) 235 (gd rfl) rfl rfl rfl rfl ?_
            refine g_iload_n 236 (gd rfl) rfl rfl ?_
            refine g_iload_n 237 (gd rfl) rfl rfl ?_
            refine g_iastore 238 (gd rfl) rfl (n := 32) rfl (in_ix i206 rfl) ?_
            have hI237 := inv_sI (q := 151) (j := y205_2.toNatClampNeg) hI230 rfl (in_w (-1) 31 i215 rfl)
            refine g_iload 240 (gd rfl) rfl rfl ?_
            refine g_istore_n 241 (gd rfl) rfl (Nat.le_of_ble_eq_true rfl) ?_
            refine g_goto 205 (gd rfl) rfl ?_
            have n205 : ∃ n, FLP (sI (sI sc205 151 z214.toNatClampNeg y205_2) 151 y205_2.toNatClampNeg z214) (z221).toInt n := by first | (obtain ⟨n, _, hn⟩ := p191a; exact ⟨n, hn⟩) | (obtain ⟨n, hn⟩ := g205_0; obtain ⟨k, hk, hf⟩ := flp_s hn i206.1 e214 e221 i221; exact ⟨k, hf⟩)
            have n205a : y186_1.toInt = 1 := by first | exact g205_1 | (have hj := j186_1; unfold In at hj; have hc := c187; omega)
            have n205b : cM ((sI (sI sc205 151 z214.toNatClampNeg y205_2) 151 y205_2.toNatClampNeg z214).1 151) (s.2.2.1 109 20).toNatClampNeg < cM (sc186.1 151) (s.2.2.1 109 20).toNatClampNeg ∨ (cM ((sI (sI sc205 151 z214.toNatClampNeg y205_2) 151 y205_2.toNatClampNeg z214).1 151) (s.2.2.1 109 20).toNatClampNeg ≤ cM (sc186.1 151) (s.2.2.1 109 20).toNatClampNeg ∧ ((0 ≤ (z221).toInt ∧ ((sI (sI sc205 151 z214.toNatClampNeg y205_2) 151 y205_2.toNatClampNeg z214).1 151 (z221).toNatClampNeg).toInt < 0) ∨ (y205_1).toInt = 0)) := by first | exact Or.inr ⟨by rw [hF191.1 151 rfl]; exact Nat.le_refl _, Or.inl ⟨i196.1, p191b i196.1⟩⟩ | exact Or.inr ⟨by rw [hF191.1 151 rfl]; exact Nat.le_refl _, Or.inr (by decide)⟩ | (obtain ⟨n, hn⟩ := g205_0; have hu := flp_u hn i206.1; have hf := cM_fl (f := sc205.1 151) (N := (s.2.2.1 109 20).toNatClampNeg) i206 i215 (by show y205_2.toInt.toNat < (s.2.2.1 109 20).toInt.toNat; have h := hu.2.2.1; unfold nnq at h; rw [hFc205.2.2.1 109 20 rfl] at h; have h0 := i206.1; omega); rw [show ((sI (sI sc205 151 z214.toNatClampNeg y205_2) 151 y205_2.toNatClampNeg z214)).1 151 = upd (upd (sc205.1 151) z214.toNatClampNeg y205_2) y205_2.toNatClampNeg z214 from (by rw [sI_q, sI_q])]; rcases g205_2 with h | ⟨h1, h2⟩; (exact Or.inl (by omega)); (rcases h2 with h2 | h2; (exact Or.inl (by have h3 := hf.2 h2.2; omega)); (exact Or.inr ⟨by omega, Or.inr h2⟩)))
            have n205c : ∃ n, FLS (sI (sI sc205 151 z214.toNatClampNeg y205_2) 151 y205_2.toNatClampNeg z214) (z221).toInt n := by obtain ⟨n9, h9⟩ := g205_3; obtain ⟨k9, hk9, hf9⟩ := fls_s h9 i206.1 e214 e221 i221; exact ⟨k9, hf9⟩
            have n205d : (y205_1).toInt = 0 → (z221).toInt < 0 ∧ PEE (sI (sI sc205 151 z214.toNatClampNeg y205_2) 151 y205_2.toNatClampNeg z214) := by intro hz; exfalso; have h9 := (g205_4 hz).1; have h8 := i206.1; omega
            have n205e : PWM (gvZ s) (sI (sI sc205 151 z214.toNatClampNeg y205_2) 151 y205_2.toNatClampNeg z214) 160 := by exact pwm_c g205_5 rfl
            have m205 : lst (FLP (sI (sI sc205 151 z214.toNatClampNeg y205_2) 151 y205_2.toNatClampNeg z214) (z221).toInt) < k205 := by have hl := lst_ok g205_0; obtain ⟨k, hk, hf⟩ := flp_s hl.1 i206.1 e214 e221 i221; have h2 := (lst_ok ⟨k, hf⟩).2 k hf; have hm := mm205; omega
            exact gg_w (by omega) (gg_f (gf_cons rfl (gf_cons rfl (gf_cons rfl gf_nil))) (ih205  (sI (sI sc205 151 z214.toNatClampNeg y205_2) 151 y205_2.toNatClampNeg z214) y205_1 z221 hI237 (fr_sI rfl (fr_sI rfl hFc205)) (in_w 0 1 j205_1 rfl) (in_w (-1) 31 i221 rfl) n205 n205a n205b n205c n205d n205e m205))
      refine g_iload_n 187 (gd rfl) rfl rfl ?_
      refine g_if_eq 190 247 (gd rfl) rfl rfl (fun c187 => ?_) (fun c187 => ?_)
      · skip
        have i187 := z_eq 0 0 c187 j186_1 rfl
        have n247 : PP sc186 ∧ PEE sc186 ∧ PWM (gvZ s) sc186 160 := by exact ⟨g186_0, g186_1.2.2 c187, g186_1.1⟩
        exact g_return (gd rfl) rfl (hP _ _ ⟨sc186, hIc186, hFc186, rfl, rfl, n247⟩)
      · skip
        have i187 := z_ne 1 1 c187 j186_1 rfl
        refine g_aload_n 191 (gd rfl) rfl rfl ?_
        have p191 : PP sc186 := by exact g186_0
        refine g_callv (X := _) (As := []) (r := []) (b := A 109) (q := 109) 194 (gd rfl) rfl rfl rfl rfl rfl (ww_o rfl) (Nat.le_of_ble_eq_true rfl) (Nat.zero_le _) (Nat.zero_le _) (f_361 (by omega) hIc186 p191) (fun e u h => h) (fun v u h => ?_)
        obtain ⟨s191, hI191, hF191, z191, rfl, rfl, i191, p191a, p191b, p191c⟩ := h
        show GG _ _ _ _ _ _ _ _ [.int z191] _ _ _
        refine g_istore_n 195 (gd rfl) rfl (Nat.le_of_ble_eq_true rfl) ?_
        refine g_iload_n 196 (gd rfl) rfl rfl ?_
        refine g_if_lt 199 203 (gd rfl) rfl rfl (fun c196 => ?_) (fun c196 => ?_)
        · skip
          have i196 := z_lt (-1) (-1) c196 i191 rfl
          refine g_iconst 0 204 (gd rfl) rfl rfl ?_
          refine g_istore_n 205 (gd rfl) rfl (Nat.le_of_ble_eq_true rfl) ?_
          have n205 : ∃ n, FLP s191 (z191).toInt n := by first | (obtain ⟨n, _, hn⟩ := p191a; exact ⟨n, hn⟩) | (obtain ⟨n, hn⟩ := g205_0; obtain ⟨k, hk, hf⟩ := flp_s hn i206.1 e214 e221 i221; exact ⟨k, hf⟩)
          have n205a : y186_1.toInt = 1 := by first | exact g205_1 | (have hj := j186_1; unfold In at hj; have hc := c187; omega)
          have n205b : cM (s191.1 151) (s.2.2.1 109 20).toNatClampNeg < cM (sc186.1 151) (s.2.2.1 109 20).toNatClampNeg ∨ (cM (s191.1 151) (s.2.2.1 109 20).toNatClampNeg ≤ cM (sc186.1 151) (s.2.2.1 109 20).toNatClampNeg ∧ ((0 ≤ (z191).toInt ∧ (s191.1 151 (z191).toNatClampNeg).toInt < 0) ∨ ((Int32.ofInt 0)).toInt = 0)) := by first | exact Or.inr ⟨by rw [hF191.1 151 rfl]; exact Nat.le_refl _, Or.inl ⟨i196.1, p191b i196.1⟩⟩ | exact Or.inr ⟨by rw [hF191.1 151 rfl]; exact Nat.le_refl _, Or.inr (by decide)⟩ | (obtain ⟨n, hn⟩ := g205_0; have hu := flp_u hn i206.1; have hf := cM_fl (f := sc205.1 151) (N := (s.2.2.1 109 20).toNatClampNeg) i206 i215 (by show y205_2.toInt.toNat < (s.2.2.1 109 20).toInt.toNat; have h := hu.2.2.1; unfold nnq at h; rw [hFc205.2.2.1 109 20 rfl] at h; have h0 := i206.1; omega); rw [show (s191).1 151 = upd (upd (sc205.1 151) z214.toNatClampNeg y205_2) y205_2.toNatClampNeg z214 from (by rw [sI_q, sI_q])]; rcases g205_2 with h | ⟨h1, h2⟩; (exact Or.inl (by omega)); (rcases h2 with h2 | h2; (exact Or.inl (by have h3 := hf.2 h2.2; omega)); (exact Or.inr ⟨by omega, Or.inr h2⟩)))
          have n205c : ∃ n, FLS s191 (z191).toInt n := by exact (p191c g186_1.2.1).1
          have n205d : ((Int32.ofInt 0)).toInt = 0 → (z191).toInt < 0 ∧ PEE s191 := by first | exact fun _ => ⟨c196, (p191c g186_1.2.1).2 c196⟩ | exact fun hz => absurd hz (by decide)
          have n205e : PWM (gvZ s) s191 160 := by exact pwm_c g186_1.1 (hF191.2.1 152 rfl)
          have m205 : lst (FLP s191 (z191).toInt) < 33 := by obtain ⟨n, hn1, hn⟩ := p191a; have h := (lst_ok ⟨n, hn⟩).2 n hn; omega
          exact gg_w (by omega) (gg_f (gf_cons rfl (gf_cons rfl (gf_cons rfl gf_nil))) (ct205 (33) s191 (Int32.ofInt 0) z191 hI191 (fr_tr rfl hFc186 hF191) (in_w 0 1 (in_c 0 rfl) rfl) (in_w (-1) 31 i196 rfl) n205 n205a n205b n205c n205d n205e m205))
        · skip
          have i196 := z_ge 0 31 c196 i191 rfl
          refine g_iconst 1 200 (gd rfl) rfl rfl ?_
          refine g_goto 204 (gd rfl) rfl ?_
          refine g_istore_n 205 (gd rfl) rfl (Nat.le_of_ble_eq_true rfl) ?_
          have n205 : ∃ n, FLP s191 (z191).toInt n := by first | (obtain ⟨n, _, hn⟩ := p191a; exact ⟨n, hn⟩) | (obtain ⟨n, hn⟩ := g205_0; obtain ⟨k, hk, hf⟩ := flp_s hn i206.1 e214 e221 i221; exact ⟨k, hf⟩)
          have n205a : y186_1.toInt = 1 := by first | exact g205_1 | (have hj := j186_1; unfold In at hj; have hc := c187; omega)
          have n205b : cM (s191.1 151) (s.2.2.1 109 20).toNatClampNeg < cM (sc186.1 151) (s.2.2.1 109 20).toNatClampNeg ∨ (cM (s191.1 151) (s.2.2.1 109 20).toNatClampNeg ≤ cM (sc186.1 151) (s.2.2.1 109 20).toNatClampNeg ∧ ((0 ≤ (z191).toInt ∧ (s191.1 151 (z191).toNatClampNeg).toInt < 0) ∨ ((Int32.ofInt 1)).toInt = 0)) := by first | exact Or.inr ⟨by rw [hF191.1 151 rfl]; exact Nat.le_refl _, Or.inl ⟨i196.1, p191b i196.1⟩⟩ | exact Or.inr ⟨by rw [hF191.1 151 rfl]; exact Nat.le_refl _, Or.inr (by decide)⟩ | (obtain ⟨n, hn⟩ := g205_0; have hu := flp_u hn i206.1; have hf := cM_fl (f := sc205.1 151) (N := (s.2.2.1 109 20).toNatClampNeg) i206 i215 (by show y205_2.toInt.toNat < (s.2.2.1 109 20).toInt.toNat; have h := hu.2.2.1; unfold nnq at h; rw [hFc205.2.2.1 109 20 rfl] at h; have h0 := i206.1; omega); rw [show (s191).1 151 = upd (upd (sc205.1 151) z214.toNatClampNeg y205_2) y205_2.toNatClampNeg z214 from (by rw [sI_q, sI_q])]; rcases g205_2 with h | ⟨h1, h2⟩; (exact Or.inl (by omega)); (rcases h2 with h2 | h2; (exact Or.inl (by have h3 := hf.2 h2.2; omega)); (exact Or.inr ⟨by omega, Or.inr h2⟩)))
          have n205c : ∃ n, FLS s191 (z191).toInt n := by exact (p191c g186_1.2.1).1
          have n205d : ((Int32.ofInt 1)).toInt = 0 → (z191).toInt < 0 ∧ PEE s191 := by first | exact fun _ => ⟨c196, (p191c g186_1.2.1).2 c196⟩ | exact fun hz => absurd hz (by decide)
          have n205e : PWM (gvZ s) s191 160 := by exact pwm_c g186_1.1 (hF191.2.1 152 rfl)
          have m205 : lst (FLP s191 (z191).toInt) < 33 := by obtain ⟨n, hn1, hn⟩ := p191a; have h := (lst_ok ⟨n, hn⟩).2 n hn; omega
          exact gg_w (by omega) (gg_f (gf_cons rfl (gf_cons rfl (gf_cons rfl gf_nil))) (ct205 (33) s191 (Int32.ofInt 1) z191 hI191 (fr_tr rfl hFc186 hF191) (in_w 0 1 (in_c 1 rfl) rfl) (in_w (-1) 31 i196 rfl) n205 n205a n205b n205c n205d n205e m205))
  have ct163 : ∀ (k163 : Nat) (sc163 : GS) (y163_1 : Int32), Inv sc163 → Fr fm_360 s sc163 → (In y163_1 0 32) → (PWI sc163) → (∀ k : Nat, (k : Int) < (y163_1).toInt → (sc163.1 151 k).toInt < 0) → (PWM (gvZ s) sc163 160) → 32 - (y163_1).toInt < (k163 : Int) → GG Z (d - 1) 360 post (gx xp) (2138468 + k163 * 900) 163 (fun j => xlook j [(0, .ref (A 109)), (1, .int y163_1)]) [] (WW Z A sc163 ++ ex) 0 0 := by
    intro k163
    induction k163 with
    | zero => intro sc163 y163_1 hIc163 hFc163 j163_1 g163_0 g163_1 g163_2 mm163; exact m_no mm163 j163_1 rfl
    | succ k163 ih163 =>
      intro sc163 y163_1 hIc163 hFc163 j163_1 g163_0 g163_1 g163_2 mm163
      refine gg_w (M := 2138468 + k163 * 900 + 900) (by omega) ?_
      refine g_iload_n 164 (gd rfl) rfl rfl ?_
      refine g_aload_n 165 (gd rfl) rfl rfl ?_
      refine g_getI 168 (gd rfl) rfl rfl rfl (fun z165 e165 => ?_)
      have q165 : u_109_20 = z165 := (fr_F e_109_20 hFc163 rfl).trans e165.symm
      subst q165
      refine g_cmp_ge 171 184 (gd rfl) rfl rfl (fun c168 => ?_) (fun c168 => ?_)
      · skip
        refine g_iconst 1 185 (gd rfl) rfl rfl ?_
        refine g_istore_n 186 (gd rfl) rfl (Nat.le_of_ble_eq_true rfl) ?_
        have n186 : PP sc163 := by first | exact pp_0 g163_0 (fun k hk => g163_1 k (by unfold nnq at hk; rw [hFc163.2.2.1 109 20 rfl, ← e_109_20] at hk; have a0 := ro_109_20; unfold In at a0; have a1 := ro_109_19; unfold In at a1; have a2 := j163_1; unfold In at a2; have a3 := (in_c 1 rfl); unfold In at a3; have oc := oc_360_109; omega)) | (obtain ⟨n, hn⟩ := g205_0; exact flp_pp hn (by have a0 := ro_109_20; unfold In at a0; have a1 := ro_109_19; unfold In at a1; have a2 := j163_1; unfold In at a2; have a3 := (in_c 1 rfl); unfold In at a3; have oc := oc_360_109; omega))
        have n186a : PWM (gvZ s) sc163 160 ∧ PPS sc163 ∧ (((Int32.ofInt 1)).toInt = 0 → PEE sc163) := by exact ⟨g163_2, pps_0 g163_0 (fun k hk => g163_1 k (by unfold nnq at hk; rw [hFc163.2.2.1 109 20 rfl, ← e_109_20] at hk; have a0 := ro_109_20; unfold In at a0; have a1 := ro_109_19; unfold In at a1; have a2 := j163_1; unfold In at a2; have a3 := (in_c 1 rfl); unfold In at a3; have oc := oc_360_109; omega)), fun hz => absurd hz (by decide)⟩
        have m186 : 2 * cM (sc163.1 151) (s.2.2.1 109 20).toNatClampNeg + ((Int32.ofInt 1)).toInt.toNat < 66 := by have h := cM_le (sc163.1 151) (s.2.2.1 109 20).toNatClampNeg; have hn : (s.2.2.1 109 20).toNatClampNeg ≤ 32 := (by rw [← e_109_20]; show u_109_20.toInt.toNat ≤ 32; have a0 := ro_109_20; unfold In at a0; have a1 := ro_109_19; unfold In at a1; have a2 := j163_1; unfold In at a2; have a3 := (in_c 1 rfl); unfold In at a3; have oc := oc_360_109; omega); have h1 : (Int32.ofInt 1).toInt.toNat = 1 := rfl; omega
        exact gg_w (by omega) (gg_f (gf_cons rfl (gf_cons rfl gf_nil)) (ct186 (66) sc163 (Int32.ofInt 1) hIc163 hFc163 (in_w 0 1 (in_c 1 rfl) rfl) n186 n186a m186))
      · skip
        have i168 := r_lt1 0 31 c168 j163_1 ro_109_20 rfl
        have i168a := r_lt2 1 32 c168 j163_1 ro_109_20 rfl
        refine g_aload_n 172 (gd rfl) rfl rfl ?_
        refine g_getA (q2 := 151) 175 (gd rfl) rfl rfl rfl rfl ?_
        refine g_iload_n 176 (gd rfl) rfl rfl ?_
        refine g_iconst (-1) 177 (gd rfl) rfl rfl ?_
        refine g_iastore 178 (gd rfl) rfl (n := 32) rfl (in_ix i168 rfl) ?_
        have hI177 := inv_sI (q := 151) (j := y163_1.toNatClampNeg) hIc163 rfl (in_w (-1) 31 (in_c (-1) rfl) rfl)
        refine g_iinc 181 (gd rfl) rfl rfl (Nat.le_of_ble_eq_true rfl) (fun z178 e178 => ?_)
        have i178 := in_add 1 32 e178 i168 (in_c 1 rfl) rfl rfl
        refine g_goto 163 (gd rfl) rfl ?_
        have n163 : PWI (sI sc163 151 y163_1.toNatClampNeg (Int32.ofInt (-1))) := by first | exact g26_0 | exact pwi_cg g163_0 (sI_p rfl) rfl rfl rfl
        have n163a : ∀ k : Nat, (k : Int) < (z178).toInt → ((sI sc163 151 y163_1.toNatClampNeg (Int32.ofInt (-1))).1 151 k).toInt < 0 := by first | (intro k hk; exfalso; have h0 : (Int32.ofInt 0).toInt = 0 := rfl; omega) | (intro k hk; rw [sI_q]; unfold upd; have e3 : y163_1.toNatClampNeg = y163_1.toInt.toNat := rfl; by_cases c : k = y163_1.toNatClampNeg; (rw [if_pos c]; decide); (rw [if_neg c]; exact g163_1 k (by have a0 := i168a; unfold In at a0; have a1 := ro_109_19; unfold In at a1; have a2 := i168; unfold In at a2; have a3 := i178; unfold In at a3; have a4 := t_add e178 i168 (in_c 1 rfl) rfl; have a5 := (in_c 1 rfl); unfold In at a5; have oc := oc_360_109; omega)))
        have n163b : PWM (gvZ s) (sI sc163 151 y163_1.toNatClampNeg (Int32.ofInt (-1))) 160 := by exact pwm_c g163_2 rfl
        exact gg_w (by omega) (gg_f (gf_cons rfl (gf_cons rfl gf_nil)) (ih163 (sI sc163 151 y163_1.toNatClampNeg (Int32.ofInt (-1))) z178 hI177 (fr_sI rfl hFc163) (in_w 0 32 i178 rfl) n163 n163a n163b (m_up mm163 (t_add e178 i168 (in_c 1 rfl) rfl) (in_w 1 1 (in_c 1 rfl) rfl))))
  have ct26 : ∀ (k26 : Nat) (sc26 : GS) (y26_1 : Int32), Inv sc26 → Fr fm_360 s sc26 → (In y26_1 0 160) → (PWI sc26) → (PWM (gvZ s) sc26 (y26_1).toNatClampNeg) → 160 - (y26_1).toInt < (k26 : Int) → GG Z (d - 1) 360 post (gx xp) (2168169 + k26 * 900) 26 (fun j => xlook j [(0, .ref (A 109)), (1, .int y26_1)]) [] (WW Z A sc26 ++ ex) 0 0 := by
    intro k26
    induction k26 with
    | zero => intro sc26 y26_1 hIc26 hFc26 j26_1 g26_0 g26_1 mm26; exact m_no mm26 j26_1 rfl
    | succ k26 ih26 =>
      intro sc26 y26_1 hIc26 hFc26 j26_1 g26_0 g26_1 mm26
      refine gg_w (M := 2168169 + k26 * 900 + 900) (by omega) ?_
      refine g_iload_n 27 (gd rfl) rfl rfl ?_
      refine g_sipush 160 30 (gd rfl) rfl rfl ?_
      refine g_cmp_ge 33 161 (gd rfl) rfl rfl (fun c30 => ?_) (fun c30 => ?_)
      · skip
        have i30 := r_le2 160 160 c30 (in_c 160 rfl) j26_1 rfl
        refine g_iconst 0 162 (gd rfl) rfl rfl ?_
        refine g_istore_n 163 (gd rfl) rfl (Nat.le_of_ble_eq_true rfl) ?_
        have n163 : PWI sc26 := by first | exact g26_0 | exact pwi_cg g163_0 (sI_p rfl) rfl rfl rfl
        have n163a : ∀ k : Nat, (k : Int) < ((Int32.ofInt 0)).toInt → (sc26.1 151 k).toInt < 0 := by first | (intro k hk; exfalso; have h0 : (Int32.ofInt 0).toInt = 0 := rfl; omega) | (intro k hk; rw [sI_q]; unfold upd; have e3 : y163_1.toNatClampNeg = y163_1.toInt.toNat := rfl; by_cases c : k = y163_1.toNatClampNeg; (rw [if_pos c]; decide); (rw [if_neg c]; exact g163_1 k (by have a0 := ro_109_20; unfold In at a0; have a1 := ro_109_19; unfold In at a1; have a2 := i30; unfold In at a2; have a3 := (in_c 0 rfl); unfold In at a3; have oc := oc_360_109; omega)))
        have n163b : PWM (gvZ s) sc26 160 := by have h9 := g26_1; rw [show (y26_1).toNatClampNeg = 160 from (by show (y26_1).toInt.toNat = 160; have a0 := ro_109_20; unfold In at a0; have a1 := ro_109_19; unfold In at a1; have a2 := i30; unfold In at a2; have a3 := (in_c 0 rfl); unfold In at a3; have oc := oc_360_109; omega)] at h9; exact h9
        exact gg_w (by omega) (gg_f (gf_cons rfl (gf_cons rfl gf_nil)) (ct163 33 sc26 (Int32.ofInt 0) hIc26 hFc26 (in_w 0 32 (in_c 0 rfl) rfl) n163 n163a n163b (m_in 33 (in_w 0 32 (in_c 0 rfl) rfl) rfl)))
      · skip
        have i30 := r_lt1 0 159 c30 j26_1 (in_c 160 rfl) rfl
        refine g_aload_n 34 (gd rfl) rfl rfl ?_
        refine g_iload_n 35 (gd rfl) rfl rfl ?_
        refine g_callv (X := _) (As := [.int y26_1]) (r := []) (b := A 109) (q := 109) 38 (gd rfl) rfl rfl rfl rfl rfl (ww_o rfl) (Nat.le_of_ble_eq_true rfl) (mc := 0) (ms := 0) (Nat.zero_le _) (Nat.zero_le _) (P := fun v u => _) ?_ (fun e u h => h) (fun v u h => h)
        intro po35 xx35 hp35 hx35
        refine g_enter2 (k := 288) (N := 300) (by omega) rfl (Nat.le_of_ble_eq_true rfl) ?_
        refine g_aload_n 1 (gd rfl) rfl rfl ?_
        refine g_getA (q2 := 112) 4 (gd rfl) rfl rfl rfl rfl ?_
        refine g_aload_n 5 (gd rfl) rfl rfl ?_
        refine g_getI 8 (gd rfl) rfl rfl rfl (fun z35x5 e35x5 => ?_)
        have q35x5 : u_109_19 = z35x5 := (fr_F e_109_19 hFc26 rfl).trans e35x5.symm
        subst q35x5
        refine g_iload_n 9 (gd rfl) rfl rfl ?_
        refine g_iadd 10 (gd rfl) rfl (fun z35x9 e35x9 => ?_)
        have i35x9 := in_add 0 319 e35x9 ro_109_19 i30 rfl rfl
        refine g_baload 11 (gd rfl) rfl (n := 480) rfl (in_ix i35x9 rfl) (fun z35x10 e35x10 => ?_)
        have i35x10 := inv_I hIc26 (n := 480) (t := 3) 0 1 rfl (in_ix i35x9 rfl) rfl e35x10
        refine g_if_eq 14 43 (gd rfl) rfl rfl (fun c35x11 => ?_) (fun c35x11 => ?_)
        · skip
          have i35x11 := z_eq 0 0 c35x11 i35x10 rfl
          refine g_iconst 0 44 (gd rfl) rfl rfl ?_
          refine g_ireturn (gd rfl) rfl (nb01 (in_w 0 1 (in_c 0 rfl) rfl)) (hp35 _ _ ?_)
          show GG _ _ _ _ _ _ _ _ [.int (Int32.ofInt 0)] _ _ _
          refine g_if_eq 41 155 (gd rfl) rfl rfl (fun c38 => ?_) (fun c38 => ?_)
          · skip
            refine g_iinc 158 (gd rfl) rfl rfl (Nat.le_of_ble_eq_true rfl) (fun z155 e155 => ?_)
            have i155 := in_add 1 160 e155 i30 (in_c 1 rfl) rfl rfl
            refine g_goto 26 (gd rfl) rfl ?_
            have n26 : PWI sc26 := by exact g26_0
            have n26a : PWM (gvZ s) sc26 (z155).toNatClampNeg := by rw [(show (z155).toNatClampNeg = (y26_1).toNatClampNeg + 1 from (ixn e155 i30))]; exact pwm_n g26_1 (pz_0 hI (show z35x10 = s.1 112 (bs s + (y26_1).toNatClampNeg) from e35x10.trans ((congrFun (hFc26.1 112 rfl) _).trans (congrArg (s.1 112) (show z35x9.toNatClampNeg = bs s + (y26_1).toNatClampNeg from (ixb e35x9 e_109_19 ro_109_19 i30))))) c35x11)
            exact gg_w (by omega) (gg_f (gf_cons rfl (gf_cons rfl gf_nil)) (ih26 sc26 z155 hIc26 hFc26 (in_w 0 160 i155 rfl) n26 n26a (m_up mm26 (t_add e155 i30 (in_c 1 rfl) rfl) (in_w 1 1 (in_c 1 rfl) rfl))))
          · skip
            exact zn_ne c38 (in_c 0 rfl) rfl
        · skip
          have i35x11 := z_ne 1 1 c35x11 i35x10 rfl
          refine g_aload_n 15 (gd rfl) rfl rfl ?_
          refine g_getA (q2 := 113) 18 (gd rfl) rfl rfl rfl rfl ?_
          refine g_aload_n 19 (gd rfl) rfl rfl ?_
          refine g_getI 22 (gd rfl) rfl rfl rfl (fun z35x19 e35x19 => ?_)
          have q35x19 : u_109_19 = z35x19 := (fr_F e_109_19 hFc26 rfl).trans e35x19.symm
          subst q35x19
          refine g_iload_n 23 (gd rfl) rfl rfl ?_
          refine g_iadd 24 (gd rfl) rfl (fun z35x23 e35x23 => ?_)
          have i35x23 := in_add 0 319 e35x23 ro_109_19 i30 rfl rfl
          refine g_iaload 25 (gd rfl) rfl (n := 480) rfl (in_ix i35x23 rfl) (fun z35x24 e35x24 => ?_)
          have i35x24 := inv_I hIc26 (n := 480) (t := 0) 0 31 rfl (in_ix i35x23 rfl) rfl e35x24
          refine g_aload_n 26 (gd rfl) rfl rfl ?_
          refine g_getA (q2 := 114) 29 (gd rfl) rfl rfl rfl rfl ?_
          refine g_aload_n 30 (gd rfl) rfl rfl ?_
          refine g_getI 33 (gd rfl) rfl rfl rfl (fun z35x30 e35x30 => ?_)
          have q35x30 : u_109_19 = z35x30 := (fr_F e_109_19 hFc26 rfl).trans e35x30.symm
          subst q35x30
          refine g_iload_n 34 (gd rfl) rfl rfl ?_
          refine g_iadd 35 (gd rfl) rfl (fun z35x34 e35x34 => ?_)
          have i35x34 := in_add 0 319 e35x34 ro_109_19 i30 rfl rfl
          refine g_iaload 36 (gd rfl) rfl (n := 480) rfl (in_ix i35x34 rfl) (fun z35x35 e35x35 => ?_)
          have i35x35 := inv_I hIc26 (n := 480) (t := 0) 0 31 rfl (in_ix i35x34 rfl) rfl e35x35
          refine g_cmp_eq 39 43 (gd rfl) rfl rfl (fun c35x36 => ?_) (fun c35x36 => ?_)
          · skip
            refine g_iconst 0 44 (gd rfl) rfl rfl ?_
            refine g_ireturn (gd rfl) rfl (nb01 (in_w 0 1 (in_c 0 rfl) rfl)) (hp35 _ _ ?_)
            show GG _ _ _ _ _ _ _ _ [.int (Int32.ofInt 0)] _ _ _
            refine g_if_eq 41 155 (gd rfl) rfl rfl (fun c38 => ?_) (fun c38 => ?_)
            · skip
              refine g_iinc 158 (gd rfl) rfl rfl (Nat.le_of_ble_eq_true rfl) (fun z155 e155 => ?_)
              have i155 := in_add 1 160 e155 i30 (in_c 1 rfl) rfl rfl
              refine g_goto 26 (gd rfl) rfl ?_
              have n26 : PWI sc26 := by exact g26_0
              have n26a : PWM (gvZ s) sc26 (z155).toNatClampNeg := by rw [(show (z155).toNatClampNeg = (y26_1).toNatClampNeg + 1 from (ixn e155 i30))]; exact pwm_n g26_1 (pel_1 (gz_e hI (show z35x10 = s.1 112 (bs s + (y26_1).toNatClampNeg) from e35x10.trans ((congrFun (hFc26.1 112 rfl) _).trans (congrArg (s.1 112) (show z35x9.toNatClampNeg = bs s + (y26_1).toNatClampNeg from (ixb e35x9 e_109_19 ro_109_19 i30))))) c35x11 (show z35x24 = s.1 113 (bs s + (y26_1).toNatClampNeg) from e35x24.trans ((congrFun (hFc26.1 113 rfl) _).trans (congrArg (s.1 113) (show z35x23.toNatClampNeg = bs s + (y26_1).toNatClampNeg from (ixb e35x23 e_109_19 ro_109_19 i30))))) (show z35x35 = s.1 114 (bs s + (y26_1).toNatClampNeg) from e35x35.trans ((congrFun (hFc26.1 114 rfl) _).trans (congrArg (s.1 114) (show z35x34.toNatClampNeg = bs s + (y26_1).toNatClampNeg from (ixb e35x34 e_109_19 ro_109_19 i30)))))).1 (gz_e hI (show z35x10 = s.1 112 (bs s + (y26_1).toNatClampNeg) from e35x10.trans ((congrFun (hFc26.1 112 rfl) _).trans (congrArg (s.1 112) (show z35x9.toNatClampNeg = bs s + (y26_1).toNatClampNeg from (ixb e35x9 e_109_19 ro_109_19 i30))))) c35x11 (show z35x24 = s.1 113 (bs s + (y26_1).toNatClampNeg) from e35x24.trans ((congrFun (hFc26.1 113 rfl) _).trans (congrArg (s.1 113) (show z35x23.toNatClampNeg = bs s + (y26_1).toNatClampNeg from (ixb e35x23 e_109_19 ro_109_19 i30))))) (show z35x35 = s.1 114 (bs s + (y26_1).toNatClampNeg) from e35x35.trans ((congrFun (hFc26.1 114 rfl) _).trans (congrArg (s.1 114) (show z35x34.toNatClampNeg = bs s + (y26_1).toNatClampNeg from (ixb e35x34 e_109_19 ro_109_19 i30)))))).2 c35x36)
              exact gg_w (by omega) (gg_f (gf_cons rfl (gf_cons rfl gf_nil)) (ih26 sc26 z155 hIc26 hFc26 (in_w 0 160 i155 rfl) n26 n26a (m_up mm26 (t_add e155 i30 (in_c 1 rfl) rfl) (in_w 1 1 (in_c 1 rfl) rfl))))
            · skip
              exact zn_ne c38 (in_c 0 rfl) rfl
          · skip
            refine g_iconst 1 40 (gd rfl) rfl rfl ?_
            refine g_goto 44 (gd rfl) rfl ?_
            refine g_ireturn (gd rfl) rfl (nb01 (in_w 0 1 (in_c 1 rfl) rfl)) (hp35 _ _ ?_)
            show GG _ _ _ _ _ _ _ _ [.int (Int32.ofInt 1)] _ _ _
            refine g_if_eq 41 155 (gd rfl) rfl rfl (fun c38 => ?_) (fun c38 => ?_)
            · skip
              exact zn_eq c38 (in_c 1 rfl) rfl
            · skip
              refine g_aload_n 42 (gd rfl) rfl rfl ?_
              refine g_getA (q2 := 113) 45 (gd rfl) rfl rfl rfl rfl ?_
              refine g_aload_n 46 (gd rfl) rfl rfl ?_
              refine g_getI 49 (gd rfl) rfl rfl rfl (fun z46 e46 => ?_)
              have q46 : u_109_19 = z46 := (fr_F e_109_19 hFc26 rfl).trans e46.symm
              subst q46
              refine g_iload_n 50 (gd rfl) rfl rfl ?_
              refine g_iadd 51 (gd rfl) rfl (fun z50 e50 => ?_)
              have i50 := in_add 0 319 e50 ro_109_19 i30 rfl rfl
              refine g_iaload 52 (gd rfl) rfl (n := 480) rfl (in_ix i50 rfl) (fun z51 e51 => ?_)
              have i51 := inv_I hIc26 (n := 480) (t := 0) 0 31 rfl (in_ix i50 rfl) rfl e51
              refine g_istore_n 53 (gd rfl) rfl (Nat.le_of_ble_eq_true rfl) ?_
              refine g_aload_n 54 (gd rfl) rfl rfl ?_
              refine g_getA (q2 := 114) 57 (gd rfl) rfl rfl rfl rfl ?_
              refine g_aload_n 58 (gd rfl) rfl rfl ?_
              refine g_getI 61 (gd rfl) rfl rfl rfl (fun z58 e58 => ?_)
              have q58 : u_109_19 = z58 := (fr_F e_109_19 hFc26 rfl).trans e58.symm
              subst q58
              refine g_iload_n 62 (gd rfl) rfl rfl ?_
              refine g_iadd 63 (gd rfl) rfl (fun z62 e62 => ?_)
              have i62 := in_add 0 319 e62 ro_109_19 i30 rfl rfl
              refine g_iaload 64 (gd rfl) rfl (n := 480) rfl (in_ix i62 rfl) (fun z63 e63 => ?_)
              have i63 := inv_I hIc26 (n := 480) (t := 0) 0 31 rfl (in_ix i62 rfl) rfl e63
              refine g_istore_n 65 (gd rfl) rfl (Nat.le_of_ble_eq_true rfl) ?_
              have hk65 := ke_n hIc26 (i := z35x9.toNatClampNeg) (by rw [← (show u_109_19 = sc26.2.2.1 109 19 from fr_F e_109_19 hFc26 rfl)]; show _ ≤ ((z35x9.toInt.toNat : Nat) : Int); have a0 := ro_109_20; unfold In at a0; have a1 := ro_109_19; unfold In at a1; have a2 := i30; unfold In at a2; have a3 := i63; unfold In at a3; have a4 := i51; unfold In at a4; have a5 := i62; unfold In at a5; have a6 := t_add e62 ro_109_19 i30 rfl; have a7 := i50; unfold In at a7; have a8 := t_add e50 ro_109_19 i30 rfl; have a9 := i35x34; unfold In at a9; have a10 := t_add e35x34 ro_109_19 i30 rfl; have a11 := i35x23; unfold In at a11; have a12 := t_add e35x23 ro_109_19 i30 rfl; have a13 := i35x9; unfold In at a13; have a14 := t_add e35x9 ro_109_19 i30 rfl; have oc := oc_360_109; omega) (by rw [← (show u_109_19 = sc26.2.2.1 109 19 from fr_F e_109_19 hFc26 rfl)]; show ((z35x9.toInt.toNat : Nat) : Int) < _; have a0 := ro_109_20; unfold In at a0; have a1 := ro_109_19; unfold In at a1; have a2 := i30; unfold In at a2; have a3 := i63; unfold In at a3; have a4 := i51; unfold In at a4; have a5 := i62; unfold In at a5; have a6 := t_add e62 ro_109_19 i30 rfl; have a7 := i50; unfold In at a7; have a8 := t_add e50 ro_109_19 i30 rfl; have a9 := i35x34; unfold In at a9; have a10 := t_add e35x34 ro_109_19 i30 rfl; have a11 := i35x23; unfold In at a11; have a12 := t_add e35x23 ro_109_19 i30 rfl; have a13 := i35x9; unfold In at a13; have a14 := t_add e35x9 ro_109_19 i30 rfl; have oc := oc_360_109; omega) (by rw [← e35x10]; exact c35x11); have ez65 : z50 = z35x9 := e50.trans e35x9.symm; have ey65 : z62 = z35x9 := e62.trans e35x9.symm
              refine g_aload_n 66 (gd rfl) rfl rfl ?_
              refine g_iload_n 67 (gd rfl) rfl rfl ?_
              refine g_callv (X := _) (As := [.int z51]) (r := []) (b := A 109) (q := 109) 70 (gd rfl) rfl rfl rfl rfl rfl (ww_o rfl) (Nat.le_of_ble_eq_true rfl) (Nat.zero_le _) (Nat.zero_le _) (k_359 (by omega) hIc26 (in_w 0 31 i51 rfl)) (fun e u h => h) (fun v u h => ?_)
              obtain ⟨z67, rfl, rfl, i67, p67⟩ := h
              show GG _ _ _ _ _ _ _ _ [.int z67] _ _ _
              refine g_aload_n 71 (gd rfl) rfl rfl ?_
              refine g_iload_n 72 (gd rfl) rfl rfl ?_
              refine g_callv (X := _) (As := [.int z63]) (r := [.int z67]) (b := A 109) (q := 109) 75 (gd rfl) rfl rfl rfl rfl rfl (ww_o rfl) (Nat.le_of_ble_eq_true rfl) (Nat.zero_le _) (Nat.zero_le _) (k_359 (by omega) hIc26 (in_w 0 31 i63 rfl)) (fun e u h => h) (fun v u h => ?_)
              obtain ⟨z72, rfl, rfl, i72, p72⟩ := h
              show GG _ _ _ _ _ _ _ _ [.int z72, .int z67] _ _ _
              refine g_cmp_eq 78 155 (gd rfl) rfl rfl (fun c75 => ?_) (fun c75 => ?_)
              · skip
                refine g_iinc 158 (gd rfl) rfl rfl (Nat.le_of_ble_eq_true rfl) (fun z155 e155 => ?_)
                have i155 := in_add 1 160 e155 i30 (in_c 1 rfl) rfl rfl
                refine g_goto 26 (gd rfl) rfl ?_
                have n26 : PWI sc26 := by exact g26_0
                have n26a : PWM (gvZ s) sc26 (z155).toNatClampNeg := by rw [(show (z155).toNatClampNeg = (y26_1).toNatClampNeg + 1 from (ixn e155 i30))]; exact pwm_n g26_1 (pz_2 (gz_e hI (show z35x10 = s.1 112 (bs s + (y26_1).toNatClampNeg) from e35x10.trans ((congrFun (hFc26.1 112 rfl) _).trans (congrArg (s.1 112) (show z35x9.toNatClampNeg = bs s + (y26_1).toNatClampNeg from (ixb e35x9 e_109_19 ro_109_19 i30))))) c35x11 (show z51 = s.1 113 (bs s + (y26_1).toNatClampNeg) from e51.trans ((congrFun (hFc26.1 113 rfl) _).trans (congrArg (s.1 113) (show z50.toNatClampNeg = bs s + (y26_1).toNatClampNeg from (ixb e50 e_109_19 ro_109_19 i30))))) (show z63 = s.1 114 (bs s + (y26_1).toNatClampNeg) from e63.trans ((congrFun (hFc26.1 114 rfl) _).trans (congrArg (s.1 114) (show z62.toNatClampNeg = bs s + (y26_1).toNatClampNeg from (ixb e62 e_109_19 ro_109_19 i30)))))) (by rw [← fs_cg (hFc26.1 111 rfl) (hFc26.2.2.1 109 18 rfl), ← fs_cg (hFc26.1 111 rfl) (hFc26.2.2.1 109 18 rfl)]; exact ⟨fun h => p72.mp (by have h8 := p67.mpr h; have h7 := c75; omega), fun h => p67.mp (by have h8 := p72.mpr h; have h7 := c75; omega)⟩))
                exact gg_w (by omega) (gg_f (gf_cons rfl (gf_cons rfl gf_nil)) (ih26 sc26 z155 hIc26 hFc26 (in_w 0 160 i155 rfl) n26 n26a (m_up mm26 (t_add e155 i30 (in_c 1 rfl) rfl) (in_w 1 1 (in_c 1 rfl) rfl))))
              · skip
                refine g_aload_n 79 (gd rfl) rfl rfl ?_
                refine g_iload_n 80 (gd rfl) rfl rfl ?_
                refine g_callv (X := _) (As := [.int z51]) (r := []) (b := A 109) (q := 109) 83 (gd rfl) rfl rfl rfl rfl rfl (ww_o rfl) (Nat.le_of_ble_eq_true rfl) (Nat.zero_le _) (Nat.zero_le _) (k_359 (by omega) hIc26 (in_w 0 31 i51 rfl)) (fun e u h => h) (fun v u h => ?_)
                obtain ⟨z80, rfl, rfl, i80, p80⟩ := h
                show GG _ _ _ _ _ _ _ _ [.int z80] _ _ _
                refine g_if_eq 86 95 (gd rfl) rfl rfl (fun c83 => ?_) (fun c83 => ?_)
                · skip
                  have i83 := z_eq 0 0 c83 i80 rfl
                  refine g_bipush 32 97 (gd rfl) rfl rfl ?_
                  refine g_iload_n 98 (gd rfl) rfl rfl ?_
                  refine g_imul 99 (gd rfl) rfl (fun z98 e98 => ?_)
                  have i98 := in_mulc 32 0 992 (Or.inl e98) i63 rfl rfl
                  refine g_iload_n 100 (gd rfl) rfl rfl ?_
                  refine g_iadd 101 (gd rfl) rfl (fun z100 e100 => ?_)
                  have i100 := in_add 0 1023 e100 i98 i51 rfl rfl
                  refine g_istore 103 (gd rfl) rfl (Nat.le_of_ble_eq_true rfl) ?_
                  refine g_aload_n 104 (gd rfl) rfl rfl ?_
                  refine g_getA (q2 := 152) 107 (gd rfl) rfl rfl rfl rfl ?_
                  refine g_iload 109 (gd rfl) rfl rfl ?_
                  refine g_aload_n 110 (gd rfl) rfl rfl ?_
                  refine g_getA (q2 := 115) 113 (gd rfl) rfl rfl rfl rfl ?_
                  refine g_aload_n 114 (gd rfl) rfl rfl ?_
                  refine g_getI 117 (gd rfl) rfl rfl rfl (fun z114 e114 => ?_)
                  have q114 : u_109_19 = z114 := (fr_F e_109_19 hFc26 rfl).trans e114.symm
                  subst q114
                  refine g_iload_n 118 (gd rfl) rfl rfl ?_
                  refine g_iadd 119 (gd rfl) rfl (fun z118 e118 => ?_)
                  have i118 := in_add 0 319 e118 ro_109_19 i30 rfl rfl
                  refine g_iaload 120 (gd rfl) rfl (n := 480) rfl (in_ix i118 rfl) (fun z119 e119 => ?_)
                  have i119 := inv_I hIc26 (n := 480) (t := 0) (-1000000) 1000000 rfl (in_ix i118 rfl) rfl e119
                  refine g_i2l 121 (gd rfl) rfl (fun z120 e120 => ?_)
                  have i120 := l_i e120 i119
                  refine g_aload_n 122 (gd rfl) rfl rfl ?_
                  refine g_getA (q2 := 152) 125 (gd rfl) rfl rfl rfl rfl ?_
                  refine g_iload 127 (gd rfl) rfl rfl ?_
                  refine g_laload 128 (gd rfl) rfl (n := 1024) rfl (in_ix i100 rfl) (fun z127 e127 => ?_)
                  refine g_lcmp 129 (gd rfl) rfl (fun z128 e128 => ?_)
                  have i128 := lc_in e128
                  refine g_if_ge 132 147 (gd rfl) rfl rfl (fun c129 => ?_) (fun c129 => ?_)
                  · skip
                    have i129 := z_ge 0 1 c129 i128 rfl
                    have c129a := lc_ge e128 c129
                    have i129a := lr_le1 (-9223372036854775808) 1000000 c129a (l_rng z127) i120 rfl
                    refine g_aload_n 148 (gd rfl) rfl rfl ?_
                    refine g_getA (q2 := 152) 151 (gd rfl) rfl rfl rfl rfl ?_
                    refine g_iload 153 (gd rfl) rfl rfl ?_
                    refine g_laload 154 (gd rfl) rfl (n := 1024) rfl (in_ix i100 rfl) (fun z153 e153 => ?_)
                    refine g_lastore 155 (gd rfl) rfl (n := 1024) rfl (in_ix i100 rfl) ?_
                    have hI154 := inv_sL (q := 152) (j := z100.toNatClampNeg) (x := z153) hIc26 rfl (l_rng z153)
                    refine g_iinc 158 (gd rfl) rfl rfl (Nat.le_of_ble_eq_true rfl) (fun z155 e155 => ?_)
                    have i155 := in_add 1 160 e155 i30 (in_c 1 rfl) rfl rfl
                    refine g_goto 26 (gd rfl) rfl ?_
                    have n26 : PWI (sL sc26 152 z100.toNatClampNeg z153) := by exact pwi_s (u := z63) (v := z51) (k := z100.toNatClampNeg) (w := z153) g26_0 i63 i51 (ixm e98 e100 i98 i63 i51) rfl rfl rfl (by simp [sL]) (Or.inl e153)
                    have n26a : PWM (gvZ s) (sL sc26 152 z100.toNatClampNeg z153) (z155).toNatClampNeg := by rw [(show (z155).toNatClampNeg = (y26_1).toNatClampNeg + 1 from (ixn e155 i30))]; exact pwz_y (w2 := z119) g26_1 (pz_4 (gz_e hI (show z35x10 = s.1 112 (bs s + (y26_1).toNatClampNeg) from e35x10.trans ((congrFun (hFc26.1 112 rfl) _).trans (congrArg (s.1 112) (show z35x9.toNatClampNeg = bs s + (y26_1).toNatClampNeg from (ixb e35x9 e_109_19 ro_109_19 i30))))) c35x11 (show z51 = s.1 113 (bs s + (y26_1).toNatClampNeg) from e51.trans ((congrFun (hFc26.1 113 rfl) _).trans (congrArg (s.1 113) (show z50.toNatClampNeg = bs s + (y26_1).toNatClampNeg from (ixb e50 e_109_19 ro_109_19 i30))))) (show z63 = s.1 114 (bs s + (y26_1).toNatClampNeg) from e63.trans ((congrFun (hFc26.1 114 rfl) _).trans (congrArg (s.1 114) (show z62.toNatClampNeg = bs s + (y26_1).toNatClampNeg from (ixb e62 e_109_19 ro_109_19 i30)))))) (nm1 i51) (by rw [e51, e63, e50.trans e35x23.symm, e62.trans e35x34.symm, ← e35x24, ← e35x35]; exact c35x36) (fun h => (fun h => absurd (p80.mpr h) (by have h2 := c83; omega)) ((fs_cg (hFc26.1 111 rfl) (hFc26.2.2.1 109 18 rfl)).mpr h)) ((fs_cg (hFc26.1 111 rfl) (hFc26.2.2.1 109 18 rfl)).mp (p72.mp (by intro h72; have h1 : ¬ z67.toInt ≠ 0 := (fun h => absurd (p80.mpr (p67.mp h)) (by have h2 := c83; omega)); have r67 := i67; have r72 := i72; unfold In at r67 r72; have h3 := c75; omega)))) i63 i51 (show z100.toNatClampNeg = 32 * z63.toNatClampNeg + z51.toNatClampNeg from (ixm e98 e100 i98 i63 i51)) (gz_w hI (show z119 = s.1 115 (bs s + (y26_1).toNatClampNeg) from e119.trans ((congrFun (hFc26.1 115 rfl) _).trans (congrArg (s.1 115) (show z118.toNatClampNeg = bs s + (y26_1).toNatClampNeg from (ixb e118 e_109_19 ro_109_19 i30)))))) e120 e127 sL_qn (Or.inr ⟨e153, c129a⟩)
                    exact gg_w (by omega) (gg_f (gf_cons rfl (gf_cons rfl gf_nil)) (ih26 (sL sc26 152 z100.toNatClampNeg z153) z155 hI154 (fr_sL rfl hFc26) (in_w 0 160 i155 rfl) n26 n26a (m_up mm26 (t_add e155 i30 (in_c 1 rfl) rfl) (in_w 1 1 (in_c 1 rfl) rfl))))
                  · skip
                    have i129 := z_lt (-1) (-1) c129 i128 rfl
                    have c129a := lc_lt e128 c129
                    have i129a := lr_lt2 (-999999) 9223372036854775807 c129a i120 (l_rng z127) rfl
                    refine g_aload_n 133 (gd rfl) rfl rfl ?_
                    refine g_getA (q2 := 115) 136 (gd rfl) rfl rfl rfl rfl ?_
                    refine g_aload_n 137 (gd rfl) rfl rfl ?_
                    refine g_getI 140 (gd rfl) rfl rfl rfl (fun z137 e137 => ?_)
                    have q137 : u_109_19 = z137 := (fr_F e_109_19 hFc26 rfl).trans e137.symm
                    subst q137
                    refine g_iload_n 141 (gd rfl) rfl rfl ?_
                    refine g_iadd 142 (gd rfl) rfl (fun z141 e141 => ?_)
                    have i141 := in_add 0 319 e141 ro_109_19 i30 rfl rfl
                    refine g_iaload 143 (gd rfl) rfl (n := 480) rfl (in_ix i141 rfl) (fun z142 e142 => ?_)
                    have i142 := inv_I hIc26 (n := 480) (t := 0) (-1000000) 1000000 rfl (in_ix i141 rfl) rfl e142
                    refine g_i2l 144 (gd rfl) rfl (fun z143 e143 => ?_)
                    have i143 := l_i e143 i142
                    refine g_goto 154 (gd rfl) rfl ?_
                    refine g_lastore 155 (gd rfl) rfl (n := 1024) rfl (in_ix i100 rfl) ?_
                    have hI154 := inv_sL (q := 152) (j := z100.toNatClampNeg) (x := z143) hIc26 rfl (l_rng z143)
                    refine g_iinc 158 (gd rfl) rfl rfl (Nat.le_of_ble_eq_true rfl) (fun z155 e155 => ?_)
                    have i155 := in_add 1 160 e155 i30 (in_c 1 rfl) rfl rfl
                    refine g_goto 26 (gd rfl) rfl ?_
                    have n26 : PWI (sL sc26 152 z100.toNatClampNeg z143) := by exact pwi_s (u := z63) (v := z51) (k := z100.toNatClampNeg) (w := z143) g26_0 i63 i51 (ixm e98 e100 i98 i63 i51) rfl rfl rfl (by simp [sL]) (Or.inr ⟨(by rw [e63, ey65]; exact hk65.2), (by rw [e51, ez65]; exact hk65.1), (p72.mp (by intro h72; have h1 : ¬ z67.toInt ≠ 0 := (fun h => absurd (p80.mpr (p67.mp h)) (by have h2 := c83; omega)); have r67 := i67; have r72 := i72; unfold In at r67 r72; have h3 := c75; omega)), (fun h => absurd (p80.mpr h) (by have h2 := c83; omega)), i143⟩)
                    have n26a : PWM (gvZ s) (sL sc26 152 z100.toNatClampNeg z143) (z155).toNatClampNeg := by rw [(show (z155).toNatClampNeg = (y26_1).toNatClampNeg + 1 from (ixn e155 i30))]; exact pwz_y (w2 := z142) g26_1 (pz_4 (gz_e hI (show z35x10 = s.1 112 (bs s + (y26_1).toNatClampNeg) from e35x10.trans ((congrFun (hFc26.1 112 rfl) _).trans (congrArg (s.1 112) (show z35x9.toNatClampNeg = bs s + (y26_1).toNatClampNeg from (ixb e35x9 e_109_19 ro_109_19 i30))))) c35x11 (show z51 = s.1 113 (bs s + (y26_1).toNatClampNeg) from e51.trans ((congrFun (hFc26.1 113 rfl) _).trans (congrArg (s.1 113) (show z50.toNatClampNeg = bs s + (y26_1).toNatClampNeg from (ixb e50 e_109_19 ro_109_19 i30))))) (show z63 = s.1 114 (bs s + (y26_1).toNatClampNeg) from e63.trans ((congrFun (hFc26.1 114 rfl) _).trans (congrArg (s.1 114) (show z62.toNatClampNeg = bs s + (y26_1).toNatClampNeg from (ixb e62 e_109_19 ro_109_19 i30)))))) (nm1 i51) (by rw [e51, e63, e50.trans e35x23.symm, e62.trans e35x34.symm, ← e35x24, ← e35x35]; exact c35x36) (fun h => (fun h => absurd (p80.mpr h) (by have h2 := c83; omega)) ((fs_cg (hFc26.1 111 rfl) (hFc26.2.2.1 109 18 rfl)).mpr h)) ((fs_cg (hFc26.1 111 rfl) (hFc26.2.2.1 109 18 rfl)).mp (p72.mp (by intro h72; have h1 : ¬ z67.toInt ≠ 0 := (fun h => absurd (p80.mpr (p67.mp h)) (by have h2 := c83; omega)); have r67 := i67; have r72 := i72; unfold In at r67 r72; have h3 := c75; omega)))) i63 i51 (show z100.toNatClampNeg = 32 * z63.toNatClampNeg + z51.toNatClampNeg from (ixm e98 e100 i98 i63 i51)) (gz_w hI (show z119 = s.1 115 (bs s + (y26_1).toNatClampNeg) from e119.trans ((congrFun (hFc26.1 115 rfl) _).trans (congrArg (s.1 115) (show z118.toNatClampNeg = bs s + (y26_1).toNatClampNeg from (ixb e118 e_109_19 ro_109_19 i30)))))) e120 e127 sL_qn (Or.inl ⟨(gz_w hI (show z142 = s.1 115 (bs s + (y26_1).toNatClampNeg) from e142.trans ((congrFun (hFc26.1 115 rfl) _).trans (congrArg (s.1 115) (show z141.toNatClampNeg = bs s + (y26_1).toNatClampNeg from (ixb e141 e_109_19 ro_109_19 i30)))))), e143, c129a⟩)
                    exact gg_w (by omega) (gg_f (gf_cons rfl (gf_cons rfl gf_nil)) (ih26 (sL sc26 152 z100.toNatClampNeg z143) z155 hI154 (fr_sL rfl hFc26) (in_w 0 160 i155 rfl) n26 n26a (m_up mm26 (t_add e155 i30 (in_c 1 rfl) rfl) (in_w 1 1 (in_c 1 rfl) rfl))))
                · skip
                  have i83 := z_ne 1 1 c83 i80 rfl
                  refine g_bipush 32 88 (gd rfl) rfl rfl ?_
                  refine g_iload_n 89 (gd rfl) rfl rfl ?_
                  refine g_imul 90 (gd rfl) rfl (fun z89 e89 => ?_)
                  have i89 := in_mulc 32 0 992 (Or.inl e89) i51 rfl rfl
                  refine g_iload_n 91 (gd rfl) rfl rfl ?_
                  refine g_iadd 92 (gd rfl) rfl (fun z91 e91 => ?_)
                  have i91 := in_add 0 1023 e91 i89 i63 rfl rfl
                  refine g_goto 101 (gd rfl) rfl ?_
                  refine g_istore 103 (gd rfl) rfl (Nat.le_of_ble_eq_true rfl) ?_
                  refine g_aload_n 104 (gd rfl) rfl rfl ?_
                  refine g_getA (q2 := 152) 107 (gd rfl) rfl rfl rfl rfl ?_
                  refine g_iload 109 (gd rfl) rfl rfl ?_
                  refine g_aload_n 110 (gd rfl) rfl rfl ?_
                  refine g_getA (q2 := 115) 113 (gd rfl) rfl rfl rfl rfl ?_
                  refine g_aload_n 114 (gd rfl) rfl rfl ?_
                  refine g_getI 117 (gd rfl) rfl rfl rfl (fun z114 e114 => ?_)
                  have q114 : u_109_19 = z114 := (fr_F e_109_19 hFc26 rfl).trans e114.symm
                  subst q114
                  refine g_iload_n 118 (gd rfl) rfl rfl ?_
                  refine g_iadd 119 (gd rfl) rfl (fun z118 e118 => ?_)
                  have i118 := in_add 0 319 e118 ro_109_19 i30 rfl rfl
                  refine g_iaload 120 (gd rfl) rfl (n := 480) rfl (in_ix i118 rfl) (fun z119 e119 => ?_)
                  have i119 := inv_I hIc26 (n := 480) (t := 0) (-1000000) 1000000 rfl (in_ix i118 rfl) rfl e119
                  refine g_i2l 121 (gd rfl) rfl (fun z120 e120 => ?_)
                  have i120 := l_i e120 i119
                  refine g_aload_n 122 (gd rfl) rfl rfl ?_
                  refine g_getA (q2 := 152) 125 (gd rfl) rfl rfl rfl rfl ?_
                  refine g_iload 127 (gd rfl) rfl rfl ?_
                  refine g_laload 128 (gd rfl) rfl (n := 1024) rfl (in_ix i91 rfl) (fun z127 e127 => ?_)
                  refine g_lcmp 129 (gd rfl) rfl (fun z128 e128 => ?_)
                  have i128 := lc_in e128
                  refine g_if_ge 132 147 (gd rfl) rfl rfl (fun c129 => ?_) (fun c129 => ?_)
                  · skip
                    have i129 := z_ge 0 1 c129 i128 rfl
                    have c129a := lc_ge e128 c129
                    have i129a := lr_le1 (-9223372036854775808) 1000000 c129a (l_rng z127) i120 rfl
                    refine g_aload_n 148 (gd rfl) rfl rfl ?_
                    refine g_getA (q2 := 152) 151 (gd rfl) rfl rfl rfl rfl ?_
                    refine g_iload 153 (gd rfl) rfl rfl ?_
                    refine g_laload 154 (gd rfl) rfl (n := 1024) rfl (in_ix i91 rfl) (fun z153 e153 => ?_)
                    refine g_lastore 155 (gd rfl) rfl (n := 1024) rfl (in_ix i91 rfl) ?_
                    have hI154 := inv_sL (q := 152) (j := z91.toNatClampNeg) (x := z153) hIc26 rfl (l_rng z153)
                    refine g_iinc 158 (gd rfl) rfl rfl (Nat.le_of_ble_eq_true rfl) (fun z155 e155 => ?_)
                    have i155 := in_add 1 160 e155 i30 (in_c 1 rfl) rfl rfl
                    refine g_goto 26 (gd rfl) rfl ?_
                    have n26 : PWI (sL sc26 152 z91.toNatClampNeg z153) := by exact pwi_s (u := z51) (v := z63) (k := z91.toNatClampNeg) (w := z153) g26_0 i51 i63 (ixm e89 e91 i89 i51 i63) rfl rfl rfl (by simp [sL]) (Or.inl e153)
                    have n26a : PWM (gvZ s) (sL sc26 152 z91.toNatClampNeg z153) (z155).toNatClampNeg := by rw [(show (z155).toNatClampNeg = (y26_1).toNatClampNeg + 1 from (ixn e155 i30))]; exact pwz_y (w2 := z119) g26_1 (pz_3 (gz_e hI (show z35x10 = s.1 112 (bs s + (y26_1).toNatClampNeg) from e35x10.trans ((congrFun (hFc26.1 112 rfl) _).trans (congrArg (s.1 112) (show z35x9.toNatClampNeg = bs s + (y26_1).toNatClampNeg from (ixb e35x9 e_109_19 ro_109_19 i30))))) c35x11 (show z51 = s.1 113 (bs s + (y26_1).toNatClampNeg) from e51.trans ((congrFun (hFc26.1 113 rfl) _).trans (congrArg (s.1 113) (show z50.toNatClampNeg = bs s + (y26_1).toNatClampNeg from (ixb e50 e_109_19 ro_109_19 i30))))) (show z63 = s.1 114 (bs s + (y26_1).toNatClampNeg) from e63.trans ((congrFun (hFc26.1 114 rfl) _).trans (congrArg (s.1 114) (show z62.toNatClampNeg = bs s + (y26_1).toNatClampNeg from (ixb e62 e_109_19 ro_109_19 i30)))))) (nm1 i51) (by rw [e51, e63, e50.trans e35x23.symm, e62.trans e35x34.symm, ← e35x24, ← e35x35]; exact c35x36) ((fs_cg (hFc26.1 111 rfl) (hFc26.2.2.1 109 18 rfl)).mp (p80.mp c83)) (fun h => (fun h => by have h1 := p72.mpr h; have h2 := p67.mpr (p80.mp c83); have r67 := i67; have r72 := i72; unfold In at r67 r72; have h3 := c75; omega) ((fs_cg (hFc26.1 111 rfl) (hFc26.2.2.1 109 18 rfl)).mpr h))) i51 i63 (show z91.toNatClampNeg = 32 * z51.toNatClampNeg + z63.toNatClampNeg from (ixm e89 e91 i89 i51 i63)) (gz_w hI (show z119 = s.1 115 (bs s + (y26_1).toNatClampNeg) from e119.trans ((congrFun (hFc26.1 115 rfl) _).trans (congrArg (s.1 115) (show z118.toNatClampNeg = bs s + (y26_1).toNatClampNeg from (ixb e118 e_109_19 ro_109_19 i30)))))) e120 e127 sL_qn (Or.inr ⟨e153, c129a⟩)
                    exact gg_w (by omega) (gg_f (gf_cons rfl (gf_cons rfl gf_nil)) (ih26 (sL sc26 152 z91.toNatClampNeg z153) z155 hI154 (fr_sL rfl hFc26) (in_w 0 160 i155 rfl) n26 n26a (m_up mm26 (t_add e155 i30 (in_c 1 rfl) rfl) (in_w 1 1 (in_c 1 rfl) rfl))))
                  · skip
                    have i129 := z_lt (-1) (-1) c129 i128 rfl
                    have c129a := lc_lt e128 c129
                    have i129a := lr_lt2 (-999999) 9223372036854775807 c129a i120 (l_rng z127) rfl
                    refine g_aload_n 133 (gd rfl) rfl rfl ?_
                    refine g_getA (q2 := 115) 136 (gd rfl) rfl rfl rfl rfl ?_
                    refine g_aload_n 137 (gd rfl) rfl rfl ?_
                    refine g_getI 140 (gd rfl) rfl rfl rfl (fun z137 e137 => ?_)
                    have q137 : u_109_19 = z137 := (fr_F e_109_19 hFc26 rfl).trans e137.symm
                    subst q137
                    refine g_iload_n 141 (gd rfl) rfl rfl ?_
                    refine g_iadd 142 (gd rfl) rfl (fun z141 e141 => ?_)
                    have i141 := in_add 0 319 e141 ro_109_19 i30 rfl rfl
                    refine g_iaload 143 (gd rfl) rfl (n := 480) rfl (in_ix i141 rfl) (fun z142 e142 => ?_)
                    have i142 := inv_I hIc26 (n := 480) (t := 0) (-1000000) 1000000 rfl (in_ix i141 rfl) rfl e142
                    refine g_i2l 144 (gd rfl) rfl (fun z143 e143 => ?_)
                    have i143 := l_i e143 i142
                    refine g_goto 154 (gd rfl) rfl ?_
                    refine g_lastore 155 (gd rfl) rfl (n := 1024) rfl (in_ix i91 rfl) ?_
                    have hI154 := inv_sL (q := 152) (j := z91.toNatClampNeg) (x := z143) hIc26 rfl (l_rng z143)
                    refine g_iinc 158 (gd rfl) rfl rfl (Nat.le_of_ble_eq_true rfl) (fun z155 e155 => ?_)
                    have i155 := in_add 1 160 e155 i30 (in_c 1 rfl) rfl rfl
                    refine g_goto 26 (gd rfl) rfl ?_
                    have n26 : PWI (sL sc26 152 z91.toNatClampNeg z143) := by exact pwi_s (u := z51) (v := z63) (k := z91.toNatClampNeg) (w := z143) g26_0 i51 i63 (ixm e89 e91 i89 i51 i63) rfl rfl rfl (by simp [sL]) (Or.inr ⟨(by rw [e51, ez65]; exact hk65.1), (by rw [e63, ey65]; exact hk65.2), p80.mp c83, (fun h => by have h1 := p72.mpr h; have h2 := p67.mpr (p80.mp c83); have r67 := i67; have r72 := i72; unfold In at r67 r72; have h3 := c75; omega), i143⟩)
                    have n26a : PWM (gvZ s) (sL sc26 152 z91.toNatClampNeg z143) (z155).toNatClampNeg := by rw [(show (z155).toNatClampNeg = (y26_1).toNatClampNeg + 1 from (ixn e155 i30))]; exact pwz_y (w2 := z142) g26_1 (pz_3 (gz_e hI (show z35x10 = s.1 112 (bs s + (y26_1).toNatClampNeg) from e35x10.trans ((congrFun (hFc26.1 112 rfl) _).trans (congrArg (s.1 112) (show z35x9.toNatClampNeg = bs s + (y26_1).toNatClampNeg from (ixb e35x9 e_109_19 ro_109_19 i30))))) c35x11 (show z51 = s.1 113 (bs s + (y26_1).toNatClampNeg) from e51.trans ((congrFun (hFc26.1 113 rfl) _).trans (congrArg (s.1 113) (show z50.toNatClampNeg = bs s + (y26_1).toNatClampNeg from (ixb e50 e_109_19 ro_109_19 i30))))) (show z63 = s.1 114 (bs s + (y26_1).toNatClampNeg) from e63.trans ((congrFun (hFc26.1 114 rfl) _).trans (congrArg (s.1 114) (show z62.toNatClampNeg = bs s + (y26_1).toNatClampNeg from (ixb e62 e_109_19 ro_109_19 i30)))))) (nm1 i51) (by rw [e51, e63, e50.trans e35x23.symm, e62.trans e35x34.symm, ← e35x24, ← e35x35]; exact c35x36) ((fs_cg (hFc26.1 111 rfl) (hFc26.2.2.1 109 18 rfl)).mp (p80.mp c83)) (fun h => (fun h => by have h1 := p72.mpr h; have h2 := p67.mpr (p80.mp c83); have r67 := i67; have r72 := i72; unfold In at r67 r72; have h3 := c75; omega) ((fs_cg (hFc26.1 111 rfl) (hFc26.2.2.1 109 18 rfl)).mpr h))) i51 i63 (show z91.toNatClampNeg = 32 * z51.toNatClampNeg + z63.toNatClampNeg from (ixm e89 e91 i89 i51 i63)) (gz_w hI (show z119 = s.1 115 (bs s + (y26_1).toNatClampNeg) from e119.trans ((congrFun (hFc26.1 115 rfl) _).trans (congrArg (s.1 115) (show z118.toNatClampNeg = bs s + (y26_1).toNatClampNeg from (ixb e118 e_109_19 ro_109_19 i30)))))) e120 e127 sL_qn (Or.inl ⟨(gz_w hI (show z142 = s.1 115 (bs s + (y26_1).toNatClampNeg) from e142.trans ((congrFun (hFc26.1 115 rfl) _).trans (congrArg (s.1 115) (show z141.toNatClampNeg = bs s + (y26_1).toNatClampNeg from (ixb e141 e_109_19 ro_109_19 i30)))))), e143, c129a⟩)
                    exact gg_w (by omega) (gg_f (gf_cons rfl (gf_cons rfl gf_nil)) (ih26 (sL sc26 152 z91.toNatClampNeg z143) z155 hI154 (fr_sL rfl hFc26) (in_w 0 160 i155 rfl) n26 n26a (m_up mm26 (t_add e155 i30 (in_c 1 rfl) rfl) (in_w 1 1 (in_c 1 rfl) rfl))))
  have ct2 : ∀ (k2 : Nat) (sc2 : GS) (y2_1 : Int32), Inv sc2 → Fr fm_360 s sc2 → (In y2_1 0 1024) → (∀ k : Nat, (k : Int) < (y2_1).toInt → (sc2.2.1 152 k).toInt = 9000000000000000) → 1024 - (y2_1).toInt < (k2 : Int) → GG Z (d - 1) 360 post (gx xp) (2313070 + k2 * 900) 2 (fun j => xlook j [(0, .ref (A 109)), (1, .int y2_1)]) [] (WW Z A sc2 ++ ex) 0 0 := by
    intro k2
    induction k2 with
    | zero => intro sc2 y2_1 hIc2 hFc2 j2_1 g2_0 mm2; exact m_no mm2 j2_1 rfl
    | succ k2 ih2 =>
      intro sc2 y2_1 hIc2 hFc2 j2_1 g2_0 mm2
      refine gg_w (M := 2313070 + k2 * 900 + 900) (by omega) ?_
      refine g_iload_n 3 (gd rfl) rfl rfl ?_
      refine g_sipush 1024 6 (gd rfl) rfl rfl ?_
      refine g_cmp_ge 9 24 (gd rfl) rfl rfl (fun c6 => ?_) (fun c6 => ?_)
      · skip
        have i6 := r_le2 1024 1024 c6 (in_c 1024 rfl) j2_1 rfl
        refine g_iconst 0 25 (gd rfl) rfl rfl ?_
        refine g_istore_n 26 (gd rfl) rfl (Nat.le_of_ble_eq_true rfl) ?_
        have n26 : PWI sc2 := by (intro u v hu hv hp; exfalso; have h := g2_0 (32 * u + v) (by have a0 := ro_109_20; unfold In at a0; have a1 := ro_109_19; unfold In at a1; have a2 := i6; unfold In at a2; have a3 := (in_c 0 rfl); unfold In at a3; have oc := oc_360_109; omega); unfold pwq at hp; omega)
        have n26a : PWM (gvZ s) sc2 ((Int32.ofInt 0)).toNatClampNeg := by exact (show PWM _ _ 0 from pwm_0 (fun u v hu hv => by unfold pwq; rw [g2_0 (32 * u + v) (by have a0 := ro_109_20; unfold In at a0; have a1 := ro_109_19; unfold In at a1; have a2 := i6; unfold In at a2; have a3 := (in_c 0 rfl); unfold In at a3; have oc := oc_360_109; omega)]; exact Int.lt_irrefl _))
        exact gg_w (by omega) (gg_f (gf_cons rfl (gf_cons rfl gf_nil)) (ct26 161 sc2 (Int32.ofInt 0) hIc2 hFc2 (in_w 0 160 (in_c 0 rfl) rfl) n26 n26a (m_in 161 (in_w 0 160 (in_c 0 rfl) rfl) rfl)))
      · skip
        have i6 := r_lt1 0 1023 c6 j2_1 (in_c 1024 rfl) rfl
        refine g_aload_n 10 (gd rfl) rfl rfl ?_
        refine g_getA (q2 := 152) 13 (gd rfl) rfl rfl rfl rfl ?_
        refine g_iload_n 14 (gd rfl) rfl rfl ?_
        refine g_ldc2_w 9000000000000000 17 (gd rfl) rfl rfl ?_
        refine g_lastore 18 (gd rfl) rfl (n := 1024) rfl (in_ix i6 rfl) ?_
        have hI17 := inv_sL (q := 152) (j := y2_1.toNatClampNeg) (x := (Int64.ofInt 9000000000000000)) hIc2 rfl (l_rng (Int64.ofInt 9000000000000000))
        refine g_iinc 21 (gd rfl) rfl rfl (Nat.le_of_ble_eq_true rfl) (fun z18 e18 => ?_)
        have i18 := in_add 1 1024 e18 i6 (in_c 1 rfl) rfl rfl
        refine g_goto 2 (gd rfl) rfl ?_
        have n2 : ∀ k : Nat, (k : Int) < (z18).toInt → ((sL sc2 152 y2_1.toNatClampNeg (Int64.ofInt 9000000000000000)).2.1 152 k).toInt = 9000000000000000 := by first | (intro k hk; exfalso; have h0 : (Int32.ofInt 0).toInt = 0 := rfl; omega) | (intro k hk; have e2 : y2_1.toNatClampNeg = y2_1.toInt.toNat := rfl; rw [show ((sL sc2 152 y2_1.toNatClampNeg (Int64.ofInt 9000000000000000))).2.1 152 = vp_updL (sc2.2.1 152) y2_1.toNatClampNeg (Int64.ofInt 9000000000000000) from (by simp [sI, sL])]; by_cases c : k = y2_1.toNatClampNeg; (rw [c, ul_eq]; exact (by have hl : InL (Int64.ofInt 9000000000000000) 9000000000000000 9000000000000000 := l_c 9000000000000000 rfl; exact Int.le_antisymm hl.2 hl.1)); (rw [ul_ne c]; exact g2_0 k (by have a0 := ro_109_20; unfold In at a0; have a1 := ro_109_19; unfold In at a1; have a2 := i6; unfold In at a2; have a3 := i18; unfold In at a3; have a4 := t_add e18 i6 (in_c 1 rfl) rfl; have a5 := (in_c 1 rfl); unfold In at a5; have oc := oc_360_109; omega)))
        exact gg_w (by omega) (gg_f (gf_cons rfl (gf_cons rfl gf_nil)) (ih2 (sL sc2 152 y2_1.toNatClampNeg (Int64.ofInt 9000000000000000)) z18 hI17 (fr_sL rfl hFc2) (in_w 0 1024 i18 rfl) n2 (m_up mm2 (t_add e18 i6 (in_c 1 rfl) rfl) (in_w 1 1 (in_c 1 rfl) rfl))))
  refine g_enter2 (k := 360) (N := 3236470) (by omega) rfl (Nat.le_of_ble_eq_true rfl) ?_
  refine g_iconst 0 1 (gd rfl) rfl rfl ?_
  refine g_istore_n 2 (gd rfl) rfl (Nat.le_of_ble_eq_true rfl) ?_
  have n2 : ∀ k : Nat, (k : Int) < ((Int32.ofInt 0)).toInt → (s.2.1 152 k).toInt = 9000000000000000 := by first | (intro k hk; exfalso; have h0 : (Int32.ofInt 0).toInt = 0 := rfl; omega) | (intro k hk; have e2 : y2_1.toNatClampNeg = y2_1.toInt.toNat := rfl; rw [show (s).2.1 152 = vp_updL (sc2.2.1 152) y2_1.toNatClampNeg (Int64.ofInt 9000000000000000) from (by simp [sI, sL])]; by_cases c : k = y2_1.toNatClampNeg; (rw [c, ul_eq]; exact (by have hl : InL (Int64.ofInt 9000000000000000) 9000000000000000 9000000000000000 := l_c 9000000000000000 rfl; exact Int.le_antisymm hl.2 hl.1)); (rw [ul_ne c]; exact g2_0 k (by have a0 := ro_109_20; unfold In at a0; have a1 := ro_109_19; unfold In at a1; have a2 := (in_c 0 rfl); unfold In at a2; have oc := oc_360_109; omega)))
  exact gg_w (by omega) (gg_f (gf_cons rfl (gf_cons rfl gf_nil)) (ct2 1025 s (Int32.ofInt 0) hI fr_rf (in_w 0 1024 (in_c 0 rfl) rfl) n2 (m_in 1025 (in_w 0 1024 (in_c 0 rfl) rfl) rfl)))
