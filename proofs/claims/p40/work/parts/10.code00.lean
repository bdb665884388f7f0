/-! reading is local: what a short array shows at its beginning, a long one shows at its place -/
noncomputable abbrev DcR (α : Type) : Type := Jvm.ClassFile.Decoder α
def dl_ag (c c' : ByteArray) (p : Nat) : Prop := ∀ (i : Nat) (b : UInt8), c'.data[i]? = some b → c.data[p + i]? = some b
def dl_lc {α : Type} (r r' : DcR α) : Prop := ∀ (c c' : ByteArray) (p q : Nat) (a : α) (q' : Nat), dl_ag c c' p → Jvm.ClassFile.Reader.runAt r' c' q = .ok (a, q') → Jvm.ClassFile.Reader.runAt r c (p + q) = .ok (a, p + q')
theorem dl_u1t (c : ByteArray) (q : Nat) (h : q < c.size) : Jvm.ClassFile.Reader.runAt (Jvm.ClassFile.Reader.u1 : DcR Nat) c q = .ok ((c.data[q]'h).toNat, q + 1) := by
  show (dite (q < c.size) (fun h => (do set (q + 1); pure (c[q]).toNat : DcR Nat)) (fun _ => throw (Jvm.ClassFile.HasTruncated.truncated q)) : DcR Nat) c q = _
  rw [dif_pos h]
  rfl
theorem dl_u1f (c : ByteArray) (q : Nat) (h : ¬ q < c.size) : Jvm.ClassFile.Reader.runAt (Jvm.ClassFile.Reader.u1 : DcR Nat) c q = .error (.truncated q) := by
  show (dite (q < c.size) (fun h => (do set (q + 1); pure (c[q]).toNat : DcR Nat)) (fun _ => throw (Jvm.ClassFile.HasTruncated.truncated q)) : DcR Nat) c q = _
  rw [dif_neg h]
  rfl
theorem dl_bind {α β : Type} {x x' : DcR α} {f f' : α → DcR β} (hx : dl_lc x x') (hf : ∀ a, dl_lc (f a) (f' a)) : dl_lc (x >>= f) (x' >>= f') := by
  intro c c' p q a q' h hr
  have e : Jvm.ClassFile.Reader.runAt (x' >>= f') c' q = Except.bind (Jvm.ClassFile.Reader.runAt x' c' q) (fun v => Jvm.ClassFile.Reader.runAt (f' v.1) c' v.2) := rfl
  have e2 : Jvm.ClassFile.Reader.runAt (x >>= f) c (p + q) = Except.bind (Jvm.ClassFile.Reader.runAt x c (p + q)) (fun v => Jvm.ClassFile.Reader.runAt (f v.1) c v.2) := rfl
  rw [e] at hr
  rw [e2]
  cases hv : Jvm.ClassFile.Reader.runAt x' c' q with
  | error er => rw [hv] at hr; cases hr
  | ok v =>
    rw [hv] at hr
    rw [hx c c' p q v.1 v.2 h (by rw [hv])]
    exact hf v.1 c c' p v.2 a q' h hr
theorem dl_pure {α : Type} (a : α) : dl_lc (pure a) (pure a) := by
  intro c c' p q b q' h hr
  have e : Jvm.ClassFile.Reader.runAt (pure a : DcR α) c' q = .ok (a, q) := rfl
  rw [e] at hr
  cases hr
  rfl
theorem dl_map {α β : Type} {x x' : DcR α} {g : α → β} (hx : dl_lc x x') : dl_lc (g <$> x) (g <$> x') := by
  intro c c' p q a q' h hr
  have e : Jvm.ClassFile.Reader.runAt (g <$> x') c' q = Except.bind (Jvm.ClassFile.Reader.runAt x' c' q) (fun v => .ok (g v.1, v.2)) := rfl
  have e2 : Jvm.ClassFile.Reader.runAt (g <$> x) c (p + q) = Except.bind (Jvm.ClassFile.Reader.runAt x c (p + q)) (fun v => .ok (g v.1, v.2)) := rfl
  rw [e] at hr
  rw [e2]
  cases hv : Jvm.ClassFile.Reader.runAt x' c' q with
  | error er => rw [hv] at hr; cases hr
  | ok v =>
    rw [hv] at hr
    rw [hx c c' p q v.1 v.2 h (by rw [hv])]
    cases hr
    rfl
theorem dl_throw {α : Type} {r : DcR α} {e : Jvm.ClassFile.DecodeError} : dl_lc r (throw e) := by
  intro c c' p q b q' h hr
  have e : Jvm.ClassFile.Reader.runAt (throw e : DcR α) c' q = .error e := rfl
  rw [e] at hr
  cases hr
theorem dl_u1 : dl_lc (Jvm.ClassFile.Reader.u1 : DcR Nat) Jvm.ClassFile.Reader.u1 := by
  intro c c' p q a q' h hr
  by_cases hq : q < c'.size
  · rw [dl_u1t c' q hq] at hr
    cases hr
    have h1 := h q _ (Array.getElem?_eq_getElem hq)
    obtain ⟨h2, h3⟩ := Array.getElem?_eq_some_iff.mp h1
    rw [dl_u1t c (p + q) h2, h3]
    rfl
  · rw [dl_u1f c' q hq] at hr
    cases hr
theorem dl_u2 : dl_lc (Jvm.ClassFile.Reader.u2 : DcR Nat) Jvm.ClassFile.Reader.u2 := by
  unfold Jvm.ClassFile.Reader.u2
  exact dl_bind dl_u1 (fun _ => dl_bind dl_u1 (fun _ => dl_pure _))
theorem dl_s1 : dl_lc (Jvm.ClassFile.Reader.s1 : DcR Int) Jvm.ClassFile.Reader.s1 := by
  unfold Jvm.ClassFile.Reader.s1
  exact dl_map dl_u1
theorem dl_s2 : dl_lc (Jvm.ClassFile.Reader.s2 : DcR Int) Jvm.ClassFile.Reader.s2 := by
  unfold Jvm.ClassFile.Reader.s2
  exact dl_map dl_u2
theorem dl_a1 (g : Nat → Instr) : dl_lc (Jvm.ClassFile.Reader.u1 >>= fun a => (pure (g a) : DcR Instr)) (Jvm.ClassFile.Reader.u1 >>= fun a => pure (g a)) := dl_bind dl_u1 (fun _ => dl_pure _)
theorem dl_a2 (g : Nat → Instr) : dl_lc (Jvm.ClassFile.Reader.u2 >>= fun a => (pure (g a) : DcR Instr)) (Jvm.ClassFile.Reader.u2 >>= fun a => pure (g a)) := dl_bind dl_u2 (fun _ => dl_pure _)
theorem dl_b1 (g : Int → Instr) : dl_lc (Jvm.ClassFile.Reader.s1 >>= fun a => (pure (g a) : DcR Instr)) (Jvm.ClassFile.Reader.s1 >>= fun a => pure (g a)) := dl_bind dl_s1 (fun _ => dl_pure _)
theorem dl_b2 (g : Int → Instr) : dl_lc (Jvm.ClassFile.Reader.s2 >>= fun a => (pure (g a) : DcR Instr)) (Jvm.ClassFile.Reader.s2 >>= fun a => pure (g a)) := dl_bind dl_s2 (fun _ => dl_pure _)
theorem dl_newarray (p : Nat) : dl_lc (Jvm.ClassFile.Decoder.newarray p) (Jvm.ClassFile.Decoder.newarray 0) := by
  unfold Jvm.ClassFile.Decoder.newarray
  refine dl_bind dl_u1 (fun b => ?_)
  split <;> first | exact dl_pure _ | exact dl_throw
noncomputable def zel (b : Nat) (l : List Nat) : Bool := List.rec (motive := fun _ => Bool) false (fun x _ ih => Nat.beq b x || ih) l
def zal (P : Nat → Prop) (l : List Nat) : Prop := List.rec (motive := fun _ => Prop) True (fun x _ ih => P x ∧ ih) l
theorem zal_c {P : Nat → Prop} {x : Nat} {l : List Nat} (h : P x) (h2 : zal P l) : zal P (x :: l) := ⟨h, h2⟩
theorem zal_n {P : Nat → Prop} : zal P [] := trivial
theorem zel_w {P : Nat → Prop} : ∀ (l : List Nat), zal P l → ∀ b, zel b l = true → P b
  | [], _, b, h => by
    have h2 : false = true := h
    cases h2
  | x :: l, hp, b, h => by
    have h2 : (Nat.beq b x || zel b l) = true := h
    have h3 : P x ∧ zal P l := hp
    rw [Bool.or_eq_true] at h2
    rcases h2 with q | q
    · rw [Nat.eq_of_beq_eq_true q]
      exact h3.1
    · exact zel_w l h3.2 b q
noncomputable def dl_easy (b : Nat) : Bool := zel b [2, 3, 4, 5, 6, 7, 8, 9, 10, 16, 17, 18, 19, 20, 21, 22, 25, 26, 27, 28, 29, 30, 31, 32, 33, 42, 43, 44, 45, 46, 47, 51, 52, 54, 55, 58, 59, 60, 61, 62, 63, 64, 65, 66, 76, 77, 78, 79, 80, 84, 85, 87, 88, 89, 92, 96, 97, 100, 101, 104, 105, 108, 109, 112, 113, 116, 117, 120, 121, 122, 123, 124, 125, 126, 127, 128, 129, 130, 131, 132, 133, 136, 145, 146, 148, 153, 154, 155, 156, 157, 158, 159, 160, 161, 162, 163, 164, 167, 172, 173, 176, 177, 178, 180, 181, 182, 183, 184, 187, 188, 190, 191, 192]
set_option maxHeartbeats 8000000 in
set_option maxRecDepth 100000 in
theorem dl_ex : ∃ f : Nat → Nat → DcR Instr, (∀ pc, Jvm.ClassFile.Decoder.instr pc = (Jvm.ClassFile.Reader.u1 >>= f pc)) ∧ ∀ p b, dl_easy b = true → dl_lc (f p b) (f 0 b) := by
  refine ⟨_, fun pc => rfl, ?_⟩
  intro p
  refine zel_w [2, 3, 4, 5, 6, 7, 8, 9, 10, 16, 17, 18, 19, 20, 21, 22, 25, 26, 27, 28, 29, 30, 31, 32, 33, 42, 43, 44, 45, 46, 47, 51, 52, 54, 55, 58, 59, 60, 61, 62, 63, 64, 65, 66, 76, 77, 78, 79, 80, 84, 85, 87, 88, 89, 92, 96, 97, 100, 101, 104, 105, 108, 109, 112, 113, 116, 117, 120, 121, 122, 123, 124, 125, 126, 127, 128, 129, 130, 131, 132, 133, 136, 145, 146, 148, 153, 154, 155, 156, 157, 158, 159, 160, 161, 162, 163, 164, 167, 172, 173, 176, 177, 178, 180, 181, 182, 183, 184, 187, 188, 190, 191, 192] ?_
  refine zal_c (dl_pure _) ?_
  refine zal_c (dl_pure _) ?_
  refine zal_c (dl_pure _) ?_
  refine zal_c (dl_pure _) ?_
  refine zal_c (dl_pure _) ?_
  refine zal_c (dl_pure _) ?_
  refine zal_c (dl_pure _) ?_
  refine zal_c (dl_pure _) ?_
  refine zal_c (dl_pure _) ?_
  refine zal_c (dl_b1 _) ?_
  refine zal_c (dl_b2 _) ?_
  refine zal_c (dl_a1 _) ?_
  refine zal_c (dl_a2 _) ?_
  refine zal_c (dl_a2 _) ?_
  refine zal_c (dl_a1 _) ?_
  refine zal_c (dl_a1 _) ?_
  refine zal_c (dl_a1 _) ?_
  refine zal_c (dl_pure _) ?_
  refine zal_c (dl_pure _) ?_
  refine zal_c (dl_pure _) ?_
  refine zal_c (dl_pure _) ?_
  refine zal_c (dl_pure _) ?_
  refine zal_c (dl_pure _) ?_
  refine zal_c (dl_pure _) ?_
  refine zal_c (dl_pure _) ?_
  refine zal_c (dl_pure _) ?_
  refine zal_c (dl_pure _) ?_
  refine zal_c (dl_pure _) ?_
  refine zal_c (dl_pure _) ?_
  refine zal_c (dl_pure _) ?_
  refine zal_c (dl_pure _) ?_
  refine zal_c (dl_pure _) ?_
  refine zal_c (dl_pure _) ?_
  refine zal_c (dl_a1 _) ?_
  refine zal_c (dl_a1 _) ?_
  refine zal_c (dl_a1 _) ?_
  refine zal_c (dl_pure _) ?_
  refine zal_c (dl_pure _) ?_
  refine zal_c (dl_pure _) ?_
  refine zal_c (dl_pure _) ?_
  refine zal_c (dl_pure _) ?_
  refine zal_c (dl_pure _) ?_
  refine zal_c (dl_pure _) ?_
  refine zal_c (dl_pure _) ?_
  refine zal_c (dl_pure _) ?_
  refine zal_c (dl_pure _) ?_
  refine zal_c (dl_pure _) ?_
  refine zal_c (dl_pure _) ?_
  refine zal_c (dl_pure _) ?_
  refine zal_c (dl_pure _) ?_
  refine zal_c (dl_pure _) ?_
  refine zal_c (dl_pure _) ?_
  refine zal_c (dl_pure _) ?_
  refine zal_c (dl_pure _) ?_
  refine zal_c (dl_pure _) ?_
  refine zal_c (dl_pure _) ?_
  refine zal_c (dl_pure _) ?_
  refine zal_c (dl_pure _) ?_
  refine zal_c (dl_pure _) ?_
  refine zal_c (dl_pure _) ?_
  refine zal_c (dl_pure _) ?_
  refine zal_c (dl_pure _) ?_
  refine zal_c (dl_pure _) ?_
  refine zal_c (dl_pure _) ?_
  refine zal_c (dl_pure _) ?_
  refine zal_c (dl_pure _) ?_
  refine zal_c (dl_pure _) ?_
  refine zal_c (dl_pure _) ?_
  refine zal_c (dl_pure _) ?_
  refine zal_c (dl_pure _) ?_
  refine zal_c (dl_pure _) ?_
  refine zal_c (dl_pure _) ?_
  refine zal_c (dl_pure _) ?_
  refine zal_c (dl_pure _) ?_
  refine zal_c (dl_pure _) ?_
  refine zal_c (dl_pure _) ?_
  refine zal_c (dl_pure _) ?_
  refine zal_c (dl_pure _) ?_
  refine zal_c (dl_pure _) ?_
  refine zal_c (dl_bind dl_u1 (fun _ => dl_bind dl_s1 (fun _ => dl_pure _))) ?_
  refine zal_c (dl_pure _) ?_
  refine zal_c (dl_pure _) ?_
  refine zal_c (dl_pure _) ?_
  refine zal_c (dl_pure _) ?_
  refine zal_c (dl_pure _) ?_
  refine zal_c (dl_b2 _) ?_
  refine zal_c (dl_b2 _) ?_
  refine zal_c (dl_b2 _) ?_
  refine zal_c (dl_b2 _) ?_
  refine zal_c (dl_b2 _) ?_
  refine zal_c (dl_b2 _) ?_
  refine zal_c (dl_b2 _) ?_
  refine zal_c (dl_b2 _) ?_
  refine zal_c (dl_b2 _) ?_
  refine zal_c (dl_b2 _) ?_
  refine zal_c (dl_b2 _) ?_
  refine zal_c (dl_b2 _) ?_
  refine zal_c (dl_b2 _) ?_
  refine zal_c (dl_pure _) ?_
  refine zal_c (dl_pure _) ?_
  refine zal_c (dl_pure _) ?_
  refine zal_c (dl_pure _) ?_
  refine zal_c (dl_a2 _) ?_
  refine zal_c (dl_a2 _) ?_
  refine zal_c (dl_a2 _) ?_
  refine zal_c (dl_a2 _) ?_
  refine zal_c (dl_a2 _) ?_
  refine zal_c (dl_a2 _) ?_
  refine zal_c (dl_a2 _) ?_
  refine zal_c (dl_newarray _) ?_
  refine zal_c (dl_pure _) ?_
  refine zal_c (dl_pure _) ?_
  refine zal_c (dl_a2 _) ?_
  exact zal_n
theorem dl_instr (c c' : ByteArray) (p : Nat) (a : Instr) (k : Nat) (h : dl_ag c c' p) (b : UInt8) (h0 : c'.data[0]? = some b) (hb : dl_easy b.toNat = true) (hr : Jvm.ClassFile.Reader.runAt (Jvm.ClassFile.Decoder.instr 0) c' 0 = .ok (a, k)) : Jvm.ClassFile.Reader.runAt (Jvm.ClassFile.Decoder.instr p) c p = .ok (a, p + k) := by
  obtain ⟨f, hf, hl⟩ := dl_ex
  obtain ⟨hs, e0⟩ := Array.getElem?_eq_some_iff.mp h0
  obtain ⟨hs2, e1⟩ := Array.getElem?_eq_some_iff.mp (h 0 b h0)
  rw [hf 0] at hr
  rw [hf p]
  have e : Jvm.ClassFile.Reader.runAt (Jvm.ClassFile.Reader.u1 >>= f 0) c' 0 = Except.bind (Jvm.ClassFile.Reader.runAt Jvm.ClassFile.Reader.u1 c' 0) (fun v => Jvm.ClassFile.Reader.runAt (f 0 v.1) c' v.2) := rfl
  have e2 : Jvm.ClassFile.Reader.runAt (Jvm.ClassFile.Reader.u1 >>= f p) c p = Except.bind (Jvm.ClassFile.Reader.runAt Jvm.ClassFile.Reader.u1 c p) (fun v => Jvm.ClassFile.Reader.runAt (f p v.1) c v.2) := rfl
  rw [e, dl_u1t c' 0 hs, e0] at hr
  rw [e2, dl_u1t c p hs2]
  have e1' : c.data[p] = b := e1
  rw [e1']
  exact hl p b.toNat hb c c' p 1 a k h hr
theorem dl_dec (c c' : ByteArray) (p : Nat) (a : Instr) (k : Nat) (h : dl_ag c c' p) (b : UInt8) (h0 : c'.data[0]? = some b) (hb : dl_easy b.toNat = true) (hr : decode c' 0 = .ok (a, k)) : decode c p = .ok (a, k) := by
  have e : decode c' 0 = Except.bind (Jvm.ClassFile.Reader.runAt (Jvm.ClassFile.Decoder.instr 0) c' 0) (fun v => .ok (v.1, v.2 - 0)) := rfl
  have e2 : decode c p = Except.bind (Jvm.ClassFile.Reader.runAt (Jvm.ClassFile.Decoder.instr p) c p) (fun v => .ok (v.1, v.2 - p)) := rfl
  rw [e] at hr
  rw [e2]
  cases hv : Jvm.ClassFile.Reader.runAt (Jvm.ClassFile.Decoder.instr 0) c' 0 with
  | error er => rw [hv] at hr; cases hr
  | ok v =>
    rw [hv] at hr
    have hr2 : (Except.ok (v.1, v.2 - 0) : Except Jvm.ClassFile.DecodeError (Instr × Nat)) = .ok (a, k) := hr
    rw [dl_instr c c' p v.1 v.2 h b h0 hb (by rw [hv])]
    show (Except.ok (v.1, p + v.2 - p) : Except Jvm.ClassFile.DecodeError (Instr × Nat)) = .ok (a, k)
    rw [Nat.add_sub_cancel_left]
    exact hr2
/-! the instructions of a method, walked along its bytes -/
noncomputable abbrev XIs : Type := List (Nat × Instr × Nat)
noncomputable def xi_ok (cc : ByteArray) (l : XIs) : Bool := l.all (fun q => decide (decode cc q.1 = .ok (q.2.1, q.2.2)))
theorem xi_c {cc : ByteArray} {b : Bool} {x y : XIs} (hx : xi_ok cc x = true) (hy : xi_ok cc y = true) : xi_ok cc (cond b x y) = true := by
  cases b
  · exact hy
  · exact hx
theorem xi_ap {cc : ByteArray} {x y : XIs} (h : xi_ok cc (x ++ y) = true) : xi_ok cc x = true ∧ xi_ok cc y = true := by
  unfold xi_ok at h ⊢
  rw [List.all_append, Bool.and_eq_true] at h
  exact h
/-! instructions once by name, methods as lists of names: each is decoded once -/
noncomputable def ev_ok (e : List UInt8 × Instr × Nat) : Bool := match e.1 with
  | [] => false
  | b :: _ => dl_easy b.toNat && decide (decode ⟨e.1.toArray⟩ 0 = .ok e.2)
noncomputable abbrev ZEV : Type := {e : List UInt8 × Instr × Nat // ev_ok e = true}
noncomputable abbrev ZIs : Type := List (Nat × ZEV)
noncomputable def zx (l : ZIs) : XIs := List.rec (motive := fun _ => XIs) [] (fun q _ ih => (q.1, q.2.1.2) :: ih) l
noncomputable def zpre (a : List UInt8) : List UInt8 → Bool := List.rec (motive := fun _ => List UInt8 → Bool) (fun _ => true) (fun x _ ih l => match l with
  | [] => false
  | y :: t => Nat.beq x.toNat y.toNat && ih t) a
theorem zpre_i : ∀ (a l : List UInt8), zpre a l = true → ∀ (i : Nat) (x : UInt8), a[i]? = some x → l[i]? = some x
  | [], l, h, i, x, hx => by
    rw [List.getElem?_nil] at hx
    cases hx
  | y :: a, [], h, i, x, hx => by
    have h2 : false = true := h
    cases h2
  | y :: a, z :: l, h, i, x, hx => by
    have h2 : (Nat.beq y.toNat z.toNat && zpre a l) = true := h
    rw [Bool.and_eq_true] at h2
    have e : y = z := UInt8.toNat_inj.mp (Nat.eq_of_beq_eq_true h2.1)
    cases i with
    | zero =>
      rw [List.getElem?_cons_zero] at hx ⊢
      rw [← e]
      exact hx
    | succ i =>
      rw [List.getElem?_cons_succ] at hx ⊢
      exact zpre_i a l h2.2 i x hx
noncomputable def zgap (q : Nat × ZEV) (r : ZIs) : Nat := match r with
  | [] => 0
  | q2 :: _ => q2.1 - q.1 - 1
noncomputable def znx (q : Nat × ZEV) (r : ZIs) : Bool := match r with
  | [] => true
  | q2 :: _ => Nat.blt q.1 q2.1
noncomputable def zat (b : UInt8) (t : List UInt8) (ih : Nat → ZIs → Bool) (is : ZIs) : Bool := match is with
  | [] => true
  | q :: r => zpre q.2.1.1 (b :: t) && (znx q r && ih (zgap q r) r)
noncomputable def zw (l : List UInt8) : Nat → ZIs → Bool :=
  List.rec (motive := fun _ => Nat → ZIs → Bool) (fun _ is => is.isEmpty)
    (fun b t ih k is => Nat.rec (motive := fun _ => Bool) (zat b t ih is) (fun k' _ => ih k' is) k) l
theorem ev_dec (c : ByteArray) (p : Nat) (l : List UInt8) (e : ZEV) (hl : ∀ i b, l[i]? = some b → c.data[p + i]? = some b) (h : zpre e.1.1 l = true) : decode c p = .ok (e.1.2.1, e.1.2.2) := by
  obtain ⟨⟨bs, ins⟩, he⟩ := e
  cases bs with
  | nil =>
    have h2 : false = true := he
    cases h2
  | cons b0 t0 =>
    have h6 : (dl_easy b0.toNat && decide (decode ⟨(b0 :: t0).toArray⟩ 0 = .ok ins)) = true := he
    rw [Bool.and_eq_true] at h6
    exact dl_dec c ⟨(b0 :: t0).toArray⟩ p ins.1 ins.2 (fun i x hx => by
      have hx2 := hx
      rw [List.getElem?_toArray] at hx2
      exact hl i x (zpre_i _ _ h i x hx2)) b0 rfl h6.1 (of_decide_eq_true h6.2)
theorem zwok (c : ByteArray) : ∀ (l : List UInt8) (p k : Nat) (is : ZIs), (∀ i b, l[i]? = some b → c.data[p + i]? = some b) → (∀ q r, is = q :: r → q.1 = p + k) → zw l k is = true → xi_ok c (zx is) = true
  | [], p, k, is, hl, hq, h => by
    have h2 : is.isEmpty = true := h
    cases is with
    | nil => rfl
    | cons q r => cases h2
  | b :: t, p, 0, is, hl, hq, h => by
    have h2 : zat b t (zw t) is = true := h
    cases is with
    | nil => rfl
    | cons q r =>
      have h3 : (zpre q.2.1.1 (b :: t) && (znx q r && zw t (zgap q r) r)) = true := h2
      rw [Bool.and_eq_true, Bool.and_eq_true] at h3
      obtain ⟨hc, hn, hw⟩ := h3
      have hp : q.1 = p := hq q r rfl
      have hr := zwok c t (p + 1) (zgap q r) r (fun i x hx => by
        have := hl (i + 1) x (by rw [List.getElem?_cons_succ]; exact hx)
        rw [show p + 1 + i = p + (i + 1) by omega]
        exact this) (fun q2 r2 e => by
        subst e
        have h5 : q.1 < q2.1 := Nat.blt_eq.mp hn
        show q2.1 = p + 1 + (q2.1 - q.1 - 1)
        omega) hw
      have h7 : decode c p = .ok (q.2.1.2.1, q.2.1.2.2) := ev_dec c p (b :: t) q.2 hl hc
      show xi_ok c ((q.1, q.2.1.2) :: zx r) = true
      unfold xi_ok at hr ⊢
      rw [List.all_cons, Bool.and_eq_true]
      exact ⟨decide_eq_true (show decode c q.1 = .ok (q.2.1.2.1, q.2.1.2.2) from (by rw [hp]; exact h7)), hr⟩
  | b :: t, p, k + 1, is, hl, hq, h => by
    have h2 : zw t k is = true := h
    exact zwok c t (p + 1) k is (fun i x hx => by
        have := hl (i + 1) x (by rw [List.getElem?_cons_succ]; exact hx)
        rw [show p + 1 + i = p + (i + 1) by omega]
        exact this) (fun q r e => by rw [hq q r e]; omega) h2
noncomputable def zk0 (is : ZIs) : Nat := match is with
  | [] => 0
  | q :: _ => q.1
noncomputable def zcat (L : List ZIs) : ZIs := List.rec (motive := fun _ => ZIs) [] (fun a _ ih => a ++ ih) L
def zall (c : ByteArray) (L : List ZIs) : Prop := List.rec (motive := fun _ => Prop) True (fun a _ ih => xi_ok c (zx a) = true ∧ ih) L
theorem zx_ap : ∀ a b : ZIs, zx (a ++ b) = zx a ++ zx b
  | [], b => rfl
  | q :: a, b => congrArg (fun z => (q.1, q.2.1.2) :: z) (zx_ap a b)
theorem zall_of (c : ByteArray) : ∀ L : List ZIs, xi_ok c (zx (zcat L)) = true → zall c L
  | [], _ => trivial
  | a :: L, h => by
    have h2 : xi_ok c (zx (a ++ zcat L)) = true := h
    rw [zx_ap] at h2
    have h3 := xi_ap h2
    exact ⟨h3.1, zall_of c L h3.2⟩
theorem zall_w (c : ByteArray) (L : List ZIs) (h : zw c.data.toList (zk0 (zcat L)) (zcat L) = true) : zall c L := by
  refine zall_of c L (zwok c c.data.toList 0 (zk0 (zcat L)) (zcat L) (fun i b hb => ?_) (fun q r e => ?_) h)
  · rw [Nat.zero_add, ← Array.getElem?_toList]
    exact hb
  · rw [e]
    show q.1 = 0 + q.1
    omega
theorem zq1 {c : ByteArray} {a : ZIs} {L : List ZIs} (h : zall c (a :: L)) : xi_ok c (zx a) = true := h.1
theorem zq2 {c : ByteArray} {a : ZIs} {L : List ZIs} (h : zall c (a :: L)) : zall c L := h.2
