section
/-! reading is local: what a short array shows at its beginning, a long one shows at its place -/
noncomputable abbrev DcR (α : Type) : Type := Jvm.ClassFile.Decoder α
def dl_ag (c c' : ByteArray) (p : Nat) : Prop := ∀ (i : Nat) (b : UInt8), c'.data[i]? = some b → c.data[p + i]? = some b
def dl_lc {α : Type} (r r' : DcR α) : Prop := ∀ (c c' : ByteArray) (p q : Nat) (a : α) (q' : Nat), dl_ag c c' p → Jvm.ClassFile.Reader.runAt r' c' q = .ok (a, q') → Jvm.ClassFile.Reader.runAt r c (p + q) = .ok (a, p + q')
theorem dl_u1t (c : ByteArray) (q : Nat) (h : q < c.size) : Jvm.ClassFile.Reader.runAt (Jvm.ClassFile.Reader.u1 : DcR Nat) c q = .ok ((c.data[q]'h).toNat, q + 1) := by
  show (dite (q < c.size) (fun h => (do set (q + 1); pure (c[q]).toNat : DcR Nat)) (fun _ => throw (Jvm.ClassFile.HasTruncated.truncated q)) : DcR Nat) c q = _
  rw [dif_pos h]
  rfl
theorem dl_u1f (c : ByteArray) (q : Nat) (h : ¬ q < c.size) : Jvm.ClassFile.Reader.runAt (Jvm.ClassFile.Reader.u1 : DcR Nat) c q = .error (.truncated q) := by
  show (dite (q < c.size) (fun h => (do set (q + 1); pure (c[q]).toNat : DcR Nat)) (fun _ => throw (Jvm.ClassFile.HasTruncated.truncated q)) : DcR Nat) c q = _
  rw [dif_neg h]
  rfl
theorem dl_bind {α β : Type} {x x' : DcR α} {f f' : α → DcR β} (hx : dl_lc x x') (hf : ∀ a, dl_lc (f a) (f' a)) : dl_lc (x >>= f) (x' >>= f') := by
  intro c c' p q a q' h hr
  have e : Jvm.ClassFile.Reader.runAt (x' >>= f') c' q = Except.bind (Jvm.ClassFile.Reader.runAt x' c' q) (fun v => Jvm.ClassFile.Reader.runAt (f' v.1) c' v.2) := rfl
  have e2 : Jvm.ClassFile.Reader.runAt (x >>= f) c (p + q) = Except.bind (Jvm.ClassFile.Reader.runAt x c (p + q)) (fun v => Jvm.ClassFile.Reader.runAt (f v.1) c v.2) := rfl
  rw [e] at hr
  rw [e2]
  cases hv : Jvm.ClassFile.Reader.runAt x' c' q with
  | error er => rw [hv] at hr; cases hr
  | ok v =>
    rw [hv] at hr
    rw [hx c c' p q v.1 v.2 h (by rw [hv])]
    exact hf v.1 c c' p v.2 a q' h hr
theorem dl_pure {α : Type} (a : α) : dl_lc (pure a) (pure a) := by
  intro c c' p q b q' h hr
  have e : Jvm.ClassFile.Reader.runAt (pure a : DcR α) c' q = .ok (a, q) := rfl
  rw [e] at hr
  cases hr
  rfl
theorem dl_map {α β : Type} {x x' : DcR α} {g : α → β} (hx : dl_lc x x') : dl_lc (g <$> x) (g <$> x') := by
  intro c c' p q a q' h hr
  have e : Jvm.ClassFile.Reader.runAt (g <$> x') c' q = Except.bind (Jvm.ClassFile.Reader.runAt x' c' q) (fun v => .ok (g v.1, v.2)) := rfl
  have e2 : Jvm.ClassFile.Reader.runAt (g <$> x) c (p + q) = Except.bind (Jvm.ClassFile.Reader.runAt x c (p + q)) (fun v => .ok (g v.1, v.2)) := rfl
  rw [e] at hr
  rw [e2]
  cases hv : Jvm.ClassFile.Reader.runAt x' c' q with
  | error er => rw [hv] at hr; cases hr
  | ok v =>
    rw [hv] at hr
    rw [hx c c' p q v.1 v.2 h (by rw [hv])]
    cases hr
    rfl
theorem dl_throw {α : Type} {r : DcR α} {e : Jvm.ClassFile.DecodeError} : dl_lc r (throw e) := by
  intro c c' p q b q' h hr
  have e : Jvm.ClassFile.Reader.runAt (throw e : DcR α) c' q = .error e := rfl
  rw [e] at hr
  cases hr
theorem dl_u1 : dl_lc (Jvm.ClassFile.Reader.u1 : DcR Nat) Jvm.ClassFile.Reader.u1 := by
  intro c c' p q a q' h hr
  by_cases hq : q < c'.size
  · rw [dl_u1t c' q hq] at hr
    cases hr
    have h1 := h q _ (Array.getElem?_eq_getElem hq)
    obtain ⟨h2, h3⟩ := Array.getElem?_eq_some_iff.mp h1
    rw [dl_u1t c (p + q) h2, h3]
    rfl
  · rw [dl_u1f c' q hq] at hr
    cases hr
theorem dl_u2 : dl_lc (Jvm.ClassFile.Reader.u2 : DcR Nat) Jvm.ClassFile.Reader.u2 := by
  unfold Jvm.ClassFile.Reader.u2
  exact dl_bind dl_u1 (fun _ => dl_bind dl_u1 (fun _ => dl_pure _))
theorem dl_s1 : dl_lc (Jvm.ClassFile.Reader.s1 : DcR Int) Jvm.ClassFile.Reader.s1 := by
  unfold Jvm.ClassFile.Reader.s1
  exact dl_map dl_u1
theorem dl_s2 : dl_lc (Jvm.ClassFile.Reader.s2 : DcR Int) Jvm.ClassFile.Reader.s2 := by
  unfold Jvm.ClassFile.Reader.s2
  exact dl_map dl_u2
theorem dl_a1 (g : Nat → Instr) : dl_lc (Jvm.ClassFile.Reader.u1 >>= fun a => (pure (g a) : DcR Instr)) (Jvm.ClassFile.Reader.u1 >>= fun a => pure (g a)) := dl_bind dl_u1 (fun _ => dl_pure _)
theorem dl_a2 (g : Nat → Instr) : dl_lc (Jvm.ClassFile.Reader.u2 >>= fun a => (pure (g a) : DcR Instr)) (Jvm.ClassFile.Reader.u2 >>= fun a => pure (g a)) := dl_bind dl_u2 (fun _ => dl_pure _)
theorem dl_b1 (g : Int → Instr) : dl_lc (Jvm.ClassFile.Reader.s1 >>= fun a => (pure (g a) : DcR Instr)) (Jvm.ClassFile.Reader.s1 >>= fun a => pure (g a)) := dl_bind dl_s1 (fun _ => dl_pure _)
theorem dl_b2 (g : Int → Instr) : dl_lc (Jvm.ClassFile.Reader.s2 >>= fun a => (pure (g a) : DcR Instr)) (Jvm.ClassFile.Reader.s2 >>= fun a => pure (g a)) := dl_bind dl_s2 (fun _ => dl_pure _)
theorem dl_newarray (p : Nat) : dl_lc (Jvm.ClassFile.Decoder.newarray p) (Jvm.ClassFile.Decoder.newarray 0) := by
  unfold Jvm.ClassFile.Decoder.newarray
  refine dl_bind dl_u1 (fun b => ?_)
  split <;> first | exact dl_pure _ | exact dl_throw
noncomputable def zel (b : Nat) (l : List Nat) : Bool := List.rec (motive := fun _ => Bool) false (fun x _ ih => Nat.beq b x || ih) l
def zal (P : Nat → Prop) (l : List Nat) : Prop := List.rec (motive := fun _ => Prop) True (fun x _ ih => P x ∧ ih) l
theorem zal_c {P : Nat → Prop} {x : Nat} {l : List Nat} (h : P x) (h2 : zal P l) : zal P (x :: l) := ⟨h, h2⟩
theorem zal_n {P : Nat → Prop} : zal P [] := trivial
theorem zel_w {P : Nat → Prop} : ∀ (l : List Nat), zal P l → ∀ b, zel b l = true → P b
  | [], _, b, h => by
    have h2 : false = true := h
    cases h2
  | x :: l, hp, b, h => by
    have h2 : (Nat.beq b x || zel b l) = true := h
    have h3 : P x ∧ zal P l := hp
    rw [Bool.or_eq_true] at h2
    rcases h2 with q | q
    · rw [Nat.eq_of_beq_eq_true q]
      exact h3.1
    · exact zel_w l h3.2 b q
noncomputable def dl_easy (b : Nat) : Bool := zel b [2, 3, 4, 5, 6, 7, 8, 9, 10, 16, 17, 18, 19, 20, 21, 22, 25, 26, 27, 28, 29, 30, 31, 32, 33, 42, 43, 44, 45, 46, 47, 51, 52, 54, 55, 58, 59, 60, 61, 62, 63, 64, 65, 66, 76, 77, 78, 79, 80, 84, 85, 87, 88, 89, 92, 96, 97, 100, 101, 104, 105, 108, 109, 112, 113, 116, 117, 120, 121, 122, 123, 124, 125, 126, 127, 128, 129, 130, 131, 132, 133, 136, 145, 146, 148, 153, 154, 155, 156, 157, 158, 159, 160, 161, 162, 163, 164, 167, 172, 173, 176, 177, 178, 180, 181, 182, 183, 184, 187, 188, 190, 191, 192]
set_option maxHeartbeats 8000000 in
set_option maxRecDepth 100000 in
theorem dl_ex : ∃ f : Nat → Nat → DcR Instr, (∀ pc, Jvm.ClassFile.Decoder.instr pc = (Jvm.ClassFile.Reader.u1 >>= f pc)) ∧ ∀ p b, dl_easy b = true → dl_lc (f p b) (f 0 b) := by
  refine ⟨_, fun pc => rfl, ?_⟩
  intro p
  refine zel_w [2, 3, 4, 5, 6, 7, 8, 9, 10, 16, 17, 18, 19, 20, 21, 22, 25, 26, 27, 28, 29, 30, 31, 32, 33, 42, 43, 44, 45, 46, 47, 51, 52, 54, 55, 58, 59, 60, 61, 62, 63, 64, 65, 66, 76, 77, 78, 79, 80, 84, 85, 87, 88, 89, 92, 96, 97, 100, 101, 104, 105, 108, 109, 112, 113, 116, 117, 120, 121, 122, 123, 124, 125, 126, 127, 128, 129, 130, 131, 132, 133, 136, 145, 146, 148, 153, 154, 155, 156, 157, 158, 159, 160, 161, 162, 163, 164, 167, 172, 173, 176, 177, 178, 180, 181, 182, 183, 184, 187, 188, 190, 191, 192] ?_
  refine zal_c (dl_pure _) ?_
  refine zal_c (dl_pure _) ?_
  refine zal_c (dl_pure _) ?_
  refine zal_c (dl_pure _) ?_
  refine zal_c (dl_pure _) ?_
  refine zal_c (dl_pure _) ?_
  refine zal_c (dl_pure _) ?_
  refine zal_c (dl_pure _) ?_
  refine zal_c (dl_pure _) ?_
  refine zal_c (dl_b1 _) ?_
  refine zal_c (dl_b2 _) ?_
  refine zal_c (dl_a1 _) ?_
  refine zal_c (dl_a2 _) ?_
  refine zal_c (dl_a2 _) ?_
  refine zal_c (dl_a1 _) ?_
  refine zal_c (dl_a1 _) ?_
  refine zal_c (dl_a1 _) ?_
  refine zal_c (dl_pure _) ?_
  refine zal_c (dl_pure _) ?_
  refine zal_c (dl_pure _) ?_
  refine zal_c (dl_pure _) ?_
  refine zal_c (dl_pure _) ?_
  refine zal_c (dl_pure _) ?_
  refine zal_c (dl_pure _) ?_
  refine zal_c (dl_pure _) ?_
  refine zal_c (dl_pure _) ?_
  refine zal_c (dl_pure _) ?_
  refine zal_c (dl_pure _) ?_
  refine zal_c (dl_pure _) ?_
  refine zal_c (dl_pure _) ?_
  refine zal_c (dl_pure _) ?_
  refine zal_c (dl_pure _) ?_
  refine zal_c (dl_pure _) ?_
  refine zal_c (dl_a1 _) ?_
  refine zal_c (dl_a1 _) ?_
  refine zal_c (dl_a1 _) ?_
  refine zal_c (dl_pure _) ?_
  refine zal_c (dl_pure _) ?_
  refine zal_c (dl_pure _) ?_
  refine zal_c (dl_pure _) ?_
  refine zal_c (dl_pure _) ?_
  refine zal_c (dl_pure _) ?_
  refine zal_c (dl_pure _) ?_
  refine zal_c (dl_pure _) ?_
  refine zal_c (dl_pure _) ?_
  refine zal_c (dl_pure _) ?_
  refine zal_c (dl_pure _) ?_
  refine zal_c (dl_pure _) ?_
  refine zal_c (dl_pure _) ?_
  refine zal_c (dl_pure _) ?_
  refine zal_c (dl_pure _) ?_
  refine zal_c (dl_pure _) ?_
  refine zal_c (dl_pure _) ?_
  refine zal_c (dl_pure _) ?_
  refine zal_c (dl_pure _) ?_
  refine zal_c (dl_pure _) ?_
  refine zal_c (dl_pure _) ?_
  refine zal_c (dl_pure _) ?_
  refine zal_c (dl_pure _) ?_
  refine zal_c (dl_pure _) ?_
  refine zal_c (dl_pure _) ?_
  refine zal_c (dl_pure _) ?_
  refine zal_c (dl_pure _) ?_
  refine zal_c (dl_pure _) ?_
  refine zal_c (dl_pure _) ?_
  refine zal_c (dl_pure _) ?_
  refine zal_c (dl_pure _) ?_
  refine zal_c (dl_pure _) ?_
  refine zal_c (dl_pure _) ?_
  refine zal_c (dl_pure _) ?_
  refine zal_c (dl_pure _) ?_
  refine zal_c (dl_pure _) ?_
  refine zal_c (dl_pure _) ?_
  refine zal_c (dl_pure _) ?_
  refine zal_c (dl_pure _) ?_
  refine zal_c (dl_pure _) ?_
  refine zal_c (dl_pure _) ?_
  refine zal_c (dl_pure _) ?_
  refine zal_c (dl_pure _) ?_
  refine zal_c (dl_bind dl_u1 (fun _ => dl_bind dl_s1 (fun _ => dl_pure _))) ?_
  refine zal_c (dl_pure _) ?_
  refine zal_c (dl_pure _) ?_
  refine zal_c (dl_pure _) ?_
  refine zal_c (dl_pure _) ?_
  refine zal_c (dl_pure _) ?_
  refine zal_c (dl_b2 _) ?_
  refine zal_c (dl_b2 _) ?_
  refine zal_c (dl_b2 _) ?_
  refine zal_c (dl_b2 _) ?_
  refine zal_c (dl_b2 _) ?_
  refine zal_c (dl_b2 _) ?_
  refine zal_c (dl_b2 _) ?_
  refine zal_c (dl_b2 _) ?_
  refine zal_c (dl_b2 _) ?_
  refine zal_c (dl_b2 _) ?_
  refine zal_c (dl_b2 _) ?_
  refine zal_c (dl_b2 _) ?_
  refine zal_c (dl_b2 _) ?_
  refine zal_c (dl_pure _) ?_
  refine zal_c (dl_pure _) ?_
  refine zal_c (dl_pure _) ?_
  refine zal_c (dl_pure _) ?_
  refine zal_c (dl_a2 _) ?_
  refine zal_c (dl_a2 _) ?_
  refine zal_c (dl_a2 _) ?_
  refine zal_c (dl_a2 _) ?_
  refine zal_c (dl_a2 _) ?_
  refine zal_c (dl_a2 _) ?_
  refine zal_c (dl_a2 _) ?_
  refine zal_c (dl_newarray _) ?_
  refine zal_c (dl_pure _) ?_
  refine zal_c (dl_pure _) ?_
  refine zal_c (dl_a2 _) ?_
  exact zal_n
theorem dl_instr (c c' : ByteArray) (p : Nat) (a : Instr) (k : Nat) (h : dl_ag c c' p) (b : UInt8) (h0 : c'.data[0]? = some b) (hb : dl_easy b.toNat = true) (hr : Jvm.ClassFile.Reader.runAt (Jvm.ClassFile.Decoder.instr 0) c' 0 = .ok (a, k)) : Jvm.ClassFile.Reader.runAt (Jvm.ClassFile.Decoder.instr p) c p = .ok (a, p + k) := by
  obtain ⟨f, hf, hl⟩ := dl_ex
  obtain ⟨hs, e0⟩ := Array.getElem?_eq_some_iff.mp h0
  obtain ⟨hs2, e1⟩ := Array.getElem?_eq_some_iff.mp (h 0 b h0)
  rw [hf 0] at hr
  rw [hf p]
  have e : Jvm.ClassFile.Reader.runAt (Jvm.ClassFile.Reader.u1 >>= f 0) c' 0 = Except.bind (Jvm.ClassFile.Reader.runAt Jvm.ClassFile.Reader.u1 c' 0) (fun v => Jvm.ClassFile.Reader.runAt (f 0 v.1) c' v.2) := rfl
  have e2 : Jvm.ClassFile.Reader.runAt (Jvm.ClassFile.Reader.u1 >>= f p) c p = Except.bind (Jvm.ClassFile.Reader.runAt Jvm.ClassFile.Reader.u1 c p) (fun v => Jvm.ClassFile.Reader.runAt (f p v.1) c v.2) := rfl
  rw [e, dl_u1t c' 0 hs, e0] at hr
  rw [e2, dl_u1t c p hs2]
  have e1' : c.data[p] = b := e1
  rw [e1']
  exact hl p b.toNat hb c c' p 1 a k h hr
theorem dl_dec (c c' : ByteArray) (p : Nat) (a : Instr) (k : Nat) (h : dl_ag c c' p) (b : UInt8) (h0 : c'.data[0]? = some b) (hb : dl_easy b.toNat = true) (hr : decode c' 0 = .ok (a, k)) : decode c p = .ok (a, k) := by
  have e : decode c' 0 = Except.bind (Jvm.ClassFile.Reader.runAt (Jvm.ClassFile.Decoder.instr 0) c' 0) (fun v => .ok (v.1, v.2 - 0)) := rfl
  have e2 : decode c p = Except.bind (Jvm.ClassFile.Reader.runAt (Jvm.ClassFile.Decoder.instr p) c p) (fun v => .ok (v.1, v.2 - p)) := rfl
  rw [e] at hr
  rw [e2]
  cases hv : Jvm.ClassFile.Reader.runAt (Jvm.ClassFile.Decoder.instr 0) c' 0 with
  | error er => rw [hv] at hr; cases hr
  | ok v =>
    rw [hv] at hr
    have hr2 : (Except.ok (v.1, v.2 - 0) : Except Jvm.ClassFile.DecodeError (Instr × Nat)) = .ok (a, k) := hr
    rw [dl_instr c c' p v.1 v.2 h b h0 hb (by rw [hv])]
    show (Except.ok (v.1, p + v.2 - p) : Except Jvm.ClassFile.DecodeError (Instr × Nat)) = .ok (a, k)
    rw [Nat.add_sub_cancel_left]
    exact hr2
/-! the instructions of a method, walked along its bytes -/
noncomputable abbrev XIs : Type := List (Nat × Instr × Nat)
noncomputable def xi_ok (cc : ByteArray) (l : XIs) : Bool := l.all (fun q => decide (decode cc q.1 = .ok (q.2.1, q.2.2)))
theorem xi_c {cc : ByteArray} {b : Bool} {x y : XIs} (hx : xi_ok cc x = true) (hy : xi_ok cc y = true) : xi_ok cc (cond b x y) = true := by
  cases b
  · exact hy
  · exact hx
theorem xi_ap {cc : ByteArray} {x y : XIs} (h : xi_ok cc (x ++ y) = true) : xi_ok cc x = true ∧ xi_ok cc y = true := by
  unfold xi_ok at h ⊢
  rw [List.all_append, Bool.and_eq_true] at h
  exact h
/-! instructions once by name, methods as lists of names: each is decoded once -/
noncomputable def ev_ok (e : List UInt8 × Instr × Nat) : Bool := match e.1 with
  | [] => false
  | b :: _ => dl_easy b.toNat && decide (decode ⟨e.1.toArray⟩ 0 = .ok e.2)
noncomputable abbrev ZEV : Type := {e : List UInt8 × Instr × Nat // ev_ok e = true}
noncomputable abbrev ZIs : Type := List (Nat × ZEV)
noncomputable def zx (l : ZIs) : XIs := List.rec (motive := fun _ => XIs) [] (fun q _ ih => (q.1, q.2.1.2) :: ih) l
noncomputable def zpre (a : List UInt8) : List UInt8 → Bool := List.rec (motive := fun _ => List UInt8 → Bool) (fun _ => true) (fun x _ ih l => match l with
  | [] => false
  | y :: t => Nat.beq x.toNat y.toNat && ih t) a
theorem zpre_i : ∀ (a l : List UInt8), zpre a l = true → ∀ (i : Nat) (x : UInt8), a[i]? = some x → l[i]? = some x
  | [], l, h, i, x, hx => by
    rw [List.getElem?_nil] at hx
    cases hx
  | y :: a, [], h, i, x, hx => by
    have h2 : false = true := h
    cases h2
  | y :: a, z :: l, h, i, x, hx => by
    have h2 : (Nat.beq y.toNat z.toNat && zpre a l) = true := h
    rw [Bool.and_eq_true] at h2
    have e : y = z := UInt8.toNat_inj.mp (Nat.eq_of_beq_eq_true h2.1)
    cases i with
    | zero =>
      rw [List.getElem?_cons_zero] at hx ⊢
      rw [← e]
      exact hx
    | succ i =>
      rw [List.getElem?_cons_succ] at hx ⊢
      exact zpre_i a l h2.2 i x hx
noncomputable def zgap (q : Nat × ZEV) (r : ZIs) : Nat := match r with
  | [] => 0
  | q2 :: _ => q2.1 - q.1 - 1
noncomputable def znx (q : Nat × ZEV) (r : ZIs) : Bool := match r with
  | [] => true
  | q2 :: _ => Nat.blt q.1 q2.1
noncomputable def zat (b : UInt8) (t : List UInt8) (ih : Nat → ZIs → Bool) (is : ZIs) : Bool := match is with
  | [] => true
  | q :: r => zpre q.2.1.1 (b :: t) && (znx q r && ih (zgap q r) r)
noncomputable def zw (l : List UInt8) : Nat → ZIs → Bool :=
  List.rec (motive := fun _ => Nat → ZIs → Bool) (fun _ is => is.isEmpty)
    (fun b t ih k is => Nat.rec (motive := fun _ => Bool) (zat b t ih is) (fun k' _ => ih k' is) k) l
theorem ev_dec (c : ByteArray) (p : Nat) (l : List UInt8) (e : ZEV) (hl : ∀ i b, l[i]? = some b → c.data[p + i]? = some b) (h : zpre e.1.1 l = true) : decode c p = .ok (e.1.2.1, e.1.2.2) := by
  obtain ⟨⟨bs, ins⟩, he⟩ := e
  cases bs with
  | nil =>
    have h2 : false = true := he
    cases h2
  | cons b0 t0 =>
    have h6 : (dl_easy b0.toNat && decide (decode ⟨(b0 :: t0).toArray⟩ 0 = .ok ins)) = true := he
    rw [Bool.and_eq_true] at h6
    exact dl_dec c ⟨(b0 :: t0).toArray⟩ p ins.1 ins.2 (fun i x hx => by
      have hx2 := hx
      rw [List.getElem?_toArray] at hx2
      exact hl i x (zpre_i _ _ h i x hx2)) b0 rfl h6.1 (of_decide_eq_true h6.2)
theorem zwok (c : ByteArray) : ∀ (l : List UInt8) (p k : Nat) (is : ZIs), (∀ i b, l[i]? = some b → c.data[p + i]? = some b) → (∀ q r, is = q :: r → q.1 = p + k) → zw l k is = true → xi_ok c (zx is) = true
  | [], p, k, is, hl, hq, h => by
    have h2 : is.isEmpty = true := h
    cases is with
    | nil => rfl
    | cons q r => cases h2
  | b :: t, p, 0, is, hl, hq, h => by
    have h2 : zat b t (zw t) is = true := h
    cases is with
    | nil => rfl
    | cons q r =>
      have h3 : (zpre q.2.1.1 (b :: t) && (znx q r && zw t (zgap q r) r)) = true := h2
      rw [Bool.and_eq_true, Bool.and_eq_true] at h3
      obtain ⟨hc, hn, hw⟩ := h3
      have hp : q.1 = p := hq q r rfl
      have hr := zwok c t (p + 1) (zgap q r) r (fun i x hx => by
        have := hl (i + 1) x (by rw [List.getElem?_cons_succ]; exact hx)
        rw [show p + 1 + i = p + (i + 1) by omega]
        exact this) (fun q2 r2 e => by
        subst e
        have h5 : q.1 < q2.1 := Nat.blt_eq.mp hn
        show q2.1 = p + 1 + (q2.1 - q.1 - 1)
        omega) hw
      have h7 : decode c p = .ok (q.2.1.2.1, q.2.1.2.2) := ev_dec c p (b :: t) q.2 hl hc
      show xi_ok c ((q.1, q.2.1.2) :: zx r) = true
      unfold xi_ok at hr ⊢
      rw [List.all_cons, Bool.and_eq_true]
      exact ⟨decide_eq_true (show decode c q.1 = .ok (q.2.1.2.1, q.2.1.2.2) from (by rw [hp]; exact h7)), hr⟩
  | b :: t, p, k + 1, is, hl, hq, h => by
    have h2 : zw t k is = true := h
    exact zwok c t (p + 1) k is (fun i x hx => by
        have := hl (i + 1) x (by rw [List.getElem?_cons_succ]; exact hx)
        rw [show p + 1 + i = p + (i + 1) by omega]
        exact this) (fun q r e => by rw [hq q r e]; omega) h2
noncomputable def zk0 (is : ZIs) : Nat := match is with
  | [] => 0
  | q :: _ => q.1
noncomputable def zcat (L : List ZIs) : ZIs := List.rec (motive := fun _ => ZIs) [] (fun a _ ih => a ++ ih) L
def zall (c : ByteArray) (L : List ZIs) : Prop := List.rec (motive := fun _ => Prop) True (fun a _ ih => xi_ok c (zx a) = true ∧ ih) L
theorem zx_ap : ∀ a b : ZIs, zx (a ++ b) = zx a ++ zx b
  | [], b => rfl
  | q :: a, b => congrArg (fun z => (q.1, q.2.1.2) :: z) (zx_ap a b)
theorem zall_of (c : ByteArray) : ∀ L : List ZIs, xi_ok c (zx (zcat L)) = true → zall c L
  | [], _ => trivial
  | a :: L, h => by
    have h2 : xi_ok c (zx (a ++ zcat L)) = true := h
    rw [zx_ap] at h2
    have h3 := xi_ap h2
    exact ⟨h3.1, zall_of c L h3.2⟩
theorem zall_w (c : ByteArray) (L : List ZIs) (h : zw c.data.toList (zk0 (zcat L)) (zcat L) = true) : zall c L := by
  refine zall_of c L (zwok c c.data.toList 0 (zk0 (zcat L)) (zcat L) (fun i b hb => ?_) (fun q r e => ?_) h)
  · rw [Nat.zero_add, ← Array.getElem?_toList]
    exact hb
  · rw [e]
    show q.1 = 0 + q.1
    omega
theorem zq1 {c : ByteArray} {a : ZIs} {L : List ZIs} (h : zall c (a :: L)) : xi_ok c (zx a) = true := h.1
theorem zq2 {c : ByteArray} {a : ZIs} {L : List ZIs} (h : zall c (a :: L)) : zall c L := h.2
end
section
noncomputable def ev_0 : ZEV := ⟨([187, 0, 8], .new 8, 3), by decide +kernel⟩
noncomputable def ev_1 : ZEV := ⟨([89], .dup, 1), by decide +kernel⟩
noncomputable def ev_2 : ZEV := ⟨([183, 0, 141], .invokespecial 141, 3), by decide +kernel⟩
noncomputable def ev_3 : ZEV := ⟨([76], .astore_n 1, 1), by decide +kernel⟩
noncomputable def ev_4 : ZEV := ⟨([187, 0, 142], .new 142, 3), by decide +kernel⟩
noncomputable def ev_5 : ZEV := ⟨([183, 0, 144], .invokespecial 144, 3), by decide +kernel⟩
noncomputable def ev_6 : ZEV := ⟨([77], .astore_n 2, 1), by decide +kernel⟩
noncomputable def ev_7 : ZEV := ⟨([4], .iconst 1, 1), by decide +kernel⟩
noncomputable def ev_8 : ZEV := ⟨([188, 11], .newarray .long, 2), by decide +kernel⟩
noncomputable def ev_9 : ZEV := ⟨([78], .astore_n 3, 1), by decide +kernel⟩
noncomputable def ev_10 : ZEV := ⟨([3], .iconst 0, 1), by decide +kernel⟩
noncomputable def ev_11 : ZEV := ⟨([54, 4], .istore 4, 2), by decide +kernel⟩
noncomputable def ev_12 : ZEV := ⟨([21, 4], .iload 4, 2), by decide +kernel⟩
noncomputable def ev_13 : ZEV := ⟨([42], .aload_n 0, 1), by decide +kernel⟩
noncomputable def ev_14 : ZEV := ⟨([190], .arraylength, 1), by decide +kernel⟩
noncomputable def ev_15 : ZEV := ⟨([16, 6], .bipush 6, 2), by decide +kernel⟩
noncomputable def ev_16 : ZEV := ⟨([100], .isub, 1), by decide +kernel⟩
noncomputable def ev_17 : ZEV := ⟨([163, 7, 40], .if_icmp .gt 1832, 3), by decide +kernel⟩
noncomputable def ev_18 : ZEV := ⟨([46], .iaload, 1), by decide +kernel⟩
noncomputable def ev_19 : ZEV := ⟨([16, 63], .bipush 63, 2), by decide +kernel⟩
noncomputable def ev_20 : ZEV := ⟨([126], .iand, 1), by decide +kernel⟩
noncomputable def ev_21 : ZEV := ⟨([43], .aload_n 1, 1), by decide +kernel⟩
noncomputable def ev_22 : ZEV := ⟨([96], .iadd, 1), by decide +kernel⟩
noncomputable def ev_23 : ZEV := ⟨([45], .aload_n 3, 1), by decide +kernel⟩
noncomputable def ev_24 : ZEV := ⟨([184, 0, 145], .invokestatic 145, 3), by decide +kernel⟩
noncomputable def ev_25 : ZEV := ⟨([54, 5], .istore 5, 2), by decide +kernel⟩
noncomputable def ev_26 : ZEV := ⟨([44], .aload_n 2, 1), by decide +kernel⟩
noncomputable def ev_27 : ZEV := ⟨([182, 0, 150], .invokevirtual 150, 3), by decide +kernel⟩
noncomputable def ev_28 : ZEV := ⟨([54, 6], .istore 6, 2), by decide +kernel⟩
noncomputable def ev_29 : ZEV := ⟨([167, 6, 51], .goto 1587, 3), by decide +kernel⟩
noncomputable def ev_30 : ZEV := ⟨([5], .iconst 2, 1), by decide +kernel⟩
noncomputable def ev_31 : ZEV := ⟨([6], .iconst 3, 1), by decide +kernel⟩
noncomputable def ev_32 : ZEV := ⟨([7], .iconst 4, 1), by decide +kernel⟩
noncomputable def ev_33 : ZEV := ⟨([8], .iconst 5, 1), by decide +kernel⟩
noncomputable def ev_34 : ZEV := ⟨([184, 0, 151], .invokestatic 151, 3), by decide +kernel⟩
noncomputable def ev_35 : ZEV := ⟨([182, 0, 154], .invokevirtual 154, 3), by decide +kernel⟩
noncomputable def ev_36 : ZEV := ⟨([167, 5, 231], .goto 1511, 3), by decide +kernel⟩
noncomputable def ev_37 : ZEV := ⟨([184, 0, 155], .invokestatic 155, 3), by decide +kernel⟩
noncomputable def ev_38 : ZEV := ⟨([182, 0, 157], .invokevirtual 157, 3), by decide +kernel⟩
noncomputable def ev_39 : ZEV := ⟨([167, 5, 203], .goto 1483, 3), by decide +kernel⟩
noncomputable def ev_40 : ZEV := ⟨([184, 0, 158], .invokestatic 158, 3), by decide +kernel⟩
noncomputable def ev_41 : ZEV := ⟨([182, 0, 161], .invokevirtual 161, 3), by decide +kernel⟩
noncomputable def ev_42 : ZEV := ⟨([167, 5, 151], .goto 1431, 3), by decide +kernel⟩
noncomputable def ev_43 : ZEV := ⟨([184, 0, 162], .invokestatic 162, 3), by decide +kernel⟩
noncomputable def ev_44 : ZEV := ⟨([182, 0, 165], .invokevirtual 165, 3), by decide +kernel⟩
noncomputable def ev_45 : ZEV := ⟨([167, 5, 111], .goto 1391, 3), by decide +kernel⟩
noncomputable def ev_46 : ZEV := ⟨([184, 0, 166], .invokestatic 166, 3), by decide +kernel⟩
noncomputable def ev_47 : ZEV := ⟨([182, 0, 168], .invokevirtual 168, 3), by decide +kernel⟩
noncomputable def ev_48 : ZEV := ⟨([167, 5, 83], .goto 1363, 3), by decide +kernel⟩
noncomputable def ev_49 : ZEV := ⟨([182, 0, 169], .invokevirtual 169, 3), by decide +kernel⟩
noncomputable def ev_50 : ZEV := ⟨([87], .pop, 1), by decide +kernel⟩
noncomputable def ev_51 : ZEV := ⟨([182, 0, 173], .invokevirtual 173, 3), by decide +kernel⟩
noncomputable def ev_52 : ZEV := ⟨([167, 5, 70], .goto 1350, 3), by decide +kernel⟩
noncomputable def ev_53 : ZEV := ⟨([184, 0, 174], .invokestatic 174, 3), by decide +kernel⟩
noncomputable def ev_54 : ZEV := ⟨([182, 0, 176], .invokevirtual 176, 3), by decide +kernel⟩
noncomputable def ev_55 : ZEV := ⟨([167, 5, 42], .goto 1322, 3), by decide +kernel⟩
noncomputable def ev_56 : ZEV := ⟨([184, 0, 177], .invokestatic 177, 3), by decide +kernel⟩
noncomputable def ev_57 : ZEV := ⟨([182, 0, 179], .invokevirtual 179, 3), by decide +kernel⟩
noncomputable def ev_58 : ZEV := ⟨([55, 6], .lstore 6, 2), by decide +kernel⟩
noncomputable def ev_59 : ZEV := ⟨([167, 5, 2], .goto 1282, 3), by decide +kernel⟩
noncomputable def ev_60 : ZEV := ⟨([184, 0, 180], .invokestatic 180, 3), by decide +kernel⟩
noncomputable def ev_61 : ZEV := ⟨([182, 0, 182], .invokevirtual 182, 3), by decide +kernel⟩
noncomputable def ev_62 : ZEV := ⟨([167, 4, 230], .goto 1254, 3), by decide +kernel⟩
noncomputable def ev_63 : ZEV := ⟨([184, 0, 183], .invokestatic 183, 3), by decide +kernel⟩
noncomputable def ev_64 : ZEV := ⟨([182, 0, 185], .invokevirtual 185, 3), by decide +kernel⟩
noncomputable def ev_65 : ZEV := ⟨([167, 4, 178], .goto 1202, 3), by decide +kernel⟩
noncomputable def ev_66 : ZEV := ⟨([184, 0, 186], .invokestatic 186, 3), by decide +kernel⟩
noncomputable def ev_67 : ZEV := ⟨([182, 0, 188], .invokevirtual 188, 3), by decide +kernel⟩
noncomputable def ev_68 : ZEV := ⟨([167, 4, 150], .goto 1174, 3), by decide +kernel⟩
noncomputable def ev_69 : ZEV := ⟨([182, 0, 189], .invokevirtual 189, 3), by decide +kernel⟩
noncomputable def ev_70 : ZEV := ⟨([182, 0, 192], .invokevirtual 192, 3), by decide +kernel⟩
noncomputable def ev_71 : ZEV := ⟨([167, 4, 137], .goto 1161, 3), by decide +kernel⟩
noncomputable def ev_72 : ZEV := ⟨([182, 0, 193], .invokevirtual 193, 3), by decide +kernel⟩
noncomputable def ev_73 : ZEV := ⟨([182, 0, 196], .invokevirtual 196, 3), by decide +kernel⟩
noncomputable def ev_74 : ZEV := ⟨([167, 4, 124], .goto 1148, 3), by decide +kernel⟩
noncomputable def ev_75 : ZEV := ⟨([184, 0, 197], .invokestatic 197, 3), by decide +kernel⟩
noncomputable def ev_76 : ZEV := ⟨([182, 0, 199], .invokevirtual 199, 3), by decide +kernel⟩
noncomputable def ev_77 : ZEV := ⟨([167, 4, 96], .goto 1120, 3), by decide +kernel⟩
noncomputable def ev_78 : ZEV := ⟨([182, 0, 200], .invokevirtual 200, 3), by decide +kernel⟩
noncomputable def ev_79 : ZEV := ⟨([182, 0, 203], .invokevirtual 203, 3), by decide +kernel⟩
noncomputable def ev_80 : ZEV := ⟨([159, 4, 85], .if_icmp .eq 1109, 3), by decide +kernel⟩
noncomputable def ev_81 : ZEV := ⟨([172], .ireturn, 1), by decide +kernel⟩
noncomputable def ev_82 : ZEV := ⟨([184, 0, 204], .invokestatic 204, 3), by decide +kernel⟩
noncomputable def ev_83 : ZEV := ⟨([182, 0, 206], .invokevirtual 206, 3), by decide +kernel⟩
noncomputable def ev_84 : ZEV := ⟨([167, 4, 55], .goto 1079, 3), by decide +kernel⟩
noncomputable def ev_85 : ZEV := ⟨([184, 0, 207], .invokestatic 207, 3), by decide +kernel⟩
noncomputable def ev_86 : ZEV := ⟨([182, 0, 209], .invokevirtual 209, 3), by decide +kernel⟩
noncomputable def ev_87 : ZEV := ⟨([167, 4, 15], .goto 1039, 3), by decide +kernel⟩
noncomputable def ev_88 : ZEV := ⟨([184, 0, 210], .invokestatic 210, 3), by decide +kernel⟩
noncomputable def ev_89 : ZEV := ⟨([182, 0, 212], .invokevirtual 212, 3), by decide +kernel⟩
noncomputable def ev_90 : ZEV := ⟨([167, 3, 219], .goto 987, 3), by decide +kernel⟩
noncomputable def ev_91 : ZEV := ⟨([184, 0, 213], .invokestatic 213, 3), by decide +kernel⟩
noncomputable def ev_92 : ZEV := ⟨([182, 0, 215], .invokevirtual 215, 3), by decide +kernel⟩
noncomputable def ev_93 : ZEV := ⟨([167, 3, 179], .goto 947, 3), by decide +kernel⟩
noncomputable def ev_94 : ZEV := ⟨([184, 0, 216], .invokestatic 216, 3), by decide +kernel⟩
noncomputable def ev_95 : ZEV := ⟨([182, 0, 218], .invokevirtual 218, 3), by decide +kernel⟩
noncomputable def ev_96 : ZEV := ⟨([167, 3, 139], .goto 907, 3), by decide +kernel⟩
noncomputable def ev_97 : ZEV := ⟨([184, 0, 219], .invokestatic 219, 3), by decide +kernel⟩
noncomputable def ev_98 : ZEV := ⟨([182, 0, 222], .invokevirtual 222, 3), by decide +kernel⟩
noncomputable def ev_99 : ZEV := ⟨([167, 3, 75], .goto 843, 3), by decide +kernel⟩
noncomputable def ev_100 : ZEV := ⟨([184, 0, 223], .invokestatic 223, 3), by decide +kernel⟩
noncomputable def ev_101 : ZEV := ⟨([182, 0, 225], .invokevirtual 225, 3), by decide +kernel⟩
noncomputable def ev_102 : ZEV := ⟨([167, 3, 35], .goto 803, 3), by decide +kernel⟩
noncomputable def ev_103 : ZEV := ⟨([184, 0, 226], .invokestatic 226, 3), by decide +kernel⟩
noncomputable def ev_104 : ZEV := ⟨([182, 0, 228], .invokevirtual 228, 3), by decide +kernel⟩
noncomputable def ev_105 : ZEV := ⟨([167, 3, 7], .goto 775, 3), by decide +kernel⟩
noncomputable def ev_106 : ZEV := ⟨([184, 0, 229], .invokestatic 229, 3), by decide +kernel⟩
noncomputable def ev_107 : ZEV := ⟨([182, 0, 231], .invokevirtual 231, 3), by decide +kernel⟩
noncomputable def ev_108 : ZEV := ⟨([167, 2, 235], .goto 747, 3), by decide +kernel⟩
noncomputable def ev_109 : ZEV := ⟨([184, 0, 232], .invokestatic 232, 3), by decide +kernel⟩
noncomputable def ev_110 : ZEV := ⟨([182, 0, 234], .invokevirtual 234, 3), by decide +kernel⟩
noncomputable def ev_111 : ZEV := ⟨([167, 2, 207], .goto 719, 3), by decide +kernel⟩
noncomputable def ev_112 : ZEV := ⟨([184, 0, 235], .invokestatic 235, 3), by decide +kernel⟩
noncomputable def ev_113 : ZEV := ⟨([182, 0, 237], .invokevirtual 237, 3), by decide +kernel⟩
noncomputable def ev_114 : ZEV := ⟨([167, 2, 179], .goto 691, 3), by decide +kernel⟩
noncomputable def ev_115 : ZEV := ⟨([184, 0, 238], .invokestatic 238, 3), by decide +kernel⟩
noncomputable def ev_116 : ZEV := ⟨([182, 0, 240], .invokevirtual 240, 3), by decide +kernel⟩
noncomputable def ev_117 : ZEV := ⟨([167, 2, 151], .goto 663, 3), by decide +kernel⟩
noncomputable def ev_118 : ZEV := ⟨([184, 0, 241], .invokestatic 241, 3), by decide +kernel⟩
noncomputable def ev_119 : ZEV := ⟨([182, 0, 243], .invokevirtual 243, 3), by decide +kernel⟩
noncomputable def ev_120 : ZEV := ⟨([167, 2, 123], .goto 635, 3), by decide +kernel⟩
noncomputable def ev_121 : ZEV := ⟨([184, 0, 244], .invokestatic 244, 3), by decide +kernel⟩
noncomputable def ev_122 : ZEV := ⟨([182, 0, 246], .invokevirtual 246, 3), by decide +kernel⟩
noncomputable def ev_123 : ZEV := ⟨([167, 2, 83], .goto 595, 3), by decide +kernel⟩
noncomputable def ev_124 : ZEV := ⟨([184, 0, 247], .invokestatic 247, 3), by decide +kernel⟩
noncomputable def ev_125 : ZEV := ⟨([182, 0, 249], .invokevirtual 249, 3), by decide +kernel⟩
noncomputable def ev_126 : ZEV := ⟨([167, 2, 31], .goto 543, 3), by decide +kernel⟩
noncomputable def ev_127 : ZEV := ⟨([184, 0, 250], .invokestatic 250, 3), by decide +kernel⟩
noncomputable def ev_128 : ZEV := ⟨([182, 0, 252], .invokevirtual 252, 3), by decide +kernel⟩
noncomputable def ev_129 : ZEV := ⟨([167, 1, 235], .goto 491, 3), by decide +kernel⟩
noncomputable def ev_130 : ZEV := ⟨([184, 0, 253], .invokestatic 253, 3), by decide +kernel⟩
noncomputable def ev_131 : ZEV := ⟨([182, 0, 255], .invokevirtual 255, 3), by decide +kernel⟩
noncomputable def ev_132 : ZEV := ⟨([167, 1, 207], .goto 463, 3), by decide +kernel⟩
noncomputable def ev_133 : ZEV := ⟨([184, 1, 0], .invokestatic 256, 3), by decide +kernel⟩
noncomputable def ev_134 : ZEV := ⟨([182, 1, 2], .invokevirtual 258, 3), by decide +kernel⟩
noncomputable def ev_135 : ZEV := ⟨([167, 1, 179], .goto 435, 3), by decide +kernel⟩
noncomputable def ev_136 : ZEV := ⟨([184, 1, 3], .invokestatic 259, 3), by decide +kernel⟩
noncomputable def ev_137 : ZEV := ⟨([182, 1, 5], .invokevirtual 261, 3), by decide +kernel⟩
noncomputable def ev_138 : ZEV := ⟨([167, 1, 151], .goto 407, 3), by decide +kernel⟩
noncomputable def ev_139 : ZEV := ⟨([182, 1, 6], .invokevirtual 262, 3), by decide +kernel⟩
noncomputable def ev_140 : ZEV := ⟨([182, 1, 9], .invokevirtual 265, 3), by decide +kernel⟩
noncomputable def ev_141 : ZEV := ⟨([167, 1, 138], .goto 394, 3), by decide +kernel⟩
noncomputable def ev_142 : ZEV := ⟨([184, 1, 10], .invokestatic 266, 3), by decide +kernel⟩
noncomputable def ev_143 : ZEV := ⟨([182, 1, 12], .invokevirtual 268, 3), by decide +kernel⟩
noncomputable def ev_144 : ZEV := ⟨([167, 1, 98], .goto 354, 3), by decide +kernel⟩
noncomputable def ev_145 : ZEV := ⟨([184, 1, 13], .invokestatic 269, 3), by decide +kernel⟩
noncomputable def ev_146 : ZEV := ⟨([182, 1, 15], .invokevirtual 271, 3), by decide +kernel⟩
noncomputable def ev_147 : ZEV := ⟨([167, 1, 34], .goto 290, 3), by decide +kernel⟩
noncomputable def ev_148 : ZEV := ⟨([184, 1, 16], .invokestatic 272, 3), by decide +kernel⟩
noncomputable def ev_149 : ZEV := ⟨([182, 1, 18], .invokevirtual 274, 3), by decide +kernel⟩
noncomputable def ev_150 : ZEV := ⟨([167, 1, 6], .goto 262, 3), by decide +kernel⟩
noncomputable def ev_151 : ZEV := ⟨([182, 1, 19], .invokevirtual 275, 3), by decide +kernel⟩
noncomputable def ev_152 : ZEV := ⟨([88], .pop2, 1), by decide +kernel⟩
noncomputable def ev_153 : ZEV := ⟨([182, 1, 23], .invokevirtual 279, 3), by decide +kernel⟩
noncomputable def ev_154 : ZEV := ⟨([167, 0, 249], .goto 249, 3), by decide +kernel⟩
noncomputable def ev_155 : ZEV := ⟨([184, 1, 24], .invokestatic 280, 3), by decide +kernel⟩
noncomputable def ev_156 : ZEV := ⟨([182, 1, 26], .invokevirtual 282, 3), by decide +kernel⟩
noncomputable def ev_157 : ZEV := ⟨([167, 0, 221], .goto 221, 3), by decide +kernel⟩
noncomputable def ev_158 : ZEV := ⟨([182, 1, 27], .invokevirtual 283, 3), by decide +kernel⟩
noncomputable def ev_159 : ZEV := ⟨([182, 1, 30], .invokevirtual 286, 3), by decide +kernel⟩
noncomputable def ev_160 : ZEV := ⟨([167, 0, 208], .goto 208, 3), by decide +kernel⟩
noncomputable def ev_161 : ZEV := ⟨([184, 1, 31], .invokestatic 287, 3), by decide +kernel⟩
noncomputable def ev_162 : ZEV := ⟨([182, 1, 33], .invokevirtual 289, 3), by decide +kernel⟩
noncomputable def ev_163 : ZEV := ⟨([167, 0, 168], .goto 168, 3), by decide +kernel⟩
noncomputable def ev_164 : ZEV := ⟨([182, 1, 34], .invokevirtual 290, 3), by decide +kernel⟩
noncomputable def ev_165 : ZEV := ⟨([182, 1, 37], .invokevirtual 293, 3), by decide +kernel⟩
noncomputable def ev_166 : ZEV := ⟨([167, 0, 155], .goto 155, 3), by decide +kernel⟩
noncomputable def ev_167 : ZEV := ⟨([133], .i2l, 1), by decide +kernel⟩
noncomputable def ev_168 : ZEV := ⟨([16, 32], .bipush 32, 2), by decide +kernel⟩
noncomputable def ev_169 : ZEV := ⟨([121], .lshl, 1), by decide +kernel⟩
noncomputable def ev_170 : ZEV := ⟨([20, 1, 38], .ldc2_w 294, 3), by decide +kernel⟩
noncomputable def ev_171 : ZEV := ⟨([127], .land, 1), by decide +kernel⟩
noncomputable def ev_172 : ZEV := ⟨([129], .lor, 1), by decide +kernel⟩
noncomputable def ev_173 : ZEV := ⟨([184, 1, 40], .invokestatic 296, 3), by decide +kernel⟩
noncomputable def ev_174 : ZEV := ⟨([182, 1, 43], .invokevirtual 299, 3), by decide +kernel⟩
noncomputable def ev_175 : ZEV := ⟨([167, 0, 59], .goto 59, 3), by decide +kernel⟩
noncomputable def ev_176 : ZEV := ⟨([184, 1, 44], .invokestatic 300, 3), by decide +kernel⟩
noncomputable def ev_177 : ZEV := ⟨([182, 1, 46], .invokevirtual 302, 3), by decide +kernel⟩
noncomputable def ev_178 : ZEV := ⟨([167, 0, 31], .goto 31, 3), by decide +kernel⟩
noncomputable def ev_179 : ZEV := ⟨([184, 1, 47], .invokestatic 303, 3), by decide +kernel⟩
noncomputable def ev_180 : ZEV := ⟨([182, 1, 49], .invokevirtual 305, 3), by decide +kernel⟩
noncomputable def ev_181 : ZEV := ⟨([167, 0, 3], .goto 3, 3), by decide +kernel⟩
noncomputable def ev_182 : ZEV := ⟨([132, 4, 6], .iinc 4 6, 3), by decide +kernel⟩
noncomputable def ev_183 : ZEV := ⟨([167, 248, 212], .goto (-1836), 3), by decide +kernel⟩
noncomputable def ev_184 : ZEV := ⟨([27], .iload_n 1, 1), by decide +kernel⟩
noncomputable def ev_185 : ZEV := ⟨([182, 0, 7], .invokevirtual 7, 3), by decide +kernel⟩
noncomputable def ev_186 : ZEV := ⟨([80], .lastore, 1), by decide +kernel⟩
noncomputable def ev_187 : ZEV := ⟨([167, 0, 9], .goto 9, 3), by decide +kernel⟩
noncomputable def ev_188 : ZEV := ⟨([25, 6], .aload 6, 2), by decide +kernel⟩
noncomputable def ev_189 : ZEV := ⟨([28], .iload_n 2, 1), by decide +kernel⟩
noncomputable def ev_190 : ZEV := ⟨([29], .iload_n 3, 1), by decide +kernel⟩
noncomputable def ev_191 : ZEV := ⟨([21, 5], .iload 5, 2), by decide +kernel⟩
noncomputable def ev_192 : ZEV := ⟨([182, 0, 17], .invokevirtual 17, 3), by decide +kernel⟩
noncomputable def ev_193 : ZEV := ⟨([167, 0, 11], .goto 11, 3), by decide +kernel⟩
noncomputable def ev_194 : ZEV := ⟨([58, 7], .astore 7, 2), by decide +kernel⟩
noncomputable def ev_195 : ZEV := ⟨([182, 0, 21], .invokevirtual 21, 3), by decide +kernel⟩
noncomputable def ev_196 : ZEV := ⟨([25, 4], .aload 4, 2), by decide +kernel⟩
noncomputable def ev_197 : ZEV := ⟨([182, 0, 24], .invokevirtual 24, 3), by decide +kernel⟩
noncomputable def ev_198 : ZEV := ⟨([58, 5], .astore 5, 2), by decide +kernel⟩
noncomputable def ev_199 : ZEV := ⟨([182, 0, 28], .invokevirtual 28, 3), by decide +kernel⟩
noncomputable def ev_200 : ZEV := ⟨([58, 4], .astore 4, 2), by decide +kernel⟩
noncomputable def ev_201 : ZEV := ⟨([182, 0, 32], .invokevirtual 32, 3), by decide +kernel⟩
noncomputable def ev_202 : ZEV := ⟨([167, 0, 6], .goto 6, 3), by decide +kernel⟩
noncomputable def ev_203 : ZEV := ⟨([182, 0, 35], .invokevirtual 35, 3), by decide +kernel⟩
noncomputable def ev_204 : ZEV := ⟨([182, 0, 38], .invokevirtual 38, 3), by decide +kernel⟩
noncomputable def ev_205 : ZEV := ⟨([167, 0, 7], .goto 7, 3), by decide +kernel⟩
noncomputable def ev_206 : ZEV := ⟨([182, 0, 42], .invokevirtual 42, 3), by decide +kernel⟩
noncomputable def ev_207 : ZEV := ⟨([182, 0, 45], .invokevirtual 45, 3), by decide +kernel⟩
noncomputable def ev_208 : ZEV := ⟨([182, 0, 48], .invokevirtual 48, 3), by decide +kernel⟩
noncomputable def ev_209 : ZEV := ⟨([182, 0, 51], .invokevirtual 51, 3), by decide +kernel⟩
noncomputable def ev_210 : ZEV := ⟨([182, 0, 54], .invokevirtual 54, 3), by decide +kernel⟩
noncomputable def ev_211 : ZEV := ⟨([182, 0, 57], .invokevirtual 57, 3), by decide +kernel⟩
noncomputable def ev_212 : ZEV := ⟨([182, 0, 60], .invokevirtual 60, 3), by decide +kernel⟩
noncomputable def ev_213 : ZEV := ⟨([182, 0, 63], .invokevirtual 63, 3), by decide +kernel⟩
noncomputable def ev_214 : ZEV := ⟨([182, 0, 66], .invokevirtual 66, 3), by decide +kernel⟩
noncomputable def ev_215 : ZEV := ⟨([25, 5], .aload 5, 2), by decide +kernel⟩
noncomputable def ev_216 : ZEV := ⟨([182, 0, 69], .invokevirtual 69, 3), by decide +kernel⟩
noncomputable def ev_217 : ZEV := ⟨([58, 6], .astore 6, 2), by decide +kernel⟩
noncomputable def ev_218 : ZEV := ⟨([182, 0, 73], .invokevirtual 73, 3), by decide +kernel⟩
noncomputable def ev_219 : ZEV := ⟨([182, 0, 76], .invokevirtual 76, 3), by decide +kernel⟩
noncomputable def ev_220 : ZEV := ⟨([153, 0, 7], .ifCond .eq 7, 3), by decide +kernel⟩
noncomputable def ev_221 : ZEV := ⟨([10], .lconst 1, 1), by decide +kernel⟩
noncomputable def ev_222 : ZEV := ⟨([167, 0, 4], .goto 4, 3), by decide +kernel⟩
noncomputable def ev_223 : ZEV := ⟨([9], .lconst 0, 1), by decide +kernel⟩
noncomputable def ev_224 : ZEV := ⟨([182, 0, 80], .invokevirtual 80, 3), by decide +kernel⟩
noncomputable def ev_225 : ZEV := ⟨([182, 0, 83], .invokevirtual 83, 3), by decide +kernel⟩
noncomputable def ev_226 : ZEV := ⟨([182, 0, 86], .invokevirtual 86, 3), by decide +kernel⟩
noncomputable def ev_227 : ZEV := ⟨([182, 0, 89], .invokevirtual 89, 3), by decide +kernel⟩
noncomputable def ev_228 : ZEV := ⟨([182, 0, 92], .invokevirtual 92, 3), by decide +kernel⟩
noncomputable def ev_229 : ZEV := ⟨([182, 0, 95], .invokevirtual 95, 3), by decide +kernel⟩
noncomputable def ev_230 : ZEV := ⟨([182, 0, 98], .invokevirtual 98, 3), by decide +kernel⟩
noncomputable def ev_231 : ZEV := ⟨([182, 0, 102], .invokevirtual 102, 3), by decide +kernel⟩
noncomputable def ev_232 : ZEV := ⟨([182, 0, 106], .invokevirtual 106, 3), by decide +kernel⟩
noncomputable def ev_233 : ZEV := ⟨([182, 0, 110], .invokevirtual 110, 3), by decide +kernel⟩
noncomputable def ev_234 : ZEV := ⟨([182, 0, 113], .invokevirtual 113, 3), by decide +kernel⟩
noncomputable def ev_235 : ZEV := ⟨([182, 0, 116], .invokevirtual 116, 3), by decide +kernel⟩
noncomputable def ev_236 : ZEV := ⟨([182, 0, 119], .invokevirtual 119, 3), by decide +kernel⟩
noncomputable def ev_237 : ZEV := ⟨([182, 0, 122], .invokevirtual 122, 3), by decide +kernel⟩
noncomputable def ev_238 : ZEV := ⟨([182, 0, 125], .invokevirtual 125, 3), by decide +kernel⟩
noncomputable def ev_239 : ZEV := ⟨([182, 0, 128], .invokevirtual 128, 3), by decide +kernel⟩
noncomputable def ev_240 : ZEV := ⟨([22, 4], .lload 4, 2), by decide +kernel⟩
noncomputable def ev_241 : ZEV := ⟨([182, 0, 131], .invokevirtual 131, 3), by decide +kernel⟩
noncomputable def ev_242 : ZEV := ⟨([182, 0, 135], .invokevirtual 135, 3), by decide +kernel⟩
noncomputable def ev_243 : ZEV := ⟨([182, 0, 138], .invokevirtual 138, 3), by decide +kernel⟩
noncomputable def ev_244 : ZEV := ⟨([183, 0, 3], .invokespecial 3, 3), by decide +kernel⟩
noncomputable def ev_245 : ZEV := ⟨([2], .iconst (-1), 1), by decide +kernel⟩
noncomputable def ev_246 : ZEV := ⟨([181, 0, 9], .putfield 9, 3), by decide +kernel⟩
noncomputable def ev_247 : ZEV := ⟨([181, 0, 15], .putfield 15, 3), by decide +kernel⟩
noncomputable def ev_248 : ZEV := ⟨([188, 10], .newarray .int, 2), by decide +kernel⟩
noncomputable def ev_249 : ZEV := ⟨([181, 0, 18], .putfield 18, 3), by decide +kernel⟩
noncomputable def ev_250 : ZEV := ⟨([181, 0, 22], .putfield 22, 3), by decide +kernel⟩
noncomputable def ev_251 : ZEV := ⟨([181, 0, 25], .putfield 25, 3), by decide +kernel⟩
noncomputable def ev_252 : ZEV := ⟨([181, 0, 28], .putfield 28, 3), by decide +kernel⟩
noncomputable def ev_253 : ZEV := ⟨([177], .return_, 1), by decide +kernel⟩
noncomputable def ev_254 : ZEV := ⟨([180, 0, 9], .getfield 9, 3), by decide +kernel⟩
noncomputable def ev_255 : ZEV := ⟨([180, 0, 31], .getfield 31, 3), by decide +kernel⟩
noncomputable def ev_256 : ZEV := ⟨([159, 0, 34], .if_icmp .eq 34, 3), by decide +kernel⟩
noncomputable def ev_257 : ZEV := ⟨([182, 0, 36], .invokevirtual 36, 3), by decide +kernel⟩
noncomputable def ev_258 : ZEV := ⟨([181, 0, 39], .putfield 39, 3), by decide +kernel⟩
noncomputable def ev_259 : ZEV := ⟨([180, 0, 42], .getfield 42, 3), by decide +kernel⟩
noncomputable def ev_260 : ZEV := ⟨([182, 0, 49], .invokevirtual 49, 3), by decide +kernel⟩
noncomputable def ev_261 : ZEV := ⟨([180, 0, 39], .getfield 39, 3), by decide +kernel⟩
noncomputable def ev_262 : ZEV := ⟨([184, 0, 53], .invokestatic 53, 3), by decide +kernel⟩
noncomputable def ev_263 : ZEV := ⟨([164, 0, 8], .if_icmp .le 8, 3), by decide +kernel⟩
noncomputable def ev_264 : ZEV := ⟨([161, 0, 4], .if_icmp .lt 4, 3), by decide +kernel⟩
noncomputable def ev_265 : ZEV := ⟨([21, 6], .iload 6, 2), by decide +kernel⟩
noncomputable def ev_266 : ZEV := ⟨([153, 0, 63], .ifCond .eq 63, 3), by decide +kernel⟩
noncomputable def ev_267 : ZEV := ⟨([163, 0, 4], .if_icmp .gt 4, 3), by decide +kernel⟩
noncomputable def ev_268 : ZEV := ⟨([184, 0, 59], .invokestatic 59, 3), by decide +kernel⟩
noncomputable def ev_269 : ZEV := ⟨([54, 7], .istore 7, 2), by decide +kernel⟩
noncomputable def ev_270 : ZEV := ⟨([21, 7], .iload 7, 2), by decide +kernel⟩
noncomputable def ev_271 : ZEV := ⟨([120], .ishl, 1), by decide +kernel⟩
noncomputable def ev_272 : ZEV := ⟨([128], .ior, 1), by decide +kernel⟩
noncomputable def ev_273 : ZEV := ⟨([167, 255, 194], .goto (-62), 3), by decide +kernel⟩
noncomputable def ev_274 : ZEV := ⟨([180, 0, 15], .getfield 15, 3), by decide +kernel⟩
noncomputable def ev_275 : ZEV := ⟨([159, 0, 16], .if_icmp .eq 16, 3), by decide +kernel⟩
noncomputable def ev_276 : ZEV := ⟨([182, 0, 62], .invokevirtual 62, 3), by decide +kernel⟩
noncomputable def ev_277 : ZEV := ⟨([180, 0, 28], .getfield 28, 3), by decide +kernel⟩
noncomputable def ev_278 : ZEV := ⟨([184, 0, 70], .invokestatic 70, 3), by decide +kernel⟩
noncomputable def ev_279 : ZEV := ⟨([181, 0, 76], .putfield 76, 3), by decide +kernel⟩
noncomputable def ev_280 : ZEV := ⟨([181, 0, 79], .putfield 79, 3), by decide +kernel⟩
noncomputable def ev_281 : ZEV := ⟨([180, 0, 18], .getfield 18, 3), by decide +kernel⟩
noncomputable def ev_282 : ZEV := ⟨([184, 0, 82], .invokestatic 82, 3), by decide +kernel⟩
noncomputable def ev_283 : ZEV := ⟨([180, 0, 76], .getfield 76, 3), by decide +kernel⟩
noncomputable def ev_284 : ZEV := ⟨([162, 0, 32], .if_icmp .ge 32, 3), by decide +kernel⟩
noncomputable def ev_285 : ZEV := ⟨([182, 0, 88], .invokevirtual 88, 3), by decide +kernel⟩
noncomputable def ev_286 : ZEV := ⟨([154, 0, 16], .ifCond .ne 16, 3), by decide +kernel⟩
noncomputable def ev_287 : ZEV := ⟨([167, 255, 221], .goto (-35), 3), by decide +kernel⟩
noncomputable def ev_288 : ZEV := ⟨([61], .istore_n 2, 1), by decide +kernel⟩
noncomputable def ev_289 : ZEV := ⟨([62], .istore_n 3, 1), by decide +kernel⟩
noncomputable def ev_290 : ZEV := ⟨([180, 0, 91], .getfield 91, 3), by decide +kernel⟩
noncomputable def ev_291 : ZEV := ⟨([162, 0, 35], .if_icmp .ge 35, 3), by decide +kernel⟩
noncomputable def ev_292 : ZEV := ⟨([182, 0, 94], .invokevirtual 94, 3), by decide +kernel⟩
noncomputable def ev_293 : ZEV := ⟨([79], .iastore, 1), by decide +kernel⟩
noncomputable def ev_294 : ZEV := ⟨([132, 3, 1], .iinc 3 1, 3), by decide +kernel⟩
noncomputable def ev_295 : ZEV := ⟨([167, 255, 219], .goto (-37), 3), by decide +kernel⟩
noncomputable def ev_296 : ZEV := ⟨([162, 0, 24], .if_icmp .ge 24, 3), by decide +kernel⟩
noncomputable def ev_297 : ZEV := ⟨([122], .ishr, 1), by decide +kernel⟩
noncomputable def ev_298 : ZEV := ⟨([153, 0, 5], .ifCond .eq 5, 3), by decide +kernel⟩
noncomputable def ev_299 : ZEV := ⟨([132, 2, 1], .iinc 2 1, 3), by decide +kernel⟩
noncomputable def ev_300 : ZEV := ⟨([167, 255, 232], .goto (-24), 3), by decide +kernel⟩
noncomputable def ev_301 : ZEV := ⟨([164, 0, 5], .if_icmp .le 5, 3), by decide +kernel⟩
noncomputable def ev_302 : ZEV := ⟨([180, 0, 79], .getfield 79, 3), by decide +kernel⟩
noncomputable def ev_303 : ZEV := ⟨([162, 0, 87], .if_icmp .ge 87, 3), by decide +kernel⟩
noncomputable def ev_304 : ZEV := ⟨([153, 0, 82], .ifCond .eq 82, 3), by decide +kernel⟩
noncomputable def ev_305 : ZEV := ⟨([116], .ineg, 1), by decide +kernel⟩
noncomputable def ev_306 : ZEV := ⟨([184, 0, 102], .invokestatic 102, 3), by decide +kernel⟩
noncomputable def ev_307 : ZEV := ⟨([154, 0, 42], .ifCond .ne 42, 3), by decide +kernel⟩
noncomputable def ev_308 : ZEV := ⟨([54, 8], .istore 8, 2), by decide +kernel⟩
noncomputable def ev_309 : ZEV := ⟨([21, 8], .iload 8, 2), by decide +kernel⟩
noncomputable def ev_310 : ZEV := ⟨([162, 0, 22], .if_icmp .ge 22, 3), by decide +kernel⟩
noncomputable def ev_311 : ZEV := ⟨([92], .dup2, 1), by decide +kernel⟩
noncomputable def ev_312 : ZEV := ⟨([130], .ixor, 1), by decide +kernel⟩
noncomputable def ev_313 : ZEV := ⟨([132, 8, 1], .iinc 8 1, 3), by decide +kernel⟩
noncomputable def ev_314 : ZEV := ⟨([167, 255, 231], .goto (-25), 3), by decide +kernel⟩
noncomputable def ev_315 : ZEV := ⟨([132, 6, 1], .iinc 6 1, 3), by decide +kernel⟩
noncomputable def ev_316 : ZEV := ⟨([167, 255, 168], .goto (-88), 3), by decide +kernel⟩
noncomputable def ev_317 : ZEV := ⟨([182, 0, 109], .invokevirtual 109, 3), by decide +kernel⟩
noncomputable def ev_318 : ZEV := ⟨([182, 0, 112], .invokevirtual 112, 3), by decide +kernel⟩
noncomputable def ev_319 : ZEV := ⟨([184, 0, 115], .invokestatic 115, 3), by decide +kernel⟩
noncomputable def ev_320 : ZEV := ⟨([162, 0, 106], .if_icmp .ge 106, 3), by decide +kernel⟩
noncomputable def ev_321 : ZEV := ⟨([154, 0, 7], .ifCond .ne 7, 3), by decide +kernel⟩
noncomputable def ev_322 : ZEV := ⟨([54, 9], .istore 9, 2), by decide +kernel⟩
noncomputable def ev_323 : ZEV := ⟨([154, 0, 65], .ifCond .ne 65, 3), by decide +kernel⟩
noncomputable def ev_324 : ZEV := ⟨([21, 9], .iload 9, 2), by decide +kernel⟩
noncomputable def ev_325 : ZEV := ⟨([153, 0, 8], .ifCond .eq 8, 3), by decide +kernel⟩
noncomputable def ev_326 : ZEV := ⟨([154, 0, 55], .ifCond .ne 55, 3), by decide +kernel⟩
noncomputable def ev_327 : ZEV := ⟨([167, 255, 147], .goto (-109), 3), by decide +kernel⟩
noncomputable def ev_328 : ZEV := ⟨([153, 0, 21], .ifCond .eq 21, 3), by decide +kernel⟩
noncomputable def ev_329 : ZEV := ⟨([167, 255, 237], .goto (-19), 3), by decide +kernel⟩
noncomputable def ev_330 : ZEV := ⟨([163, 0, 104], .if_icmp .gt 104, 3), by decide +kernel⟩
noncomputable def ev_331 : ZEV := ⟨([159, 0, 98], .if_icmp .eq 98, 3), by decide +kernel⟩
noncomputable def ev_332 : ZEV := ⟨([153, 0, 81], .ifCond .eq 81, 3), by decide +kernel⟩
noncomputable def ev_333 : ZEV := ⟨([182, 0, 118], .invokevirtual 118, 3), by decide +kernel⟩
noncomputable def ev_334 : ZEV := ⟨([164, 0, 42], .if_icmp .le 42, 3), by decide +kernel⟩
noncomputable def ev_335 : ZEV := ⟨([162, 0, 33], .if_icmp .ge 33, 3), by decide +kernel⟩
noncomputable def ev_336 : ZEV := ⟨([180, 0, 25], .getfield 25, 3), by decide +kernel⟩
noncomputable def ev_337 : ZEV := ⟨([167, 255, 176], .goto (-80), 3), by decide +kernel⟩
noncomputable def ev_338 : ZEV := ⟨([132, 5, 1], .iinc 5 1, 3), by decide +kernel⟩
noncomputable def ev_339 : ZEV := ⟨([167, 255, 151], .goto (-105), 3), by decide +kernel⟩
noncomputable def ev_340 : ZEV := ⟨([164, 0, 75], .if_icmp .le 75, 3), by decide +kernel⟩
noncomputable def ev_341 : ZEV := ⟨([162, 0, 23], .if_icmp .ge 23, 3), by decide +kernel⟩
noncomputable def ev_342 : ZEV := ⟨([153, 0, 9], .ifCond .eq 9, 3), by decide +kernel⟩
noncomputable def ev_343 : ZEV := ⟨([132, 4, 1], .iinc 4 1, 3), by decide +kernel⟩
noncomputable def ev_344 : ZEV := ⟨([167, 255, 228], .goto (-28), 3), by decide +kernel⟩
noncomputable def ev_345 : ZEV := ⟨([167, 255, 179], .goto (-77), 3), by decide +kernel⟩
noncomputable def ev_346 : ZEV := ⟨([154, 0, 6], .ifCond .ne 6, 3), by decide +kernel⟩
noncomputable def ev_347 : ZEV := ⟨([18, 121], .ldc 121, 2), by decide +kernel⟩
noncomputable def ev_348 : ZEV := ⟨([153, 0, 59], .ifCond .eq 59, 3), by decide +kernel⟩
noncomputable def ev_349 : ZEV := ⟨([16, 64], .bipush 64, 2), by decide +kernel⟩
noncomputable def ev_350 : ZEV := ⟨([104], .imul, 1), by decide +kernel⟩
noncomputable def ev_351 : ZEV := ⟨([162, 0, 10], .if_icmp .ge 10, 3), by decide +kernel⟩
noncomputable def ev_352 : ZEV := ⟨([167, 255, 198], .goto (-58), 3), by decide +kernel⟩
noncomputable def ev_353 : ZEV := ⟨([164, 0, 36], .if_icmp .le 36, 3), by decide +kernel⟩
noncomputable def ev_354 : ZEV := ⟨([162, 0, 26], .if_icmp .ge 26, 3), by decide +kernel⟩
noncomputable def ev_355 : ZEV := ⟨([167, 255, 229], .goto (-27), 3), by decide +kernel⟩
noncomputable def ev_356 : ZEV := ⟨([154, 0, 28], .ifCond .ne 28, 3), by decide +kernel⟩
noncomputable def ev_357 : ZEV := ⟨([180, 0, 22], .getfield 22, 3), by decide +kernel⟩
noncomputable def ev_358 : ZEV := ⟨([184, 0, 129], .invokestatic 129, 3), by decide +kernel⟩
noncomputable def ev_359 : ZEV := ⟨([162, 0, 21], .if_icmp .ge 21, 3), by decide +kernel⟩
noncomputable def ev_360 : ZEV := ⟨([183, 0, 5], .invokespecial 5, 3), by decide +kernel⟩
noncomputable def ev_361 : ZEV := ⟨([16, 120], .bipush 120, 2), by decide +kernel⟩
noncomputable def ev_362 : ZEV := ⟨([181, 0, 11], .putfield 11, 3), by decide +kernel⟩
noncomputable def ev_363 : ZEV := ⟨([181, 0, 19], .putfield 19, 3), by decide +kernel⟩
noncomputable def ev_364 : ZEV := ⟨([16, 9], .bipush 9, 2), by decide +kernel⟩
noncomputable def ev_365 : ZEV := ⟨([181, 0, 29], .putfield 29, 3), by decide +kernel⟩
noncomputable def ev_366 : ZEV := ⟨([181, 0, 32], .putfield 32, 3), by decide +kernel⟩
noncomputable def ev_367 : ZEV := ⟨([181, 0, 35], .putfield 35, 3), by decide +kernel⟩
noncomputable def ev_368 : ZEV := ⟨([180, 0, 43], .getfield 43, 3), by decide +kernel⟩
noncomputable def ev_369 : ZEV := ⟨([164, 0, 11], .if_icmp .le 11, 3), by decide +kernel⟩
noncomputable def ev_370 : ZEV := ⟨([182, 0, 46], .invokevirtual 46, 3), by decide +kernel⟩
noncomputable def ev_371 : ZEV := ⟨([181, 0, 50], .putfield 50, 3), by decide +kernel⟩
noncomputable def ev_372 : ZEV := ⟨([182, 0, 53], .invokevirtual 53, 3), by decide +kernel⟩
noncomputable def ev_373 : ZEV := ⟨([154, 0, 5], .ifCond .ne 5, 3), by decide +kernel⟩
noncomputable def ev_374 : ZEV := ⟨([16, 59], .bipush 59, 2), by decide +kernel⟩
noncomputable def ev_375 : ZEV := ⟨([182, 0, 61], .invokevirtual 61, 3), by decide +kernel⟩
noncomputable def ev_376 : ZEV := ⟨([154, 0, 10], .ifCond .ne 10, 3), by decide +kernel⟩
noncomputable def ev_377 : ZEV := ⟨([182, 0, 65], .invokevirtual 65, 3), by decide +kernel⟩
noncomputable def ev_378 : ZEV := ⟨([180, 0, 50], .getfield 50, 3), by decide +kernel⟩
noncomputable def ev_379 : ZEV := ⟨([180, 0, 68], .getfield 68, 3), by decide +kernel⟩
noncomputable def ev_380 : ZEV := ⟨([153, 0, 10], .ifCond .eq 10, 3), by decide +kernel⟩
noncomputable def ev_381 : ZEV := ⟨([180, 0, 11], .getfield 11, 3), by decide +kernel⟩
noncomputable def ev_382 : ZEV := ⟨([184, 0, 71], .invokestatic 71, 3), by decide +kernel⟩
noncomputable def ev_383 : ZEV := ⟨([182, 0, 77], .invokevirtual 77, 3), by decide +kernel⟩
noncomputable def ev_384 : ZEV := ⟨([16, 60], .bipush 60, 2), by decide +kernel⟩
noncomputable def ev_385 : ZEV := ⟨([154, 0, 14], .ifCond .ne 14, 3), by decide +kernel⟩
noncomputable def ev_386 : ZEV := ⟨([16, 61], .bipush 61, 2), by decide +kernel⟩
noncomputable def ev_387 : ZEV := ⟨([180, 0, 80], .getfield 80, 3), by decide +kernel⟩
noncomputable def ev_388 : ZEV := ⟨([153, 0, 18], .ifCond .eq 18, 3), by decide +kernel⟩
noncomputable def ev_389 : ZEV := ⟨([18, 83], .ldc 83, 2), by decide +kernel⟩
noncomputable def ev_390 : ZEV := ⟨([182, 0, 84], .invokevirtual 84, 3), by decide +kernel⟩
noncomputable def ev_391 : ZEV := ⟨([182, 0, 87], .invokevirtual 87, 3), by decide +kernel⟩
noncomputable def ev_392 : ZEV := ⟨([162, 0, 61], .if_icmp .ge 61, 3), by decide +kernel⟩
noncomputable def ev_393 : ZEV := ⟨([16, 43], .bipush 43, 2), by decide +kernel⟩
noncomputable def ev_394 : ZEV := ⟨([154, 0, 12], .ifCond .ne 12, 3), by decide +kernel⟩
noncomputable def ev_395 : ZEV := ⟨([16, 45], .bipush 45, 2), by decide +kernel⟩
noncomputable def ev_396 : ZEV := ⟨([153, 0, 43], .ifCond .eq 43, 3), by decide +kernel⟩
noncomputable def ev_397 : ZEV := ⟨([167, 255, 195], .goto (-61), 3), by decide +kernel⟩
noncomputable def ev_398 : ZEV := ⟨([182, 0, 90], .invokevirtual 90, 3), by decide +kernel⟩
noncomputable def ev_399 : ZEV := ⟨([162, 0, 43], .if_icmp .ge 43, 3), by decide +kernel⟩
noncomputable def ev_400 : ZEV := ⟨([16, 42], .bipush 42, 2), by decide +kernel⟩
noncomputable def ev_401 : ZEV := ⟨([153, 0, 34], .ifCond .eq 34, 3), by decide +kernel⟩
noncomputable def ev_402 : ZEV := ⟨([18, 93], .ldc 93, 2), by decide +kernel⟩
noncomputable def ev_403 : ZEV := ⟨([167, 255, 213], .goto (-43), 3), by decide +kernel⟩
noncomputable def ev_404 : ZEV := ⟨([159, 0, 11], .if_icmp .eq 11, 3), by decide +kernel⟩
noncomputable def ev_405 : ZEV := ⟨([160, 0, 9], .if_icmp .ne 9, 3), by decide +kernel⟩
noncomputable def ev_406 : ZEV := ⟨([154, 0, 19], .ifCond .ne 19, 3), by decide +kernel⟩
noncomputable def ev_407 : ZEV := ⟨([16, 40], .bipush 40, 2), by decide +kernel⟩
noncomputable def ev_408 : ZEV := ⟨([16, 10], .bipush 10, 2), by decide +kernel⟩
noncomputable def ev_409 : ZEV := ⟨([161, 0, 13], .if_icmp .lt 13, 3), by decide +kernel⟩
noncomputable def ev_410 : ZEV := ⟨([180, 0, 98], .getfield 98, 3), by decide +kernel⟩
noncomputable def ev_411 : ZEV := ⟨([153, 0, 29], .ifCond .eq 29, 3), by decide +kernel⟩
noncomputable def ev_412 : ZEV := ⟨([153, 0, 16], .ifCond .eq 16, 3), by decide +kernel⟩
noncomputable def ev_413 : ZEV := ⟨([18, 101], .ldc 101, 2), by decide +kernel⟩
noncomputable def ev_414 : ZEV := ⟨([16, 41], .bipush 41, 2), by decide +kernel⟩
noncomputable def ev_415 : ZEV := ⟨([160, 0, 36], .if_icmp .ne 36, 3), by decide +kernel⟩
noncomputable def ev_416 : ZEV := ⟨([18, 102], .ldc 102, 2), by decide +kernel⟩
noncomputable def ev_417 : ZEV := ⟨([16, 97], .bipush 97, 2), by decide +kernel⟩
noncomputable def ev_418 : ZEV := ⟨([146], .i2c, 1), by decide +kernel⟩
noncomputable def ev_419 : ZEV := ⟨([182, 0, 104], .invokevirtual 104, 3), by decide +kernel⟩
noncomputable def ev_420 : ZEV := ⟨([156, 0, 13], .ifCond .ge 13, 3), by decide +kernel⟩
noncomputable def ev_421 : ZEV := ⟨([18, 110], .ldc 110, 2), by decide +kernel⟩
noncomputable def ev_422 : ZEV := ⟨([182, 0, 111], .invokevirtual 111, 3), by decide +kernel⟩
noncomputable def ev_423 : ZEV := ⟨([180, 0, 116], .getfield 116, 3), by decide +kernel⟩
noncomputable def ev_424 : ZEV := ⟨([181, 0, 119], .putfield 119, 3), by decide +kernel⟩
noncomputable def ev_425 : ZEV := ⟨([180, 0, 35], .getfield 35, 3), by decide +kernel⟩
noncomputable def ev_426 : ZEV := ⟨([184, 0, 120], .invokestatic 120, 3), by decide +kernel⟩
noncomputable def ev_427 : ZEV := ⟨([182, 0, 126], .invokevirtual 126, 3), by decide +kernel⟩
noncomputable def ev_428 : ZEV := ⟨([163, 0, 35], .if_icmp .gt 35, 3), by decide +kernel⟩
noncomputable def ev_429 : ZEV := ⟨([180, 0, 32], .getfield 32, 3), by decide +kernel⟩
noncomputable def ev_430 : ZEV := ⟨([167, 255, 222], .goto (-34), 3), by decide +kernel⟩
noncomputable def ev_431 : ZEV := ⟨([162, 0, 78], .if_icmp .ge 78, 3), by decide +kernel⟩
noncomputable def ev_432 : ZEV := ⟨([182, 0, 130], .invokevirtual 130, 3), by decide +kernel⟩
noncomputable def ev_433 : ZEV := ⟨([154, 0, 15], .ifCond .ne 15, 3), by decide +kernel⟩
noncomputable def ev_434 : ZEV := ⟨([182, 0, 134], .invokevirtual 134, 3), by decide +kernel⟩
noncomputable def ev_435 : ZEV := ⟨([167, 0, 15], .goto 15, 3), by decide +kernel⟩
noncomputable def ev_436 : ZEV := ⟨([180, 0, 19], .getfield 19, 3), by decide +kernel⟩
noncomputable def ev_437 : ZEV := ⟨([47], .laload, 1), by decide +kernel⟩
noncomputable def ev_438 : ZEV := ⟨([148], .lcmp, 1), by decide +kernel⟩
noncomputable def ev_439 : ZEV := ⟨([167, 255, 175], .goto (-81), 3), by decide +kernel⟩
noncomputable def ev_440 : ZEV := ⟨([55, 4], .lstore 4, 2), by decide +kernel⟩
noncomputable def ev_441 : ZEV := ⟨([20, 0, 138], .ldc2_w 138, 3), by decide +kernel⟩
noncomputable def ev_442 : ZEV := ⟨([20, 0, 140], .ldc2_w 140, 3), by decide +kernel⟩
noncomputable def ev_443 : ZEV := ⟨([55, 8], .lstore 8, 2), by decide +kernel⟩
noncomputable def ev_444 : ZEV := ⟨([180, 0, 142], .getfield 142, 3), by decide +kernel⟩
noncomputable def ev_445 : ZEV := ⟨([54, 10], .istore 10, 2), by decide +kernel⟩
noncomputable def ev_446 : ZEV := ⟨([21, 10], .iload 10, 2), by decide +kernel⟩
noncomputable def ev_447 : ZEV := ⟨([162, 0, 73], .if_icmp .ge 73, 3), by decide +kernel⟩
noncomputable def ev_448 : ZEV := ⟨([180, 0, 145], .getfield 145, 3), by decide +kernel⟩
noncomputable def ev_449 : ZEV := ⟨([54, 11], .istore 11, 2), by decide +kernel⟩
noncomputable def ev_450 : ZEV := ⟨([180, 0, 148], .getfield 148, 3), by decide +kernel⟩
noncomputable def ev_451 : ZEV := ⟨([21, 11], .iload 11, 2), by decide +kernel⟩
noncomputable def ev_452 : ZEV := ⟨([55, 12], .lstore 12, 2), by decide +kernel⟩
noncomputable def ev_453 : ZEV := ⟨([22, 12], .lload 12, 2), by decide +kernel⟩
noncomputable def ev_454 : ZEV := ⟨([180, 0, 151], .getfield 151, 3), by decide +kernel⟩
noncomputable def ev_455 : ZEV := ⟨([97], .ladd, 1), by decide +kernel⟩
noncomputable def ev_456 : ZEV := ⟨([184, 0, 154], .invokestatic 154, 3), by decide +kernel⟩
noncomputable def ev_457 : ZEV := ⟨([55, 14], .lstore 14, 2), by decide +kernel⟩
noncomputable def ev_458 : ZEV := ⟨([22, 6], .lload 6, 2), by decide +kernel⟩
noncomputable def ev_459 : ZEV := ⟨([22, 14], .lload 14, 2), by decide +kernel⟩
noncomputable def ev_460 : ZEV := ⟨([22, 8], .lload 8, 2), by decide +kernel⟩
noncomputable def ev_461 : ZEV := ⟨([184, 0, 164], .invokestatic 164, 3), by decide +kernel⟩
noncomputable def ev_462 : ZEV := ⟨([132, 10, 1], .iinc 10 1, 3), by decide +kernel⟩
noncomputable def ev_463 : ZEV := ⟨([180, 0, 29], .getfield 29, 3), by decide +kernel⟩
noncomputable def ev_464 : ZEV := ⟨([180, 0, 167], .getfield 167, 3), by decide +kernel⟩
noncomputable def ev_465 : ZEV := ⟨([182, 0, 170], .invokevirtual 170, 3), by decide +kernel⟩
noncomputable def ev_466 : ZEV := ⟨([16, 7], .bipush 7, 2), by decide +kernel⟩
noncomputable def ev_467 : ZEV := ⟨([16, 8], .bipush 8, 2), by decide +kernel⟩
noncomputable def ev_468 : ZEV := ⟨([162, 0, 120], .if_icmp .ge 120, 3), by decide +kernel⟩
noncomputable def ev_469 : ZEV := ⟨([162, 0, 38], .if_icmp .ge 38, 3), by decide +kernel⟩
noncomputable def ev_470 : ZEV := ⟨([162, 0, 9], .if_icmp .ge 9, 3), by decide +kernel⟩
noncomputable def ev_471 : ZEV := ⟨([167, 0, 13], .goto 13, 3), by decide +kernel⟩
noncomputable def ev_472 : ZEV := ⟨([167, 0, 63], .goto 63, 3), by decide +kernel⟩
noncomputable def ev_473 : ZEV := ⟨([160, 0, 23], .if_icmp .ne 23, 3), by decide +kernel⟩
noncomputable def ev_474 : ZEV := ⟨([117], .lneg, 1), by decide +kernel⟩
noncomputable def ev_475 : ZEV := ⟨([167, 0, 36], .goto 36, 3), by decide +kernel⟩
noncomputable def ev_476 : ZEV := ⟨([132, 3, 255], .iinc 3 (-1), 3), by decide +kernel⟩
noncomputable def ev_477 : ZEV := ⟨([184, 0, 176], .invokestatic 176, 3), by decide +kernel⟩
noncomputable def ev_478 : ZEV := ⟨([167, 255, 136], .goto (-120), 3), by decide +kernel⟩
noncomputable def ev_479 : ZEV := ⟨([173], .lreturn, 1), by decide +kernel⟩
noncomputable def ev_480 : ZEV := ⟨([26], .iload_n 0, 1), by decide +kernel⟩
noncomputable def ev_481 : ZEV := ⟨([31], .lload_n 1, 1), by decide +kernel⟩
noncomputable def ev_482 : ZEV := ⟨([33], .lload_n 3, 1), by decide +kernel⟩
noncomputable def ev_483 : ZEV := ⟨([101], .lsub, 1), by decide +kernel⟩
noncomputable def ev_484 : ZEV := ⟨([156, 0, 7], .ifCond .ge 7, 3), by decide +kernel⟩
noncomputable def ev_485 : ZEV := ⟨([30], .lload_n 0, 1), by decide +kernel⟩
noncomputable def ev_486 : ZEV := ⟨([153, 0, 19], .ifCond .eq 19, 3), by decide +kernel⟩
noncomputable def ev_487 : ZEV := ⟨([32], .lload_n 2, 1), by decide +kernel⟩
noncomputable def ev_488 : ZEV := ⟨([109], .ldiv, 1), by decide +kernel⟩
noncomputable def ev_489 : ZEV := ⟨([157, 0, 7], .ifCond .gt 7, 3), by decide +kernel⟩
noncomputable def ev_490 : ZEV := ⟨([105], .lmul, 1), by decide +kernel⟩
noncomputable def ev_491 : ZEV := ⟨([158, 0, 7], .ifCond .le 7, 3), by decide +kernel⟩
noncomputable def ev_492 : ZEV := ⟨([181, 0, 186], .putfield 186, 3), by decide +kernel⟩
noncomputable def ev_493 : ZEV := ⟨([181, 0, 189], .putfield 189, 3), by decide +kernel⟩
noncomputable def ev_494 : ZEV := ⟨([181, 0, 192], .putfield 192, 3), by decide +kernel⟩
noncomputable def ev_495 : ZEV := ⟨([184, 0, 195], .invokestatic 195, 3), by decide +kernel⟩
noncomputable def ev_496 : ZEV := ⟨([162, 0, 56], .if_icmp .ge 56, 3), by decide +kernel⟩
noncomputable def ev_497 : ZEV := ⟨([162, 0, 36], .if_icmp .ge 36, 3), by decide +kernel⟩
noncomputable def ev_498 : ZEV := ⟨([158, 0, 31], .ifCond .le 31, 3), by decide +kernel⟩
noncomputable def ev_499 : ZEV := ⟨([22, 5], .lload 5, 2), by decide +kernel⟩
noncomputable def ev_500 : ZEV := ⟨([180, 0, 192], .getfield 192, 3), by decide +kernel⟩
noncomputable def ev_501 : ZEV := ⟨([167, 255, 200], .goto (-56), 3), by decide +kernel⟩
noncomputable def ev_502 : ZEV := ⟨([162, 0, 5], .if_icmp .ge 5, 3), by decide +kernel⟩
noncomputable def ev_503 : ZEV := ⟨([162, 0, 67], .if_icmp .ge 67, 3), by decide +kernel⟩
noncomputable def ev_504 : ZEV := ⟨([180, 0, 203], .getfield 203, 3), by decide +kernel⟩
noncomputable def ev_505 : ZEV := ⟨([184, 0, 206], .invokestatic 206, 3), by decide +kernel⟩
noncomputable def ev_506 : ZEV := ⟨([112], .irem, 1), by decide +kernel⟩
noncomputable def ev_507 : ZEV := ⟨([184, 0, 209], .invokestatic 209, 3), by decide +kernel⟩
noncomputable def ev_508 : ZEV := ⟨([167, 255, 187], .goto (-69), 3), by decide +kernel⟩
noncomputable def ev_509 : ZEV := ⟨([162, 0, 42], .if_icmp .ge 42, 3), by decide +kernel⟩
noncomputable def ev_510 : ZEV := ⟨([180, 0, 186], .getfield 186, 3), by decide +kernel⟩
noncomputable def ev_511 : ZEV := ⟨([20, 0, 214], .ldc2_w 214, 3), by decide +kernel⟩
noncomputable def ev_512 : ZEV := ⟨([156, 0, 6], .ifCond .ge 6, 3), by decide +kernel⟩
noncomputable def ev_513 : ZEV := ⟨([167, 255, 214], .goto (-42), 3), by decide +kernel⟩
noncomputable def ev_514 : ZEV := ⟨([180, 0, 189], .getfield 189, 3), by decide +kernel⟩
noncomputable def ev_515 : ZEV := ⟨([65], .lstore_n 2, 1), by decide +kernel⟩
noncomputable def ev_516 : ZEV := ⟨([16, 30], .bipush 30, 2), by decide +kernel⟩
noncomputable def ev_517 : ZEV := ⟨([125], .lushr, 1), by decide +kernel⟩
noncomputable def ev_518 : ZEV := ⟨([131], .lxor, 1), by decide +kernel⟩
noncomputable def ev_519 : ZEV := ⟨([20, 0, 219], .ldc2_w 219, 3), by decide +kernel⟩
noncomputable def ev_520 : ZEV := ⟨([16, 27], .bipush 27, 2), by decide +kernel⟩
noncomputable def ev_521 : ZEV := ⟨([20, 0, 221], .ldc2_w 221, 3), by decide +kernel⟩
noncomputable def ev_522 : ZEV := ⟨([16, 31], .bipush 31, 2), by decide +kernel⟩
noncomputable def ev_523 : ZEV := ⟨([16, 33], .bipush 33, 2), by decide +kernel⟩
noncomputable def ev_524 : ZEV := ⟨([20, 0, 223], .ldc2_w 223, 3), by decide +kernel⟩
noncomputable def ev_525 : ZEV := ⟨([113], .lrem, 1), by decide +kernel⟩
noncomputable def ev_526 : ZEV := ⟨([17, 4, 0], .sipush 1024, 3), by decide +kernel⟩
noncomputable def ev_527 : ZEV := ⟨([17, 0, 160], .sipush 160, 3), by decide +kernel⟩
noncomputable def ev_528 : ZEV := ⟨([181, 0, 31], .putfield 31, 3), by decide +kernel⟩
noncomputable def ev_529 : ZEV := ⟨([181, 0, 34], .putfield 34, 3), by decide +kernel⟩
noncomputable def ev_530 : ZEV := ⟨([181, 0, 37], .putfield 37, 3), by decide +kernel⟩
noncomputable def ev_531 : ZEV := ⟨([181, 0, 40], .putfield 40, 3), by decide +kernel⟩
noncomputable def ev_532 : ZEV := ⟨([181, 0, 43], .putfield 43, 3), by decide +kernel⟩
noncomputable def ev_533 : ZEV := ⟨([181, 0, 47], .putfield 47, 3), by decide +kernel⟩
noncomputable def ev_534 : ZEV := ⟨([160, 0, 24], .if_icmp .ne 24, 3), by decide +kernel⟩
noncomputable def ev_535 : ZEV := ⟨([180, 0, 55], .getfield 55, 3), by decide +kernel⟩
noncomputable def ev_536 : ZEV := ⟨([160, 0, 16], .if_icmp .ne 16, 3), by decide +kernel⟩
noncomputable def ev_537 : ZEV := ⟨([180, 0, 58], .getfield 58, 3), by decide +kernel⟩
noncomputable def ev_538 : ZEV := ⟨([160, 0, 8], .if_icmp .ne 8, 3), by decide +kernel⟩
noncomputable def ev_539 : ZEV := ⟨([180, 0, 61], .getfield 61, 3), by decide +kernel⟩
noncomputable def ev_540 : ZEV := ⟨([181, 0, 55], .putfield 55, 3), by decide +kernel⟩
noncomputable def ev_541 : ZEV := ⟨([181, 0, 58], .putfield 58, 3), by decide +kernel⟩
noncomputable def ev_542 : ZEV := ⟨([181, 0, 61], .putfield 61, 3), by decide +kernel⟩
noncomputable def ev_543 : ZEV := ⟨([18, 69], .ldc 69, 2), by decide +kernel⟩
noncomputable def ev_544 : ZEV := ⟨([162, 0, 34], .if_icmp .ge 34, 3), by decide +kernel⟩
noncomputable def ev_545 : ZEV := ⟨([182, 0, 70], .invokevirtual 70, 3), by decide +kernel⟩
noncomputable def ev_546 : ZEV := ⟨([153, 0, 25], .ifCond .eq 25, 3), by decide +kernel⟩
noncomputable def ev_547 : ZEV := ⟨([182, 0, 74], .invokevirtual 74, 3), by decide +kernel⟩
noncomputable def ev_548 : ZEV := ⟨([184, 0, 78], .invokestatic 78, 3), by decide +kernel⟩
noncomputable def ev_549 : ZEV := ⟨([180, 0, 84], .getfield 84, 3), by decide +kernel⟩
noncomputable def ev_550 : ZEV := ⟨([153, 0, 64], .ifCond .eq 64, 3), by decide +kernel⟩
noncomputable def ev_551 : ZEV := ⟨([158, 0, 55], .ifCond .le 55, 3), by decide +kernel⟩
noncomputable def ev_552 : ZEV := ⟨([180, 0, 94], .getfield 94, 3), by decide +kernel⟩
noncomputable def ev_553 : ZEV := ⟨([180, 0, 97], .getfield 97, 3), by decide +kernel⟩
noncomputable def ev_554 : ZEV := ⟨([162, 0, 115], .if_icmp .ge 115, 3), by decide +kernel⟩
noncomputable def ev_555 : ZEV := ⟨([153, 0, 110], .ifCond .eq 110, 3), by decide +kernel⟩
noncomputable def ev_556 : ZEV := ⟨([154, 0, 102], .ifCond .ne 102, 3), by decide +kernel⟩
noncomputable def ev_557 : ZEV := ⟨([153, 0, 80], .ifCond .eq 80, 3), by decide +kernel⟩
noncomputable def ev_558 : ZEV := ⟨([184, 0, 100], .invokestatic 100, 3), by decide +kernel⟩
noncomputable def ev_559 : ZEV := ⟨([153, 0, 27], .ifCond .eq 27, 3), by decide +kernel⟩
noncomputable def ev_560 : ZEV := ⟨([167, 255, 230], .goto (-26), 3), by decide +kernel⟩
noncomputable def ev_561 : ZEV := ⟨([167, 255, 177], .goto (-79), 3), by decide +kernel⟩
noncomputable def ev_562 : ZEV := ⟨([167, 255, 140], .goto (-116), 3), by decide +kernel⟩
noncomputable def ev_563 : ZEV := ⟨([181, 0, 104], .putfield 104, 3), by decide +kernel⟩
noncomputable def ev_564 : ZEV := ⟨([18, 107], .ldc 107, 2), by decide +kernel⟩
noncomputable def ev_565 : ZEV := ⟨([162, 0, 47], .if_icmp .ge 47, 3), by decide +kernel⟩
noncomputable def ev_566 : ZEV := ⟨([159, 0, 41], .if_icmp .eq 41, 3), by decide +kernel⟩
noncomputable def ev_567 : ZEV := ⟨([184, 0, 108], .invokestatic 108, 3), by decide +kernel⟩
noncomputable def ev_568 : ZEV := ⟨([167, 255, 208], .goto (-48), 3), by decide +kernel⟩
noncomputable def ev_569 : ZEV := ⟨([162, 0, 108], .if_icmp .ge 108, 3), by decide +kernel⟩
noncomputable def ev_570 : ZEV := ⟨([159, 0, 102], .if_icmp .eq 102, 3), by decide +kernel⟩
noncomputable def ev_571 : ZEV := ⟨([20, 0, 117], .ldc2_w 117, 3), by decide +kernel⟩
noncomputable def ev_572 : ZEV := ⟨([55, 5], .lstore 5, 2), by decide +kernel⟩
noncomputable def ev_573 : ZEV := ⟨([180, 0, 40], .getfield 40, 3), by decide +kernel⟩
noncomputable def ev_574 : ZEV := ⟨([18, 123], .ldc 123, 2), by decide +kernel⟩
noncomputable def ev_575 : ZEV := ⟨([18, 124], .ldc 124, 2), by decide +kernel⟩
noncomputable def ev_576 : ZEV := ⟨([158, 0, 39], .ifCond .le 39, 3), by decide +kernel⟩
noncomputable def ev_577 : ZEV := ⟨([180, 0, 125], .getfield 125, 3), by decide +kernel⟩
noncomputable def ev_578 : ZEV := ⟨([182, 0, 132], .invokevirtual 132, 3), by decide +kernel⟩
noncomputable def ev_579 : ZEV := ⟨([16, 16], .bipush 16, 2), by decide +kernel⟩
noncomputable def ev_580 : ZEV := ⟨([108], .idiv, 1), by decide +kernel⟩
noncomputable def ev_581 : ZEV := ⟨([167, 255, 218], .goto (-38), 3), by decide +kernel⟩
noncomputable def ev_582 : ZEV := ⟨([180, 0, 136], .getfield 136, 3), by decide +kernel⟩
noncomputable def ev_583 : ZEV := ⟨([162, 0, 31], .if_icmp .ge 31, 3), by decide +kernel⟩
noncomputable def ev_584 : ZEV := ⟨([180, 0, 37], .getfield 37, 3), by decide +kernel⟩
noncomputable def ev_585 : ZEV := ⟨([181, 0, 136], .putfield 136, 3), by decide +kernel⟩
noncomputable def ev_586 : ZEV := ⟨([162, 0, 94], .if_icmp .ge 94, 3), by decide +kernel⟩
noncomputable def ev_587 : ZEV := ⟨([153, 0, 38], .ifCond .eq 38, 3), by decide +kernel⟩
noncomputable def ev_588 : ZEV := ⟨([180, 0, 139], .getfield 139, 3), by decide +kernel⟩
noncomputable def ev_589 : ZEV := ⟨([182, 0, 142], .invokevirtual 142, 3), by decide +kernel⟩
noncomputable def ev_590 : ZEV := ⟨([167, 0, 44], .goto 44, 3), by decide +kernel⟩
noncomputable def ev_591 : ZEV := ⟨([159, 0, 33], .if_icmp .eq 33, 3), by decide +kernel⟩
noncomputable def ev_592 : ZEV := ⟨([156, 0, 23], .ifCond .ge 23, 3), by decide +kernel⟩
noncomputable def ev_593 : ZEV := ⟨([167, 255, 159], .goto (-97), 3), by decide +kernel⟩
noncomputable def ev_594 : ZEV := ⟨([184, 0, 146], .invokestatic 146, 3), by decide +kernel⟩
noncomputable def ev_595 : ZEV := ⟨([182, 0, 149], .invokevirtual 149, 3), by decide +kernel⟩
noncomputable def ev_596 : ZEV := ⟨([162, 0, 118], .if_icmp .ge 118, 3), by decide +kernel⟩
noncomputable def ev_597 : ZEV := ⟨([180, 0, 34], .getfield 34, 3), by decide +kernel⟩
noncomputable def ev_598 : ZEV := ⟨([156, 0, 20], .ifCond .ge 20, 3), by decide +kernel⟩
noncomputable def ev_599 : ZEV := ⟨([161, 0, 14], .if_icmp .lt 14, 3), by decide +kernel⟩
noncomputable def ev_600 : ZEV := ⟨([182, 0, 152], .invokevirtual 152, 3), by decide +kernel⟩
noncomputable def ev_601 : ZEV := ⟨([167, 0, 35], .goto 35, 3), by decide +kernel⟩
noncomputable def ev_602 : ZEV := ⟨([158, 0, 28], .ifCond .le 28, 3), by decide +kernel⟩
noncomputable def ev_603 : ZEV := ⟨([161, 0, 17], .if_icmp .lt 17, 3), by decide +kernel⟩
noncomputable def ev_604 : ZEV := ⟨([167, 255, 135], .goto (-121), 3), by decide +kernel⟩
noncomputable def ev_605 : ZEV := ⟨([182, 0, 155], .invokevirtual 155, 3), by decide +kernel⟩
noncomputable def ev_606 : ZEV := ⟨([160, 0, 4], .if_icmp .ne 4, 3), by decide +kernel⟩
noncomputable def ev_607 : ZEV := ⟨([182, 0, 158], .invokevirtual 158, 3), by decide +kernel⟩
noncomputable def ev_608 : ZEV := ⟨([167, 255, 225], .goto (-31), 3), by decide +kernel⟩
noncomputable def ev_609 : ZEV := ⟨([162, 0, 64], .if_icmp .ge 64, 3), by decide +kernel⟩
noncomputable def ev_610 : ZEV := ⟨([162, 0, 39], .if_icmp .ge 39, 3), by decide +kernel⟩
noncomputable def ev_611 : ZEV := ⟨([161, 0, 7], .if_icmp .lt 7, 3), by decide +kernel⟩
noncomputable def ev_612 : ZEV := ⟨([20, 0, 162], .ldc2_w 162, 3), by decide +kernel⟩
noncomputable def ev_613 : ZEV := ⟨([162, 0, 60], .if_icmp .ge 60, 3), by decide +kernel⟩
noncomputable def ev_614 : ZEV := ⟨([163, 0, 42], .if_icmp .gt 42, 3), by decide +kernel⟩
noncomputable def ev_615 : ZEV := ⟨([153, 0, 28], .ifCond .eq 28, 3), by decide +kernel⟩
noncomputable def ev_616 : ZEV := ⟨([159, 0, 20], .if_icmp .eq 20, 3), by decide +kernel⟩
noncomputable def ev_617 : ZEV := ⟨([167, 255, 196], .goto (-60), 3), by decide +kernel⟩
noncomputable def ev_618 : ZEV := ⟨([163, 0, 43], .if_icmp .gt 43, 3), by decide +kernel⟩
noncomputable def ev_619 : ZEV := ⟨([153, 0, 39], .ifCond .eq 39, 3), by decide +kernel⟩
noncomputable def ev_620 : ZEV := ⟨([162, 0, 19], .if_icmp .ge 19, 3), by decide +kernel⟩
noncomputable def ev_621 : ZEV := ⟨([182, 0, 164], .invokevirtual 164, 3), by decide +kernel⟩
noncomputable def ev_622 : ZEV := ⟨([167, 255, 234], .goto (-22), 3), by decide +kernel⟩
noncomputable def ev_623 : ZEV := ⟨([161, 0, 74], .if_icmp .lt 74, 3), by decide +kernel⟩
noncomputable def ev_624 : ZEV := ⟨([153, 0, 61], .ifCond .eq 61, 3), by decide +kernel⟩
noncomputable def ev_625 : ZEV := ⟨([156, 0, 36], .ifCond .ge 36, 3), by decide +kernel⟩
noncomputable def ev_626 : ZEV := ⟨([161, 0, 76], .if_icmp .lt 76, 3), by decide +kernel⟩
noncomputable def ev_627 : ZEV := ⟨([153, 0, 62], .ifCond .eq 62, 3), by decide +kernel⟩
noncomputable def ev_628 : ZEV := ⟨([156, 0, 37], .ifCond .ge 37, 3), by decide +kernel⟩
noncomputable def ev_629 : ZEV := ⟨([162, 0, 105], .if_icmp .ge 105, 3), by decide +kernel⟩
noncomputable def ev_630 : ZEV := ⟨([159, 0, 95], .if_icmp .eq 95, 3), by decide +kernel⟩
noncomputable def ev_631 : ZEV := ⟨([167, 0, 10], .goto 10, 3), by decide +kernel⟩
noncomputable def ev_632 : ZEV := ⟨([153, 0, 13], .ifCond .eq 13, 3), by decide +kernel⟩
noncomputable def ev_633 : ZEV := ⟨([167, 255, 150], .goto (-106), 3), by decide +kernel⟩
noncomputable def ev_634 : ZEV := ⟨([162, 0, 91], .if_icmp .ge 91, 3), by decide +kernel⟩
noncomputable def ev_635 : ZEV := ⟨([159, 0, 81], .if_icmp .eq 81, 3), by decide +kernel⟩
noncomputable def ev_636 : ZEV := ⟨([167, 0, 5], .goto 5, 3), by decide +kernel⟩
noncomputable def ev_637 : ZEV := ⟨([167, 255, 164], .goto (-92), 3), by decide +kernel⟩
noncomputable def ev_638 : ZEV := ⟨([180, 0, 47], .getfield 47, 3), by decide +kernel⟩
noncomputable def ev_639 : ZEV := ⟨([181, 0, 167], .putfield 167, 3), by decide +kernel⟩
noncomputable def ev_640 : ZEV := ⟨([181, 0, 170], .putfield 170, 3), by decide +kernel⟩
noncomputable def ev_641 : ZEV := ⟨([162, 0, 28], .if_icmp .ge 28, 3), by decide +kernel⟩
noncomputable def ev_642 : ZEV := ⟨([184, 0, 173], .invokestatic 173, 3), by decide +kernel⟩
noncomputable def ev_643 : ZEV := ⟨([167, 255, 226], .goto (-30), 3), by decide +kernel⟩
noncomputable def ev_644 : ZEV := ⟨([162, 0, 100], .if_icmp .ge 100, 3), by decide +kernel⟩
noncomputable def ev_645 : ZEV := ⟨([153, 0, 86], .ifCond .eq 86, 3), by decide +kernel⟩
noncomputable def ev_646 : ZEV := ⟨([159, 0, 63], .if_icmp .eq 63, 3), by decide +kernel⟩
noncomputable def ev_647 : ZEV := ⟨([153, 0, 12], .ifCond .eq 12, 3), by decide +kernel⟩
noncomputable def ev_648 : ZEV := ⟨([167, 255, 154], .goto (-102), 3), by decide +kernel⟩
noncomputable def ev_649 : ZEV := ⟨([162, 0, 49], .if_icmp .ge 49, 3), by decide +kernel⟩
noncomputable def ev_650 : ZEV := ⟨([180, 0, 170], .getfield 170, 3), by decide +kernel⟩
noncomputable def ev_651 : ZEV := ⟨([167, 255, 207], .goto (-49), 3), by decide +kernel⟩
noncomputable def ev_652 : ZEV := ⟨([180, 0, 177], .getfield 177, 3), by decide +kernel⟩
noncomputable def ev_653 : ZEV := ⟨([16, 13], .bipush 13, 2), by decide +kernel⟩
noncomputable def ev_654 : ZEV := ⟨([162, 0, 7], .if_icmp .ge 7, 3), by decide +kernel⟩
noncomputable def ev_655 : ZEV := ⟨([181, 0, 21], .putfield 21, 3), by decide +kernel⟩
noncomputable def ev_656 : ZEV := ⟨([181, 0, 24], .putfield 24, 3), by decide +kernel⟩
noncomputable def ev_657 : ZEV := ⟨([181, 0, 27], .putfield 27, 3), by decide +kernel⟩
noncomputable def ev_658 : ZEV := ⟨([181, 0, 30], .putfield 30, 3), by decide +kernel⟩
noncomputable def ev_659 : ZEV := ⟨([181, 0, 33], .putfield 33, 3), by decide +kernel⟩
noncomputable def ev_660 : ZEV := ⟨([181, 0, 36], .putfield 36, 3), by decide +kernel⟩
noncomputable def ev_661 : ZEV := ⟨([181, 0, 42], .putfield 42, 3), by decide +kernel⟩
noncomputable def ev_662 : ZEV := ⟨([181, 0, 45], .putfield 45, 3), by decide +kernel⟩
noncomputable def ev_663 : ZEV := ⟨([181, 0, 48], .putfield 48, 3), by decide +kernel⟩
noncomputable def ev_664 : ZEV := ⟨([181, 0, 51], .putfield 51, 3), by decide +kernel⟩
noncomputable def ev_665 : ZEV := ⟨([184, 0, 55], .invokestatic 55, 3), by decide +kernel⟩
noncomputable def ev_666 : ZEV := ⟨([181, 0, 64], .putfield 64, 3), by decide +kernel⟩
noncomputable def ev_667 : ZEV := ⟨([181, 0, 67], .putfield 67, 3), by decide +kernel⟩
noncomputable def ev_668 : ZEV := ⟨([181, 0, 70], .putfield 70, 3), by decide +kernel⟩
noncomputable def ev_669 : ZEV := ⟨([180, 0, 64], .getfield 64, 3), by decide +kernel⟩
noncomputable def ev_670 : ZEV := ⟨([180, 0, 67], .getfield 67, 3), by decide +kernel⟩
noncomputable def ev_671 : ZEV := ⟨([180, 0, 70], .getfield 70, 3), by decide +kernel⟩
noncomputable def ev_672 : ZEV := ⟨([184, 0, 73], .invokestatic 73, 3), by decide +kernel⟩
noncomputable def ev_673 : ZEV := ⟨([180, 0, 21], .getfield 21, 3), by decide +kernel⟩
noncomputable def ev_674 : ZEV := ⟨([180, 0, 24], .getfield 24, 3), by decide +kernel⟩
noncomputable def ev_675 : ZEV := ⟨([180, 0, 27], .getfield 27, 3), by decide +kernel⟩
noncomputable def ev_676 : ZEV := ⟨([155, 0, 15], .ifCond .lt 15, 3), by decide +kernel⟩
noncomputable def ev_677 : ZEV := ⟨([182, 0, 79], .invokevirtual 79, 3), by decide +kernel⟩
noncomputable def ev_678 : ZEV := ⟨([153, 0, 20], .ifCond .eq 20, 3), by decide +kernel⟩
noncomputable def ev_679 : ZEV := ⟨([159, 0, 7], .if_icmp .eq 7, 3), by decide +kernel⟩
noncomputable def ev_680 : ZEV := ⟨([155, 0, 25], .ifCond .lt 25, 3), by decide +kernel⟩
noncomputable def ev_681 : ZEV := ⟨([162, 0, 17], .if_icmp .ge 17, 3), by decide +kernel⟩
noncomputable def ev_682 : ZEV := ⟨([159, 0, 22], .if_icmp .eq 22, 3), by decide +kernel⟩
noncomputable def ev_683 : ZEV := ⟨([60], .istore_n 1, 1), by decide +kernel⟩
noncomputable def ev_684 : ZEV := ⟨([162, 0, 20], .if_icmp .ge 20, 3), by decide +kernel⟩
noncomputable def ev_685 : ZEV := ⟨([153, 0, 6], .ifCond .eq 6, 3), by decide +kernel⟩
noncomputable def ev_686 : ZEV := ⟨([132, 1, 1], .iinc 1 1, 3), by decide +kernel⟩
noncomputable def ev_687 : ZEV := ⟨([162, 0, 41], .if_icmp .ge 41, 3), by decide +kernel⟩
noncomputable def ev_688 : ZEV := ⟨([160, 0, 12], .if_icmp .ne 12, 3), by decide +kernel⟩
noncomputable def ev_689 : ZEV := ⟨([160, 0, 5], .if_icmp .ne 5, 3), by decide +kernel⟩
noncomputable def ev_690 : ZEV := ⟨([180, 0, 45], .getfield 45, 3), by decide +kernel⟩
noncomputable def ev_691 : ZEV := ⟨([167, 255, 224], .goto (-32), 3), by decide +kernel⟩
noncomputable def ev_692 : ZEV := ⟨([180, 0, 51], .getfield 51, 3), by decide +kernel⟩
noncomputable def ev_693 : ZEV := ⟨([180, 0, 30], .getfield 30, 3), by decide +kernel⟩
noncomputable def ev_694 : ZEV := ⟨([180, 0, 33], .getfield 33, 3), by decide +kernel⟩
noncomputable def ev_695 : ZEV := ⟨([180, 0, 36], .getfield 36, 3), by decide +kernel⟩
noncomputable def ev_696 : ZEV := ⟨([159, 0, 19], .if_icmp .eq 19, 3), by decide +kernel⟩
noncomputable def ev_697 : ZEV := ⟨([155, 0, 83], .ifCond .lt 83, 3), by decide +kernel⟩
noncomputable def ev_698 : ZEV := ⟨([159, 0, 67], .if_icmp .eq 67, 3), by decide +kernel⟩
noncomputable def ev_699 : ZEV := ⟨([180, 0, 48], .getfield 48, 3), by decide +kernel⟩
noncomputable def ev_700 : ZEV := ⟨([132, 1, 255], .iinc 1 (-1), 3), by decide +kernel⟩
noncomputable def ev_701 : ZEV := ⟨([159, 0, 27], .if_icmp .eq 27, 3), by decide +kernel⟩
noncomputable def ev_702 : ZEV := ⟨([181, 0, 38], .putfield 38, 3), by decide +kernel⟩
noncomputable def ev_703 : ZEV := ⟨([180, 0, 41], .getfield 41, 3), by decide +kernel⟩
noncomputable def ev_704 : ZEV := ⟨([160, 0, 11], .if_icmp .ne 11, 3), by decide +kernel⟩
noncomputable def ev_705 : ZEV := ⟨([180, 0, 46], .getfield 46, 3), by decide +kernel⟩
noncomputable def ev_706 : ZEV := ⟨([181, 0, 46], .putfield 46, 3), by decide +kernel⟩
noncomputable def ev_707 : ZEV := ⟨([20, 0, 49], .ldc2_w 49, 3), by decide +kernel⟩
noncomputable def ev_708 : ZEV := ⟨([184, 0, 51], .invokestatic 51, 3), by decide +kernel⟩
noncomputable def ev_709 : ZEV := ⟨([167, 255, 233], .goto (-23), 3), by decide +kernel⟩
noncomputable def ev_710 : ZEV := ⟨([182, 0, 67], .invokevirtual 67, 3), by decide +kernel⟩
noncomputable def ev_711 : ZEV := ⟨([167, 0, 22], .goto 22, 3), by decide +kernel⟩
noncomputable def ev_712 : ZEV := ⟨([20, 0, 71], .ldc2_w 71, 3), by decide +kernel⟩
noncomputable def ev_713 : ZEV := ⟨([20, 0, 73], .ldc2_w 73, 3), by decide +kernel⟩
noncomputable def ev_714 : ZEV := ⟨([180, 0, 75], .getfield 75, 3), by decide +kernel⟩
noncomputable def ev_715 : ZEV := ⟨([180, 0, 78], .getfield 78, 3), by decide +kernel⟩
noncomputable def ev_716 : ZEV := ⟨([180, 0, 81], .getfield 81, 3), by decide +kernel⟩
noncomputable def ev_717 : ZEV := ⟨([167, 255, 217], .goto (-39), 3), by decide +kernel⟩
noncomputable def ev_718 : ZEV := ⟨([167, 255, 138], .goto (-118), 3), by decide +kernel⟩
noncomputable def ev_719 : ZEV := ⟨([162, 0, 46], .if_icmp .ge 46, 3), by decide +kernel⟩
noncomputable def ev_720 : ZEV := ⟨([184, 0, 87], .invokestatic 87, 3), by decide +kernel⟩
noncomputable def ev_721 : ZEV := ⟨([180, 0, 90], .getfield 90, 3), by decide +kernel⟩
noncomputable def ev_722 : ZEV := ⟨([162, 0, 57], .if_icmp .ge 57, 3), by decide +kernel⟩
noncomputable def ev_723 : ZEV := ⟨([182, 0, 93], .invokevirtual 93, 3), by decide +kernel⟩
noncomputable def ev_724 : ZEV := ⟨([153, 0, 42], .ifCond .eq 42, 3), by decide +kernel⟩
noncomputable def ev_725 : ZEV := ⟨([160, 0, 15], .if_icmp .ne 15, 3), by decide +kernel⟩
noncomputable def ev_726 : ZEV := ⟨([20, 0, 100], .ldc2_w 100, 3), by decide +kernel⟩
noncomputable def ev_727 : ZEV := ⟨([180, 0, 102], .getfield 102, 3), by decide +kernel⟩
noncomputable def ev_728 : ZEV := ⟨([167, 255, 211], .goto (-45), 3), by decide +kernel⟩
noncomputable def ev_729 : ZEV := ⟨([182, 0, 105], .invokevirtual 105, 3), by decide +kernel⟩
noncomputable def ev_730 : ZEV := ⟨([16, 20], .bipush 20, 2), by decide +kernel⟩
noncomputable def ev_731 : ZEV := ⟨([182, 0, 108], .invokevirtual 108, 3), by decide +kernel⟩
noncomputable def ev_732 : ZEV := ⟨([181, 0, 102], .putfield 102, 3), by decide +kernel⟩
noncomputable def ev_733 : ZEV := ⟨([182, 0, 115], .invokevirtual 115, 3), by decide +kernel⟩
noncomputable def ev_734 : ZEV := ⟨([184, 0, 119], .invokestatic 119, 3), by decide +kernel⟩
noncomputable def ev_735 : ZEV := ⟨([162, 0, 37], .if_icmp .ge 37, 3), by decide +kernel⟩
noncomputable def ev_736 : ZEV := ⟨([180, 0, 130], .getfield 130, 3), by decide +kernel⟩
noncomputable def ev_737 : ZEV := ⟨([153, 0, 79], .ifCond .eq 79, 3), by decide +kernel⟩
noncomputable def ev_738 : ZEV := ⟨([159, 0, 49], .if_icmp .eq 49, 3), by decide +kernel⟩
noncomputable def ev_739 : ZEV := ⟨([154, 0, 39], .ifCond .ne 39, 3), by decide +kernel⟩
noncomputable def ev_740 : ZEV := ⟨([159, 0, 15], .if_icmp .eq 15, 3), by decide +kernel⟩
noncomputable def ev_741 : ZEV := ⟨([182, 0, 133], .invokevirtual 133, 3), by decide +kernel⟩
noncomputable def ev_742 : ZEV := ⟨([167, 255, 178], .goto (-78), 3), by decide +kernel⟩
noncomputable def ev_743 : ZEV := ⟨([156, 0, 28], .ifCond .ge 28, 3), by decide +kernel⟩
noncomputable def ev_744 : ZEV := ⟨([158, 0, 19], .ifCond .le 19, 3), by decide +kernel⟩
noncomputable def ev_745 : ZEV := ⟨([182, 0, 137], .invokevirtual 137, 3), by decide +kernel⟩
noncomputable def ev_746 : ZEV := ⟨([182, 0, 140], .invokevirtual 140, 3), by decide +kernel⟩
noncomputable def ev_747 : ZEV := ⟨([158, 0, 17], .ifCond .le 17, 3), by decide +kernel⟩
noncomputable def ev_748 : ZEV := ⟨([157, 0, 31], .ifCond .gt 31, 3), by decide +kernel⟩
noncomputable def ev_749 : ZEV := ⟨([180, 0, 38], .getfield 38, 3), by decide +kernel⟩
noncomputable def ev_750 : ZEV := ⟨([167, 255, 216], .goto (-40), 3), by decide +kernel⟩
noncomputable def ev_751 : ZEV := ⟨([180, 0, 144], .getfield 144, 3), by decide +kernel⟩
noncomputable def ev_752 : ZEV := ⟨([180, 0, 147], .getfield 147, 3), by decide +kernel⟩
noncomputable def ev_753 : ZEV := ⟨([160, 0, 18], .if_icmp .ne 18, 3), by decide +kernel⟩
noncomputable def ev_754 : ZEV := ⟨([160, 0, 19], .if_icmp .ne 19, 3), by decide +kernel⟩
noncomputable def ev_755 : ZEV := ⟨([20, 0, 150], .ldc2_w 150, 3), by decide +kernel⟩
noncomputable def ev_756 : ZEV := ⟨([167, 255, 236], .goto (-20), 3), by decide +kernel⟩
noncomputable def ev_757 : ZEV := ⟨([167, 0, 16], .goto 16, 3), by decide +kernel⟩
noncomputable def ev_758 : ZEV := ⟨([187, 0, 9], .new 9, 3), by decide +kernel⟩
noncomputable def ev_759 : ZEV := ⟨([183, 0, 11], .invokespecial 11, 3), by decide +kernel⟩
noncomputable def ev_760 : ZEV := ⟨([181, 0, 12], .putfield 12, 3), by decide +kernel⟩
noncomputable def ev_761 : ZEV := ⟨([17, 1, 192], .sipush 448, 3), by decide +kernel⟩
noncomputable def ev_762 : ZEV := ⟨([180, 0, 12], .getfield 12, 3), by decide +kernel⟩
noncomputable def ev_763 : ZEV := ⟨([17, 15, 160], .sipush 4000, 3), by decide +kernel⟩
noncomputable def ev_764 : ZEV := ⟨([153, 0, 41], .ifCond .eq 41, 3), by decide +kernel⟩
noncomputable def ev_765 : ZEV := ⟨([153, 0, 30], .ifCond .eq 30, 3), by decide +kernel⟩
noncomputable def ev_766 : ZEV := ⟨([184, 0, 36], .invokestatic 36, 3), by decide +kernel⟩
noncomputable def ev_767 : ZEV := ⟨([153, 0, 23], .ifCond .eq 23, 3), by decide +kernel⟩
noncomputable def ev_768 : ZEV := ⟨([184, 0, 39], .invokestatic 39, 3), by decide +kernel⟩
noncomputable def ev_769 : ZEV := ⟨([153, 0, 15], .ifCond .eq 15, 3), by decide +kernel⟩
noncomputable def ev_770 : ZEV := ⟨([184, 0, 42], .invokestatic 42, 3), by decide +kernel⟩
noncomputable def ev_771 : ZEV := ⟨([182, 0, 52], .invokevirtual 52, 3), by decide +kernel⟩
noncomputable def ev_772 : ZEV := ⟨([160, 0, 6], .if_icmp .ne 6, 3), by decide +kernel⟩
noncomputable def ev_773 : ZEV := ⟨([16, 253], .bipush (-3), 2), by decide +kernel⟩
noncomputable def ev_774 : ZEV := ⟨([182, 0, 56], .invokevirtual 56, 3), by decide +kernel⟩
noncomputable def ev_775 : ZEV := ⟨([182, 0, 59], .invokevirtual 59, 3), by decide +kernel⟩
noncomputable def ev_776 : ZEV := ⟨([164, 0, 34], .if_icmp .le 34, 3), by decide +kernel⟩
noncomputable def ev_777 : ZEV := ⟨([17, 109, 96], .sipush 28000, 3), by decide +kernel⟩
noncomputable def ev_778 : ZEV := ⟨([184, 0, 63], .invokestatic 63, 3), by decide +kernel⟩
noncomputable def ev_779 : ZEV := ⟨([184, 0, 69], .invokestatic 69, 3), by decide +kernel⟩
noncomputable def ev_780 : ZEV := ⟨([184, 0, 72], .invokestatic 72, 3), by decide +kernel⟩
noncomputable def ev_781 : ZEV := ⟨([167, 0, 60], .goto 60, 3), by decide +kernel⟩
noncomputable def ev_782 : ZEV := ⟨([182, 0, 81], .invokevirtual 81, 3), by decide +kernel⟩
noncomputable def ev_783 : ZEV := ⟨([167, 0, 50], .goto 50, 3), by decide +kernel⟩
noncomputable def ev_784 : ZEV := ⟨([182, 0, 85], .invokevirtual 85, 3), by decide +kernel⟩
noncomputable def ev_785 : ZEV := ⟨([167, 0, 42], .goto 42, 3), by decide +kernel⟩
noncomputable def ev_786 : ZEV := ⟨([167, 0, 17], .goto 17, 3), by decide +kernel⟩
noncomputable def ev_787 : ZEV := ⟨([180, 0, 93], .getfield 93, 3), by decide +kernel⟩
noncomputable def ev_788 : ZEV := ⟨([180, 0, 96], .getfield 96, 3), by decide +kernel⟩
noncomputable def ev_789 : ZEV := ⟨([180, 0, 99], .getfield 99, 3), by decide +kernel⟩
noncomputable def ev_790 : ZEV := ⟨([180, 0, 105], .getfield 105, 3), by decide +kernel⟩
noncomputable def ev_791 : ZEV := ⟨([180, 0, 108], .getfield 108, 3), by decide +kernel⟩
noncomputable def ev_792 : ZEV := ⟨([181, 0, 108], .putfield 108, 3), by decide +kernel⟩
noncomputable def ev_793 : ZEV := ⟨([180, 0, 111], .getfield 111, 3), by decide +kernel⟩
noncomputable def ev_794 : ZEV := ⟨([181, 0, 111], .putfield 111, 3), by decide +kernel⟩
noncomputable def ev_795 : ZEV := ⟨([167, 0, 27], .goto 27, 3), by decide +kernel⟩
noncomputable def ev_796 : ZEV := ⟨([160, 0, 14], .if_icmp .ne 14, 3), by decide +kernel⟩
noncomputable def ev_797 : ZEV := ⟨([182, 0, 114], .invokevirtual 114, 3), by decide +kernel⟩
noncomputable def ev_798 : ZEV := ⟨([162, 0, 14], .if_icmp .ge 14, 3), by decide +kernel⟩
noncomputable def ev_799 : ZEV := ⟨([167, 255, 243], .goto (-13), 3), by decide +kernel⟩
noncomputable def ev_800 : ZEV := ⟨([182, 0, 117], .invokevirtual 117, 3), by decide +kernel⟩
noncomputable def ev_801 : ZEV := ⟨([17, 3, 232], .sipush 1000, 3), by decide +kernel⟩
noncomputable def ev_802 : ZEV := ⟨([163, 0, 47], .if_icmp .gt 47, 3), by decide +kernel⟩
noncomputable def ev_803 : ZEV := ⟨([182, 0, 124], .invokevirtual 124, 3), by decide +kernel⟩
noncomputable def ev_804 : ZEV := ⟨([180, 0, 128], .getfield 128, 3), by decide +kernel⟩
noncomputable def ev_805 : ZEV := ⟨([154, 0, 17], .ifCond .ne 17, 3), by decide +kernel⟩
noncomputable def ev_806 : ZEV := ⟨([16, 252], .bipush (-4), 2), by decide +kernel⟩
noncomputable def ev_807 : ZEV := ⟨([180, 0, 135], .getfield 135, 3), by decide +kernel⟩
noncomputable def ev_808 : ZEV := ⟨([160, 0, 10], .if_icmp .ne 10, 3), by decide +kernel⟩
noncomputable def ev_809 : ZEV := ⟨([180, 0, 138], .getfield 138, 3), by decide +kernel⟩
noncomputable def ev_810 : ZEV := ⟨([184, 0, 141], .invokestatic 141, 3), by decide +kernel⟩
noncomputable def ev_811 : ZEV := ⟨([182, 0, 145], .invokevirtual 145, 3), by decide +kernel⟩
noncomputable def ev_812 : ZEV := ⟨([182, 0, 151], .invokevirtual 151, 3), by decide +kernel⟩
noncomputable def ev_813 : ZEV := ⟨([162, 0, 72], .if_icmp .ge 72, 3), by decide +kernel⟩
noncomputable def ev_814 : ZEV := ⟨([162, 0, 62], .if_icmp .ge 62, 3), by decide +kernel⟩
noncomputable def ev_815 : ZEV := ⟨([16, 108], .bipush 108, 2), by decide +kernel⟩
noncomputable def ev_816 : ZEV := ⟨([160, 0, 7], .if_icmp .ne 7, 3), by decide +kernel⟩
noncomputable def ev_817 : ZEV := ⟨([159, 0, 10], .if_icmp .eq 10, 3), by decide +kernel⟩
noncomputable def ev_818 : ZEV := ⟨([167, 255, 180], .goto (-76), 3), by decide +kernel⟩
noncomputable def ev_819 : ZEV := ⟨([182, 0, 162], .invokevirtual 162, 3), by decide +kernel⟩
noncomputable def ev_820 : ZEV := ⟨([18, 171], .ldc 171, 2), by decide +kernel⟩
noncomputable def ev_821 : ZEV := ⟨([176], .areturn, 1), by decide +kernel⟩
noncomputable def ev_822 : ZEV := ⟨([18, 173], .ldc 173, 2), by decide +kernel⟩
noncomputable def ev_823 : ZEV := ⟨([18, 175], .ldc 175, 2), by decide +kernel⟩
noncomputable def ev_824 : ZEV := ⟨([18, 177], .ldc 177, 2), by decide +kernel⟩
noncomputable def ev_825 : ZEV := ⟨([18, 179], .ldc 179, 2), by decide +kernel⟩
noncomputable def ev_826 : ZEV := ⟨([182, 0, 181], .invokevirtual 181, 3), by decide +kernel⟩
noncomputable def ev_827 : ZEV := ⟨([160, 0, 34], .if_icmp .ne 34, 3), by decide +kernel⟩
noncomputable def ev_828 : ZEV := ⟨([182, 0, 184], .invokevirtual 184, 3), by decide +kernel⟩
noncomputable def ev_829 : ZEV := ⟨([155, 0, 7], .ifCond .lt 7, 3), by decide +kernel⟩
noncomputable def ev_830 : ZEV := ⟨([154, 0, 85], .ifCond .ne 85, 3), by decide +kernel⟩
noncomputable def ev_831 : ZEV := ⟨([153, 0, 46], .ifCond .eq 46, 3), by decide +kernel⟩
noncomputable def ev_832 : ZEV := ⟨([16, 19], .bipush 19, 2), by decide +kernel⟩
noncomputable def ev_833 : ZEV := ⟨([182, 0, 202], .invokevirtual 202, 3), by decide +kernel⟩
noncomputable def ev_834 : ZEV := ⟨([184, 0, 43], .invokestatic 43, 3), by decide +kernel⟩
noncomputable def ev_835 : ZEV := ⟨([182, 0, 50], .invokevirtual 50, 3), by decide +kernel⟩
noncomputable def ev_836 : ZEV := ⟨([180, 0, 54], .getfield 54, 3), by decide +kernel⟩
noncomputable def ev_837 : ZEV := ⟨([180, 0, 57], .getfield 57, 3), by decide +kernel⟩
noncomputable def ev_838 : ZEV := ⟨([180, 0, 60], .getfield 60, 3), by decide +kernel⟩
noncomputable def ev_839 : ZEV := ⟨([159, 0, 60], .if_icmp .eq 60, 3), by decide +kernel⟩
noncomputable def ev_840 : ZEV := ⟨([153, 0, 51], .ifCond .eq 51, 3), by decide +kernel⟩
noncomputable def ev_841 : ZEV := ⟨([159, 0, 26], .if_icmp .eq 26, 3), by decide +kernel⟩
noncomputable def ev_842 : ZEV := ⟨([167, 255, 181], .goto (-75), 3), by decide +kernel⟩
noncomputable def ev_843 : ZEV := ⟨([180, 0, 63], .getfield 63, 3), by decide +kernel⟩
noncomputable def ev_844 : ZEV := ⟨([162, 0, 12], .if_icmp .ge 12, 3), by decide +kernel⟩
noncomputable def ev_845 : ZEV := ⟨([180, 0, 77], .getfield 77, 3), by decide +kernel⟩
noncomputable def ev_846 : ZEV := ⟨([162, 0, 45], .if_icmp .ge 45, 3), by decide +kernel⟩
noncomputable def ev_847 : ZEV := ⟨([184, 0, 80], .invokestatic 80, 3), by decide +kernel⟩
noncomputable def ev_848 : ZEV := ⟨([167, 255, 209], .goto (-47), 3), by decide +kernel⟩
noncomputable def ev_849 : ZEV := ⟨([153, 0, 31], .ifCond .eq 31, 3), by decide +kernel⟩
noncomputable def ev_850 : ZEV := ⟨([154, 0, 8], .ifCond .ne 8, 3), by decide +kernel⟩
noncomputable def ev_851 : ZEV := ⟨([167, 255, 227], .goto (-29), 3), by decide +kernel⟩
noncomputable def ev_852 : ZEV := ⟨([162, 0, 52], .if_icmp .ge 52, 3), by decide +kernel⟩
noncomputable def ev_853 : ZEV := ⟨([182, 0, 91], .invokevirtual 91, 3), by decide +kernel⟩
noncomputable def ev_854 : ZEV := ⟨([184, 0, 94], .invokestatic 94, 3), by decide +kernel⟩
noncomputable def ev_855 : ZEV := ⟨([182, 0, 100], .invokevirtual 100, 3), by decide +kernel⟩
noncomputable def ev_856 : ZEV := ⟨([167, 255, 201], .goto (-55), 3), by decide +kernel⟩
noncomputable def ev_857 : ZEV := ⟨([153, 0, 35], .ifCond .eq 35, 3), by decide +kernel⟩
noncomputable def ev_858 : ZEV := ⟨([162, 0, 8], .if_icmp .ge 8, 3), by decide +kernel⟩
noncomputable def ev_859 : ZEV := ⟨([167, 255, 223], .goto (-33), 3), by decide +kernel⟩
noncomputable def ev_860 : ZEV := ⟨([180, 0, 104], .getfield 104, 3), by decide +kernel⟩
noncomputable def ev_861 : ZEV := ⟨([162, 0, 29], .if_icmp .ge 29, 3), by decide +kernel⟩
noncomputable def ev_862 : ZEV := ⟨([180, 0, 107], .getfield 107, 3), by decide +kernel⟩
noncomputable def ev_863 : ZEV := ⟨([180, 0, 110], .getfield 110, 3), by decide +kernel⟩
noncomputable def ev_864 : ZEV := ⟨([180, 0, 113], .getfield 113, 3), by decide +kernel⟩
noncomputable def ev_865 : ZEV := ⟨([153, 0, 40], .ifCond .eq 40, 3), by decide +kernel⟩
noncomputable def ev_866 : ZEV := ⟨([184, 0, 116], .invokestatic 116, 3), by decide +kernel⟩
noncomputable def ev_867 : ZEV := ⟨([167, 255, 193], .goto (-63), 3), by decide +kernel⟩
noncomputable def ev_868 : ZEV := ⟨([20, 0, 121], .ldc2_w 121, 3), by decide +kernel⟩
noncomputable def ev_869 : ZEV := ⟨([162, 0, 63], .if_icmp .ge 63, 3), by decide +kernel⟩
noncomputable def ev_870 : ZEV := ⟨([167, 255, 190], .goto (-66), 3), by decide +kernel⟩
noncomputable def ev_871 : ZEV := ⟨([20, 0, 123], .ldc2_w 123, 3), by decide +kernel⟩
noncomputable def ev_872 : ZEV := ⟨([16, 26], .bipush 26, 2), by decide +kernel⟩
noncomputable def ev_873 : ZEV := ⟨([16, 11], .bipush 11, 2), by decide +kernel⟩
noncomputable def ev_874 : ZEV := ⟨([182, 0, 41], .invokevirtual 41, 3), by decide +kernel⟩
noncomputable def ev_875 : ZEV := ⟨([184, 0, 54], .invokestatic 54, 3), by decide +kernel⟩
noncomputable def ev_876 : ZEV := ⟨([182, 0, 58], .invokevirtual 58, 3), by decide +kernel⟩
noncomputable def ev_877 : ZEV := ⟨([162, 0, 81], .if_icmp .ge 81, 3), by decide +kernel⟩
noncomputable def ev_878 : ZEV := ⟨([180, 0, 62], .getfield 62, 3), by decide +kernel⟩
noncomputable def ev_879 : ZEV := ⟨([52], .caload, 1), by decide +kernel⟩
noncomputable def ev_880 : ZEV := ⟨([184, 0, 66], .invokestatic 66, 3), by decide +kernel⟩
noncomputable def ev_881 : ZEV := ⟨([167, 255, 173], .goto (-83), 3), by decide +kernel⟩
noncomputable def ev_882 : ZEV := ⟨([16, 46], .bipush 46, 2), by decide +kernel⟩
noncomputable def ev_883 : ZEV := ⟨([16, 122], .bipush 122, 2), by decide +kernel⟩
noncomputable def ev_884 : ZEV := ⟨([163, 0, 7], .if_icmp .gt 7, 3), by decide +kernel⟩
noncomputable def ev_885 : ZEV := ⟨([184, 0, 74], .invokestatic 74, 3), by decide +kernel⟩
noncomputable def ev_886 : ZEV := ⟨([162, 0, 123], .if_icmp .ge 123, 3), by decide +kernel⟩
noncomputable def ev_887 : ZEV := ⟨([160, 0, 29], .if_icmp .ne 29, 3), by decide +kernel⟩
noncomputable def ev_888 : ZEV := ⟨([167, 0, 38], .goto 38, 3), by decide +kernel⟩
noncomputable def ev_889 : ZEV := ⟨([160, 0, 31], .if_icmp .ne 31, 3), by decide +kernel⟩
noncomputable def ev_890 : ZEV := ⟨([158, 0, 27], .ifCond .le 27, 3), by decide +kernel⟩
noncomputable def ev_891 : ZEV := ⟨([132, 2, 255], .iinc 2 (-1), 3), by decide +kernel⟩
noncomputable def ev_892 : ZEV := ⟨([167, 255, 131], .goto (-125), 3), by decide +kernel⟩
noncomputable def ev_893 : ZEV := ⟨([184, 0, 95], .invokestatic 95, 3), by decide +kernel⟩
noncomputable def ev_894 : ZEV := ⟨([160, 0, 35], .if_icmp .ne 35, 3), by decide +kernel⟩
noncomputable def ev_895 : ZEV := ⟨([167, 0, 94], .goto 94, 3), by decide +kernel⟩
noncomputable def ev_896 : ZEV := ⟨([167, 0, 69], .goto 69, 3), by decide +kernel⟩
noncomputable def ev_897 : ZEV := ⟨([16, 124], .bipush 124, 2), by decide +kernel⟩
noncomputable def ev_898 : ZEV := ⟨([159, 0, 17], .if_icmp .eq 17, 3), by decide +kernel⟩
noncomputable def ev_899 : ZEV := ⟨([167, 0, 49], .goto 49, 3), by decide +kernel⟩
noncomputable def ev_900 : ZEV := ⟨([167, 0, 19], .goto 19, 3), by decide +kernel⟩
noncomputable def ev_901 : ZEV := ⟨([159, 0, 9], .if_icmp .eq 9, 3), by decide +kernel⟩
noncomputable def ev_902 : ZEV := ⟨([163, 0, 21], .if_icmp .gt 21, 3), by decide +kernel⟩
noncomputable def ev_903 : ZEV := ⟨([163, 0, 52], .if_icmp .gt 52, 3), by decide +kernel⟩
noncomputable def ev_904 : ZEV := ⟨([163, 0, 39], .if_icmp .gt 39, 3), by decide +kernel⟩
noncomputable def ev_905 : ZEV := ⟨([123], .lshr, 1), by decide +kernel⟩
noncomputable def ev_906 : ZEV := ⟨([167, 255, 205], .goto (-51), 3), by decide +kernel⟩
noncomputable def ev_907 : ZEV := ⟨([163, 0, 20], .if_icmp .gt 20, 3), by decide +kernel⟩
noncomputable def ev_908 : ZEV := ⟨([182, 0, 99], .invokevirtual 99, 3), by decide +kernel⟩
noncomputable def ev_909 : ZEV := ⟨([17, 7, 160], .sipush 1952, 3), by decide +kernel⟩
noncomputable def ev_910 : ZEV := ⟨([163, 0, 38], .if_icmp .gt 38, 3), by decide +kernel⟩
noncomputable def ev_911 : ZEV := ⟨([162, 0, 141], .if_icmp .ge 141, 3), by decide +kernel⟩
noncomputable def ev_912 : ZEV := ⟨([162, 0, 114], .if_icmp .ge 114, 3), by decide +kernel⟩
noncomputable def ev_913 : ZEV := ⟨([153, 0, 103], .ifCond .eq 103, 3), by decide +kernel⟩
noncomputable def ev_914 : ZEV := ⟨([180, 0, 114], .getfield 114, 3), by decide +kernel⟩
noncomputable def ev_915 : ZEV := ⟨([180, 0, 117], .getfield 117, 3), by decide +kernel⟩
noncomputable def ev_916 : ZEV := ⟨([180, 0, 120], .getfield 120, 3), by decide +kernel⟩
noncomputable def ev_917 : ZEV := ⟨([182, 0, 123], .invokevirtual 123, 3), by decide +kernel⟩
noncomputable def ev_918 : ZEV := ⟨([20, 0, 127], .ldc2_w 127, 3), by decide +kernel⟩
noncomputable def ev_919 : ZEV := ⟨([55, 7], .lstore 7, 2), by decide +kernel⟩
noncomputable def ev_920 : ZEV := ⟨([22, 7], .lload 7, 2), by decide +kernel⟩
noncomputable def ev_921 : ZEV := ⟨([167, 255, 113], .goto (-143), 3), by decide +kernel⟩
noncomputable def ev_922 : ZEV := ⟨([66], .lstore_n 3, 1), by decide +kernel⟩
noncomputable def ev_923 : ZEV := ⟨([188, 5], .newarray .char, 2), by decide +kernel⟩
noncomputable def ev_924 : ZEV := ⟨([17, 18, 0], .sipush 4608, 3), by decide +kernel⟩
noncomputable def ev_925 : ZEV := ⟨([160, 0, 13], .if_icmp .ne 13, 3), by decide +kernel⟩
noncomputable def ev_926 : ZEV := ⟨([182, 0, 34], .invokevirtual 34, 3), by decide +kernel⟩
noncomputable def ev_927 : ZEV := ⟨([162, 0, 30], .if_icmp .ge 30, 3), by decide +kernel⟩
noncomputable def ev_928 : ZEV := ⟨([182, 0, 44], .invokevirtual 44, 3), by decide +kernel⟩
noncomputable def ev_929 : ZEV := ⟨([153, 0, 11], .ifCond .eq 11, 3), by decide +kernel⟩
noncomputable def ev_930 : ZEV := ⟨([161, 0, 23], .if_icmp .lt 23, 3), by decide +kernel⟩
noncomputable def ev_931 : ZEV := ⟨([163, 0, 17], .if_icmp .gt 17, 3), by decide +kernel⟩
noncomputable def ev_932 : ZEV := ⟨([184, 0, 52], .invokestatic 52, 3), by decide +kernel⟩
noncomputable def ev_933 : ZEV := ⟨([16, 48], .bipush 48, 2), by decide +kernel⟩
noncomputable def ev_934 : ZEV := ⟨([161, 0, 18], .if_icmp .lt 18, 3), by decide +kernel⟩
noncomputable def ev_935 : ZEV := ⟨([16, 57], .bipush 57, 2), by decide +kernel⟩
noncomputable def ev_936 : ZEV := ⟨([162, 0, 55], .if_icmp .ge 55, 3), by decide +kernel⟩
noncomputable def ev_937 : ZEV := ⟨([153, 0, 44], .ifCond .eq 44, 3), by decide +kernel⟩
noncomputable def ev_938 : ZEV := ⟨([163, 0, 23], .if_icmp .gt 23, 3), by decide +kernel⟩
noncomputable def ev_939 : ZEV := ⟨([164, 0, 7], .if_icmp .le 7, 3), by decide +kernel⟩
noncomputable def ev_940 : ZEV := ⟨([18, 56], .ldc 56, 2), by decide +kernel⟩
noncomputable def ev_941 : ZEV := ⟨([162, 0, 25], .if_icmp .ge 25, 3), by decide +kernel⟩
noncomputable def ev_942 : ZEV := ⟨([16, 110], .bipush 110, 2), by decide +kernel⟩
noncomputable def ev_943 : ZEV := ⟨([182, 0, 72], .invokevirtual 72, 3), by decide +kernel⟩
noncomputable def ev_944 : ZEV := ⟨([162, 0, 75], .if_icmp .ge 75, 3), by decide +kernel⟩
noncomputable def ev_945 : ZEV := ⟨([180, 0, 87], .getfield 87, 3), by decide +kernel⟩
noncomputable def ev_946 : ZEV := ⟨([159, 0, 59], .if_icmp .eq 59, 3), by decide +kernel⟩
noncomputable def ev_947 : ZEV := ⟨([85], .castore, 1), by decide +kernel⟩
noncomputable def ev_948 : ZEV := ⟨([156, 0, 9], .ifCond .ge 9, 3), by decide +kernel⟩
noncomputable def ev_949 : ZEV := ⟨([184, 0, 105], .invokestatic 105, 3), by decide +kernel⟩
noncomputable def ev_950 : ZEV := ⟨([158, 0, 25], .ifCond .le 25, 3), by decide +kernel⟩
noncomputable def ev_951 : ZEV := ⟨([181, 0, 41], .putfield 41, 3), by decide +kernel⟩
noncomputable def ev_952 : ZEV := ⟨([20, 0, 57], .ldc2_w 57, 3), by decide +kernel⟩
noncomputable def ev_953 : ZEV := ⟨([132, 7, 1], .iinc 7 1, 3), by decide +kernel⟩
noncomputable def ev_954 : ZEV := ⟨([167, 255, 161], .goto (-95), 3), by decide +kernel⟩
noncomputable def ev_955 : ZEV := ⟨([181, 0, 69], .putfield 69, 3), by decide +kernel⟩
noncomputable def ev_956 : ZEV := ⟨([180, 0, 72], .getfield 72, 3), by decide +kernel⟩
noncomputable def ev_957 : ZEV := ⟨([182, 0, 75], .invokevirtual 75, 3), by decide +kernel⟩
noncomputable def ev_958 : ZEV := ⟨([180, 0, 69], .getfield 69, 3), by decide +kernel⟩
noncomputable def ev_959 : ZEV := ⟨([180, 0, 82], .getfield 82, 3), by decide +kernel⟩
noncomputable def ev_960 : ZEV := ⟨([180, 0, 85], .getfield 85, 3), by decide +kernel⟩
noncomputable def ev_961 : ZEV := ⟨([20, 0, 88], .ldc2_w 88, 3), by decide +kernel⟩
noncomputable def ev_962 : ZEV := ⟨([184, 0, 90], .invokestatic 90, 3), by decide +kernel⟩
noncomputable def ev_963 : ZEV := ⟨([162, 0, 79], .if_icmp .ge 79, 3), by decide +kernel⟩
noncomputable def ev_964 : ZEV := ⟨([159, 0, 58], .if_icmp .eq 58, 3), by decide +kernel⟩
noncomputable def ev_965 : ZEV := ⟨([184, 0, 96], .invokestatic 96, 3), by decide +kernel⟩
noncomputable def ev_966 : ZEV := ⟨([162, 0, 138], .if_icmp .ge 138, 3), by decide +kernel⟩
noncomputable def ev_967 : ZEV := ⟨([163, 0, 44], .if_icmp .gt 44, 3), by decide +kernel⟩
noncomputable def ev_968 : ZEV := ⟨([159, 0, 38], .if_icmp .eq 38, 3), by decide +kernel⟩
noncomputable def ev_969 : ZEV := ⟨([160, 0, 27], .if_icmp .ne 27, 3), by decide +kernel⟩
noncomputable def ev_970 : ZEV := ⟨([167, 255, 212], .goto (-44), 3), by decide +kernel⟩
noncomputable def ev_971 : ZEV := ⟨([159, 0, 72], .if_icmp .eq 72, 3), by decide +kernel⟩
noncomputable def ev_972 : ZEV := ⟨([160, 0, 60], .if_icmp .ne 60, 3), by decide +kernel⟩
noncomputable def ev_973 : ZEV := ⟨([160, 0, 49], .if_icmp .ne 49, 3), by decide +kernel⟩
noncomputable def ev_974 : ZEV := ⟨([160, 0, 26], .if_icmp .ne 26, 3), by decide +kernel⟩
noncomputable def ev_975 : ZEV := ⟨([167, 255, 118], .goto (-138), 3), by decide +kernel⟩
noncomputable def ev_976 : ZEV := ⟨([159, 0, 18], .if_icmp .eq 18, 3), by decide +kernel⟩
noncomputable def ev_977 : ZEV := ⟨([162, 0, 70], .if_icmp .ge 70, 3), by decide +kernel⟩
noncomputable def ev_978 : ZEV := ⟨([153, 0, 56], .ifCond .eq 56, 3), by decide +kernel⟩
noncomputable def ev_979 : ZEV := ⟨([184, 0, 99], .invokestatic 99, 3), by decide +kernel⟩
noncomputable def ev_980 : ZEV := ⟨([153, 0, 47], .ifCond .eq 47, 3), by decide +kernel⟩
noncomputable def ev_981 : ZEV := ⟨([167, 255, 184], .goto (-72), 3), by decide +kernel⟩
noncomputable def ev_982 : ZEV := ⟨([184, 0, 103], .invokestatic 103, 3), by decide +kernel⟩
noncomputable def ev_983 : ZEV := ⟨([159, 0, 31], .if_icmp .eq 31, 3), by decide +kernel⟩
noncomputable def ev_984 : ZEV := ⟨([167, 0, 8], .goto 8, 3), by decide +kernel⟩
noncomputable def ev_985 : ZEV := ⟨([181, 0, 114], .putfield 114, 3), by decide +kernel⟩
noncomputable def ev_986 : ZEV := ⟨([162, 0, 117], .if_icmp .ge 117, 3), by decide +kernel⟩
noncomputable def ev_987 : ZEV := ⟨([167, 255, 137], .goto (-119), 3), by decide +kernel⟩
noncomputable def ev_988 : ZEV := ⟨([162, 0, 27], .if_icmp .ge 27, 3), by decide +kernel⟩
noncomputable def ev_989 : ZEV := ⟨([136], .l2i, 1), by decide +kernel⟩
noncomputable def ev_990 : ZEV := ⟨([154, 0, 9], .ifCond .ne 9, 3), by decide +kernel⟩
noncomputable def ev_991 : ZEV := ⟨([161, 0, 5], .if_icmp .lt 5, 3), by decide +kernel⟩
noncomputable def ev_992 : ZEV := ⟨([182, 0, 129], .invokevirtual 129, 3), by decide +kernel⟩
noncomputable def ev_993 : ZEV := ⟨([20, 0, 133], .ldc2_w 133, 3), by decide +kernel⟩
noncomputable def ev_994 : ZEV := ⟨([184, 0, 135], .invokestatic 135, 3), by decide +kernel⟩
noncomputable def ev_995 : ZEV := ⟨([162, 0, 102], .if_icmp .ge 102, 3), by decide +kernel⟩
noncomputable def ev_996 : ZEV := ⟨([55, 9], .lstore 9, 2), by decide +kernel⟩
noncomputable def ev_997 : ZEV := ⟨([22, 9], .lload 9, 2), by decide +kernel⟩
noncomputable def ev_998 : ZEV := ⟨([153, 0, 55], .ifCond .eq 55, 3), by decide +kernel⟩
noncomputable def ev_999 : ZEV := ⟨([132, 11, 1], .iinc 11 1, 3), by decide +kernel⟩
noncomputable def ev_1000 : ZEV := ⟨([167, 255, 199], .goto (-57), 3), by decide +kernel⟩
noncomputable def ev_1001 : ZEV := ⟨([158, 0, 43], .ifCond .le 43, 3), by decide +kernel⟩
noncomputable def ev_1002 : ZEV := ⟨([153, 0, 14], .ifCond .eq 14, 3), by decide +kernel⟩
noncomputable def ev_1003 : ZEV := ⟨([181, 0, 23], .putfield 23, 3), by decide +kernel⟩
noncomputable def ev_1004 : ZEV := ⟨([181, 0, 26], .putfield 26, 3), by decide +kernel⟩
noncomputable def ev_1005 : ZEV := ⟨([17, 7, 209], .sipush 2001, 3), by decide +kernel⟩
noncomputable def ev_1006 : ZEV := ⟨([20, 0, 45], .ldc2_w 45, 3), by decide +kernel⟩
noncomputable def ev_1007 : ZEV := ⟨([20, 0, 47], .ldc2_w 47, 3), by decide +kernel⟩
noncomputable def ev_1008 : ZEV := ⟨([20, 0, 51], .ldc2_w 51, 3), by decide +kernel⟩
noncomputable def ev_1009 : ZEV := ⟨([154, 0, 35], .ifCond .ne 35, 3), by decide +kernel⟩
noncomputable def ev_1010 : ZEV := ⟨([153, 0, 22], .ifCond .eq 22, 3), by decide +kernel⟩
noncomputable def ev_1011 : ZEV := ⟨([155, 0, 5], .ifCond .lt 5, 3), by decide +kernel⟩
noncomputable def ev_1012 : ZEV := ⟨([180, 0, 66], .getfield 66, 3), by decide +kernel⟩
noncomputable def ev_1013 : ZEV := ⟨([167, 255, 220], .goto (-36), 3), by decide +kernel⟩
noncomputable def ev_1014 : ZEV := ⟨([180, 0, 71], .getfield 71, 3), by decide +kernel⟩
noncomputable def ev_1015 : ZEV := ⟨([162, 0, 68], .if_icmp .ge 68, 3), by decide +kernel⟩
noncomputable def ev_1016 : ZEV := ⟨([180, 0, 74], .getfield 74, 3), by decide +kernel⟩
noncomputable def ev_1017 : ZEV := ⟨([184, 0, 77], .invokestatic 77, 3), by decide +kernel⟩
noncomputable def ev_1018 : ZEV := ⟨([167, 255, 182], .goto (-74), 3), by decide +kernel⟩
noncomputable def ev_1019 : ZEV := ⟨([181, 0, 90], .putfield 90, 3), by decide +kernel⟩
noncomputable def ev_1020 : ZEV := ⟨([184, 0, 93], .invokestatic 93, 3), by decide +kernel⟩
noncomputable def ev_1021 : ZEV := ⟨([153, 0, 122], .ifCond .eq 122, 3), by decide +kernel⟩
noncomputable def ev_1022 : ZEV := ⟨([184, 0, 112], .invokestatic 112, 3), by decide +kernel⟩
noncomputable def ev_1023 : ZEV := ⟨([162, 0, 80], .if_icmp .ge 80, 3), by decide +kernel⟩
noncomputable def ev_1024 : ZEV := ⟨([180, 0, 119], .getfield 119, 3), by decide +kernel⟩
noncomputable def ev_1025 : ZEV := ⟨([180, 0, 122], .getfield 122, 3), by decide +kernel⟩
noncomputable def ev_1026 : ZEV := ⟨([156, 0, 31], .ifCond .ge 31, 3), by decide +kernel⟩
noncomputable def ev_1027 : ZEV := ⟨([184, 0, 125], .invokestatic 125, 3), by decide +kernel⟩
noncomputable def ev_1028 : ZEV := ⟨([18, 128], .ldc 128, 2), by decide +kernel⟩
noncomputable def ev_1029 : ZEV := ⟨([162, 0, 134], .if_icmp .ge 134, 3), by decide +kernel⟩
noncomputable def ev_1030 : ZEV := ⟨([159, 0, 14], .if_icmp .eq 14, 3), by decide +kernel⟩
noncomputable def ev_1031 : ZEV := ⟨([184, 0, 139], .invokestatic 139, 3), by decide +kernel⟩
noncomputable def ev_1032 : ZEV := ⟨([184, 0, 143], .invokestatic 143, 3), by decide +kernel⟩
noncomputable def ev_1033 : ZEV := ⟨([167, 255, 186], .goto (-70), 3), by decide +kernel⟩
noncomputable def ev_1034 : ZEV := ⟨([167, 255, 119], .goto (-137), 3), by decide +kernel⟩
noncomputable def ev_1035 : ZEV := ⟨([182, 0, 146], .invokevirtual 146, 3), by decide +kernel⟩
noncomputable def ev_1036 : ZEV := ⟨([180, 0, 23], .getfield 23, 3), by decide +kernel⟩
noncomputable def ev_1037 : ZEV := ⟨([180, 0, 26], .getfield 26, 3), by decide +kernel⟩
noncomputable def ev_1038 : ZEV := ⟨([159, 0, 5], .if_icmp .eq 5, 3), by decide +kernel⟩
noncomputable def ev_1039 : ZEV := ⟨([20, 0, 149], .ldc2_w 149, 3), by decide +kernel⟩
noncomputable def ev_1040 : ZEV := ⟨([162, 0, 150], .if_icmp .ge 150, 3), by decide +kernel⟩
noncomputable def ev_1041 : ZEV := ⟨([162, 0, 112], .if_icmp .ge 112, 3), by decide +kernel⟩
noncomputable def ev_1042 : ZEV := ⟨([167, 255, 106], .goto (-150), 3), by decide +kernel⟩
noncomputable def ev_1043 : ZEV := ⟨([180, 0, 155], .getfield 155, 3), by decide +kernel⟩
noncomputable def ev_1044 : ZEV := ⟨([17, 7, 208], .sipush 2000, 3), by decide +kernel⟩
noncomputable def ev_1045 : ZEV := ⟨([16, 254], .bipush (-2), 2), by decide +kernel⟩
noncomputable def ev_1046 : ZEV := ⟨([163, 0, 12], .if_icmp .gt 12, 3), by decide +kernel⟩
noncomputable def ev_1047 : ZEV := ⟨([20, 0, 158], .ldc2_w 158, 3), by decide +kernel⟩
noncomputable def ev_1048 : ZEV := ⟨([16, 24], .bipush 24, 2), by decide +kernel⟩
noncomputable def ev_1049 : ZEV := ⟨([20, 0, 160], .ldc2_w 160, 3), by decide +kernel⟩
noncomputable def ev_1050 : ZEV := ⟨([160, 0, 20], .if_icmp .ne 20, 3), by decide +kernel⟩
noncomputable def ev_1051 : ZEV := ⟨([180, 0, 162], .getfield 162, 3), by decide +kernel⟩
noncomputable def ev_1052 : ZEV := ⟨([180, 0, 165], .getfield 165, 3), by decide +kernel⟩
noncomputable def ev_1053 : ZEV := ⟨([181, 0, 162], .putfield 162, 3), by decide +kernel⟩
noncomputable def ev_1054 : ZEV := ⟨([181, 0, 165], .putfield 165, 3), by decide +kernel⟩
noncomputable def ev_1055 : ZEV := ⟨([181, 0, 155], .putfield 155, 3), by decide +kernel⟩
noncomputable def ev_1056 : ZEV := ⟨([182, 0, 172], .invokevirtual 172, 3), by decide +kernel⟩
noncomputable def ev_1057 : ZEV := ⟨([162, 0, 166], .if_icmp .ge 166, 3), by decide +kernel⟩
noncomputable def ev_1058 : ZEV := ⟨([163, 0, 156], .if_icmp .gt 156, 3), by decide +kernel⟩
noncomputable def ev_1059 : ZEV := ⟨([16, 35], .bipush 35, 2), by decide +kernel⟩
noncomputable def ev_1060 : ZEV := ⟨([55, 10], .lstore 10, 2), by decide +kernel⟩
noncomputable def ev_1061 : ZEV := ⟨([160, 0, 40], .if_icmp .ne 40, 3), by decide +kernel⟩
noncomputable def ev_1062 : ZEV := ⟨([22, 10], .lload 10, 2), by decide +kernel⟩
noncomputable def ev_1063 : ZEV := ⟨([20, 0, 175], .ldc2_w 175, 3), by decide +kernel⟩
noncomputable def ev_1064 : ZEV := ⟨([167, 0, 51], .goto 51, 3), by decide +kernel⟩
noncomputable def ev_1065 : ZEV := ⟨([182, 0, 177], .invokevirtual 177, 3), by decide +kernel⟩
noncomputable def ev_1066 : ZEV := ⟨([167, 255, 83], .goto (-173), 3), by decide +kernel⟩
noncomputable def ev_1067 : ZEV := ⟨([180, 0, 181], .getfield 181, 3), by decide +kernel⟩
noncomputable def ev_1068 : ZEV := ⟨([161, 0, 42], .if_icmp .lt 42, 3), by decide +kernel⟩
noncomputable def ev_1069 : ZEV := ⟨([153, 0, 37], .ifCond .eq 37, 3), by decide +kernel⟩
noncomputable def ev_1070 : ZEV := ⟨([167, 255, 240], .goto (-16), 3), by decide +kernel⟩
noncomputable def ev_1071 : ZEV := ⟨([158, 0, 89], .ifCond .le 89, 3), by decide +kernel⟩
noncomputable def ev_1072 : ZEV := ⟨([167, 255, 169], .goto (-87), 3), by decide +kernel⟩
noncomputable def ev_1073 : ZEV := ⟨([183, 0, 1], .invokespecial 1, 3), by decide +kernel⟩
noncomputable def ev_1074 : ZEV := ⟨([187, 0, 7], .new 7, 3), by decide +kernel⟩
noncomputable def ev_1075 : ZEV := ⟨([183, 0, 9], .invokespecial 9, 3), by decide +kernel⟩
noncomputable def ev_1076 : ZEV := ⟨([181, 0, 10], .putfield 10, 3), by decide +kernel⟩
noncomputable def ev_1077 : ZEV := ⟨([187, 0, 16], .new 16, 3), by decide +kernel⟩
noncomputable def ev_1078 : ZEV := ⟨([183, 0, 18], .invokespecial 18, 3), by decide +kernel⟩
noncomputable def ev_1079 : ZEV := ⟨([187, 0, 27], .new 27, 3), by decide +kernel⟩
noncomputable def ev_1080 : ZEV := ⟨([183, 0, 29], .invokespecial 29, 3), by decide +kernel⟩
noncomputable def ev_1081 : ZEV := ⟨([187, 0, 34], .new 34, 3), by decide +kernel⟩
noncomputable def ev_1082 : ZEV := ⟨([183, 0, 36], .invokespecial 36, 3), by decide +kernel⟩
noncomputable def ev_1083 : ZEV := ⟨([187, 0, 41], .new 41, 3), by decide +kernel⟩
noncomputable def ev_1084 : ZEV := ⟨([183, 0, 43], .invokespecial 43, 3), by decide +kernel⟩
noncomputable def ev_1085 : ZEV := ⟨([181, 0, 44], .putfield 44, 3), by decide +kernel⟩
noncomputable def ev_1086 : ZEV := ⟨([187, 0, 48], .new 48, 3), by decide +kernel⟩
noncomputable def ev_1087 : ZEV := ⟨([183, 0, 50], .invokespecial 50, 3), by decide +kernel⟩
noncomputable def ev_1088 : ZEV := ⟨([187, 0, 55], .new 55, 3), by decide +kernel⟩
noncomputable def ev_1089 : ZEV := ⟨([183, 0, 57], .invokespecial 57, 3), by decide +kernel⟩
noncomputable def ev_1090 : ZEV := ⟨([187, 0, 62], .new 62, 3), by decide +kernel⟩
noncomputable def ev_1091 : ZEV := ⟨([183, 0, 64], .invokespecial 64, 3), by decide +kernel⟩
noncomputable def ev_1092 : ZEV := ⟨([181, 0, 65], .putfield 65, 3), by decide +kernel⟩
noncomputable def ev_1093 : ZEV := ⟨([187, 0, 69], .new 69, 3), by decide +kernel⟩
noncomputable def ev_1094 : ZEV := ⟨([183, 0, 71], .invokespecial 71, 3), by decide +kernel⟩
noncomputable def ev_1095 : ZEV := ⟨([181, 0, 72], .putfield 72, 3), by decide +kernel⟩
noncomputable def ev_1096 : ZEV := ⟨([187, 0, 76], .new 76, 3), by decide +kernel⟩
noncomputable def ev_1097 : ZEV := ⟨([183, 0, 78], .invokespecial 78, 3), by decide +kernel⟩
noncomputable def ev_1098 : ZEV := ⟨([187, 0, 83], .new 83, 3), by decide +kernel⟩
noncomputable def ev_1099 : ZEV := ⟨([183, 0, 85], .invokespecial 85, 3), by decide +kernel⟩
noncomputable def ev_1100 : ZEV := ⟨([181, 0, 86], .putfield 86, 3), by decide +kernel⟩
noncomputable def ev_1101 : ZEV := ⟨([180, 0, 10], .getfield 10, 3), by decide +kernel⟩
noncomputable def ev_1102 : ZEV := ⟨([180, 0, 101], .getfield 101, 3), by decide +kernel⟩
noncomputable def ev_1103 : ZEV := ⟨([184, 0, 133], .invokestatic 133, 3), by decide +kernel⟩
noncomputable def ev_1104 : ZEV := ⟨([182, 0, 141], .invokevirtual 141, 3), by decide +kernel⟩
noncomputable def ev_1105 : ZEV := ⟨([161, 0, 21], .if_icmp .lt 21, 3), by decide +kernel⟩
noncomputable def ev_1106 : ZEV := ⟨([182, 0, 156], .invokevirtual 156, 3), by decide +kernel⟩
noncomputable def ev_1107 : ZEV := ⟨([182, 0, 160], .invokevirtual 160, 3), by decide +kernel⟩
noncomputable def ev_1108 : ZEV := ⟨([155, 0, 12], .ifCond .lt 12, 3), by decide +kernel⟩
noncomputable def ev_1109 : ZEV := ⟨([180, 0, 164], .getfield 164, 3), by decide +kernel⟩
noncomputable def ev_1110 : ZEV := ⟨([182, 0, 167], .invokevirtual 167, 3), by decide +kernel⟩
noncomputable def ev_1111 : ZEV := ⟨([180, 0, 171], .getfield 171, 3), by decide +kernel⟩
noncomputable def ev_1112 : ZEV := ⟨([155, 0, 23], .ifCond .lt 23, 3), by decide +kernel⟩
noncomputable def ev_1113 : ZEV := ⟨([162, 0, 16], .if_icmp .ge 16, 3), by decide +kernel⟩
noncomputable def ev_1114 : ZEV := ⟨([20, 0, 174], .ldc2_w 174, 3), by decide +kernel⟩
noncomputable def ev_1115 : ZEV := ⟨([154, 0, 11], .ifCond .ne 11, 3), by decide +kernel⟩
noncomputable def ev_1116 : ZEV := ⟨([180, 0, 176], .getfield 176, 3), by decide +kernel⟩
noncomputable def ev_1117 : ZEV := ⟨([180, 0, 179], .getfield 179, 3), by decide +kernel⟩
noncomputable def ev_1118 : ZEV := ⟨([167, 0, 12], .goto 12, 3), by decide +kernel⟩
noncomputable def ev_1119 : ZEV := ⟨([155, 0, 16], .ifCond .lt 16, 3), by decide +kernel⟩
noncomputable def ev_1120 : ZEV := ⟨([163, 0, 11], .if_icmp .gt 11, 3), by decide +kernel⟩
noncomputable def ev_1121 : ZEV := ⟨([154, 0, 33], .ifCond .ne 33, 3), by decide +kernel⟩
noncomputable def ev_1122 : ZEV := ⟨([180, 0, 188], .getfield 188, 3), by decide +kernel⟩
noncomputable def ev_1123 : ZEV := ⟨([180, 0, 191], .getfield 191, 3), by decide +kernel⟩
noncomputable def ev_1124 : ZEV := ⟨([182, 0, 194], .invokevirtual 194, 3), by decide +kernel⟩
noncomputable def ev_1125 : ZEV := ⟨([180, 0, 197], .getfield 197, 3), by decide +kernel⟩
noncomputable def ev_1126 : ZEV := ⟨([180, 0, 200], .getfield 200, 3), by decide +kernel⟩
noncomputable def ev_1127 : ZEV := ⟨([16, 126], .bipush 126, 2), by decide +kernel⟩
noncomputable def ev_1128 : ZEV := ⟨([180, 0, 206], .getfield 206, 3), by decide +kernel⟩
noncomputable def ev_1129 : ZEV := ⟨([181, 0, 203], .putfield 203, 3), by decide +kernel⟩
noncomputable def ev_1130 : ZEV := ⟨([182, 0, 210], .invokevirtual 210, 3), by decide +kernel⟩
noncomputable def ev_1131 : ZEV := ⟨([154, 0, 13], .ifCond .ne 13, 3), by decide +kernel⟩
noncomputable def ev_1132 : ZEV := ⟨([180, 0, 214], .getfield 214, 3), by decide +kernel⟩
noncomputable def ev_1133 : ZEV := ⟨([180, 0, 217], .getfield 217, 3), by decide +kernel⟩
noncomputable def ev_1134 : ZEV := ⟨([182, 0, 220], .invokevirtual 220, 3), by decide +kernel⟩
noncomputable def ev_1135 : ZEV := ⟨([155, 0, 18], .ifCond .lt 18, 3), by decide +kernel⟩
noncomputable def ev_1136 : ZEV := ⟨([180, 0, 224], .getfield 224, 3), by decide +kernel⟩
noncomputable def ev_1137 : ZEV := ⟨([180, 0, 227], .getfield 227, 3), by decide +kernel⟩
noncomputable def ev_1138 : ZEV := ⟨([182, 0, 230], .invokevirtual 230, 3), by decide +kernel⟩
noncomputable def ev_1139 : ZEV := ⟨([182, 0, 238], .invokevirtual 238, 3), by decide +kernel⟩
noncomputable def ev_1140 : ZEV := ⟨([182, 0, 242], .invokevirtual 242, 3), by decide +kernel⟩
noncomputable def ev_1141 : ZEV := ⟨([182, 0, 245], .invokevirtual 245, 3), by decide +kernel⟩
noncomputable def ev_1142 : ZEV := ⟨([182, 0, 248], .invokevirtual 248, 3), by decide +kernel⟩
noncomputable def ev_1143 : ZEV := ⟨([155, 0, 20], .ifCond .lt 20, 3), by decide +kernel⟩
noncomputable def ev_1144 : ZEV := ⟨([163, 0, 15], .if_icmp .gt 15, 3), by decide +kernel⟩
noncomputable def ev_1145 : ZEV := ⟨([180, 0, 44], .getfield 44, 3), by decide +kernel⟩
noncomputable def ev_1146 : ZEV := ⟨([182, 1, 0], .invokevirtual 256, 3), by decide +kernel⟩
noncomputable def ev_1147 : ZEV := ⟨([182, 1, 3], .invokevirtual 259, 3), by decide +kernel⟩
noncomputable def ev_1148 : ZEV := ⟨([182, 1, 7], .invokevirtual 263, 3), by decide +kernel⟩
noncomputable def ev_1149 : ZEV := ⟨([182, 1, 10], .invokevirtual 266, 3), by decide +kernel⟩
noncomputable def ev_1150 : ZEV := ⟨([182, 1, 13], .invokevirtual 269, 3), by decide +kernel⟩
noncomputable def ev_1151 : ZEV := ⟨([182, 1, 16], .invokevirtual 272, 3), by decide +kernel⟩
noncomputable def ev_1152 : ZEV := ⟨([184, 1, 19], .invokestatic 275, 3), by decide +kernel⟩
noncomputable def ev_1153 : ZEV := ⟨([162, 0, 15], .if_icmp .ge 15, 3), by decide +kernel⟩
noncomputable def ev_1154 : ZEV := ⟨([167, 255, 242], .goto (-14), 3), by decide +kernel⟩
noncomputable def ev_1155 : ZEV := ⟨([180, 1, 33], .getfield 289, 3), by decide +kernel⟩
noncomputable def ev_1156 : ZEV := ⟨([155, 0, 14], .ifCond .lt 14, 3), by decide +kernel⟩
noncomputable def ev_1157 : ZEV := ⟨([19, 1, 36], .ldc_w 292, 3), by decide +kernel⟩
noncomputable def ev_1158 : ZEV := ⟨([182, 1, 41], .invokevirtual 297, 3), by decide +kernel⟩
noncomputable def ev_1159 : ZEV := ⟨([180, 1, 45], .getfield 301, 3), by decide +kernel⟩
noncomputable def ev_1160 : ZEV := ⟨([180, 1, 48], .getfield 304, 3), by decide +kernel⟩
noncomputable def ev_1161 : ZEV := ⟨([180, 0, 65], .getfield 65, 3), by decide +kernel⟩
noncomputable def ev_1162 : ZEV := ⟨([182, 1, 52], .invokevirtual 308, 3), by decide +kernel⟩
noncomputable def ev_1163 : ZEV := ⟨([182, 1, 56], .invokevirtual 312, 3), by decide +kernel⟩
noncomputable def ev_1164 : ZEV := ⟨([182, 1, 59], .invokevirtual 315, 3), by decide +kernel⟩
noncomputable def ev_1165 : ZEV := ⟨([153, 0, 17], .ifCond .eq 17, 3), by decide +kernel⟩
noncomputable def ev_1166 : ZEV := ⟨([155, 0, 13], .ifCond .lt 13, 3), by decide +kernel⟩
noncomputable def ev_1167 : ZEV := ⟨([182, 1, 62], .invokevirtual 318, 3), by decide +kernel⟩
noncomputable def ev_1168 : ZEV := ⟨([153, 0, 26], .ifCond .eq 26, 3), by decide +kernel⟩
noncomputable def ev_1169 : ZEV := ⟨([155, 0, 22], .ifCond .lt 22, 3), by decide +kernel⟩
noncomputable def ev_1170 : ZEV := ⟨([182, 1, 65], .invokevirtual 321, 3), by decide +kernel⟩
noncomputable def ev_1171 : ZEV := ⟨([182, 1, 68], .invokevirtual 324, 3), by decide +kernel⟩
noncomputable def ev_1172 : ZEV := ⟨([182, 1, 71], .invokevirtual 327, 3), by decide +kernel⟩
noncomputable def ev_1173 : ZEV := ⟨([182, 1, 74], .invokevirtual 330, 3), by decide +kernel⟩
noncomputable def ev_1174 : ZEV := ⟨([182, 1, 78], .invokevirtual 334, 3), by decide +kernel⟩
noncomputable def ev_1175 : ZEV := ⟨([167, 0, 14], .goto 14, 3), by decide +kernel⟩
noncomputable def ev_1176 : ZEV := ⟨([182, 1, 81], .invokevirtual 337, 3), by decide +kernel⟩
noncomputable def ev_1177 : ZEV := ⟨([182, 1, 84], .invokevirtual 340, 3), by decide +kernel⟩
noncomputable def ev_1178 : ZEV := ⟨([182, 1, 88], .invokevirtual 344, 3), by decide +kernel⟩
noncomputable def ev_1179 : ZEV := ⟨([180, 0, 86], .getfield 86, 3), by decide +kernel⟩
noncomputable def ev_1180 : ZEV := ⟨([182, 1, 91], .invokevirtual 347, 3), by decide +kernel⟩
noncomputable def ev_1181 : ZEV := ⟨([155, 0, 34], .ifCond .lt 34, 3), by decide +kernel⟩
noncomputable def ev_1182 : ZEV := ⟨([17, 0, 200], .sipush 200, 3), by decide +kernel⟩
noncomputable def ev_1183 : ZEV := ⟨([163, 0, 27], .if_icmp .gt 27, 3), by decide +kernel⟩
noncomputable def ev_1184 : ZEV := ⟨([161, 0, 22], .if_icmp .lt 22, 3), by decide +kernel⟩
noncomputable def ev_1185 : ZEV := ⟨([16, 90], .bipush 90, 2), by decide +kernel⟩
noncomputable def ev_1186 : ZEV := ⟨([182, 1, 92], .invokevirtual 348, 3), by decide +kernel⟩
noncomputable def ev_1187 : ZEV := ⟨([182, 1, 95], .invokevirtual 351, 3), by decide +kernel⟩
noncomputable def ev_1188 : ZEV := ⟨([180, 1, 99], .getfield 355, 3), by decide +kernel⟩
noncomputable def ev_1189 : ZEV := ⟨([180, 1, 100], .getfield 356, 3), by decide +kernel⟩
noncomputable def ev_1190 : ZEV := ⟨([180, 1, 104], .getfield 360, 3), by decide +kernel⟩
noncomputable def ev_1191 : ZEV := ⟨([180, 1, 107], .getfield 363, 3), by decide +kernel⟩
noncomputable def ev_1192 : ZEV := ⟨([180, 1, 110], .getfield 366, 3), by decide +kernel⟩
noncomputable def ev_1193 : ZEV := ⟨([19, 1, 119], .ldc_w 375, 3), by decide +kernel⟩
noncomputable def ev_1194 : ZEV := ⟨([19, 1, 120], .ldc_w 376, 3), by decide +kernel⟩
noncomputable def ev_1195 : ZEV := ⟨([184, 1, 121], .invokestatic 377, 3), by decide +kernel⟩
noncomputable def ev_1196 : ZEV := ⟨([184, 1, 124], .invokestatic 380, 3), by decide +kernel⟩
noncomputable def ev_1197 : ZEV := ⟨([184, 1, 127], .invokestatic 383, 3), by decide +kernel⟩
noncomputable def ev_1198 : ZEV := ⟨([162, 0, 50], .if_icmp .ge 50, 3), by decide +kernel⟩
noncomputable def ev_1199 : ZEV := ⟨([153, 0, 45], .ifCond .eq 45, 3), by decide +kernel⟩
noncomputable def ev_1200 : ZEV := ⟨([181, 0, 7], .putfield 7, 3), by decide +kernel⟩
noncomputable def ev_1201 : ZEV := ⟨([16, 96], .bipush 96, 2), by decide +kernel⟩
noncomputable def ev_1202 : ZEV := ⟨([181, 0, 13], .putfield 13, 3), by decide +kernel⟩
noncomputable def ev_1203 : ZEV := ⟨([17, 1, 224], .sipush 480, 3), by decide +kernel⟩
noncomputable def ev_1204 : ZEV := ⟨([188, 4], .newarray .boolean, 2), by decide +kernel⟩
noncomputable def ev_1205 : ZEV := ⟨([181, 0, 16], .putfield 16, 3), by decide +kernel⟩
noncomputable def ev_1206 : ZEV := ⟨([181, 0, 20], .putfield 20, 3), by decide +kernel⟩
noncomputable def ev_1207 : ZEV := ⟨([181, 0, 53], .putfield 53, 3), by decide +kernel⟩
noncomputable def ev_1208 : ZEV := ⟨([181, 0, 56], .putfield 56, 3), by decide +kernel⟩
noncomputable def ev_1209 : ZEV := ⟨([181, 0, 60], .putfield 60, 3), by decide +kernel⟩
noncomputable def ev_1210 : ZEV := ⟨([17, 31, 64], .sipush 8000, 3), by decide +kernel⟩
noncomputable def ev_1211 : ZEV := ⟨([181, 0, 63], .putfield 63, 3), by decide +kernel⟩
noncomputable def ev_1212 : ZEV := ⟨([17, 1, 244], .sipush 500, 3), by decide +kernel⟩
noncomputable def ev_1213 : ZEV := ⟨([181, 0, 66], .putfield 66, 3), by decide +kernel⟩
noncomputable def ev_1214 : ZEV := ⟨([17, 9, 196], .sipush 2500, 3), by decide +kernel⟩
noncomputable def ev_1215 : ZEV := ⟨([181, 0, 75], .putfield 75, 3), by decide +kernel⟩
noncomputable def ev_1216 : ZEV := ⟨([181, 0, 82], .putfield 82, 3), by decide +kernel⟩
noncomputable def ev_1217 : ZEV := ⟨([181, 0, 85], .putfield 85, 3), by decide +kernel⟩
noncomputable def ev_1218 : ZEV := ⟨([17, 39, 21], .sipush 10005, 3), by decide +kernel⟩
noncomputable def ev_1219 : ZEV := ⟨([181, 0, 88], .putfield 88, 3), by decide +kernel⟩
noncomputable def ev_1220 : ZEV := ⟨([181, 0, 91], .putfield 91, 3), by decide +kernel⟩
noncomputable def ev_1221 : ZEV := ⟨([181, 0, 94], .putfield 94, 3), by decide +kernel⟩
noncomputable def ev_1222 : ZEV := ⟨([181, 0, 97], .putfield 97, 3), by decide +kernel⟩
noncomputable def ev_1223 : ZEV := ⟨([181, 0, 100], .putfield 100, 3), by decide +kernel⟩
noncomputable def ev_1224 : ZEV := ⟨([181, 0, 103], .putfield 103, 3), by decide +kernel⟩
noncomputable def ev_1225 : ZEV := ⟨([181, 0, 106], .putfield 106, 3), by decide +kernel⟩
noncomputable def ev_1226 : ZEV := ⟨([181, 0, 109], .putfield 109, 3), by decide +kernel⟩
noncomputable def ev_1227 : ZEV := ⟨([181, 0, 112], .putfield 112, 3), by decide +kernel⟩
noncomputable def ev_1228 : ZEV := ⟨([181, 0, 115], .putfield 115, 3), by decide +kernel⟩
noncomputable def ev_1229 : ZEV := ⟨([181, 0, 118], .putfield 118, 3), by decide +kernel⟩
noncomputable def ev_1230 : ZEV := ⟨([181, 0, 121], .putfield 121, 3), by decide +kernel⟩
noncomputable def ev_1231 : ZEV := ⟨([181, 0, 124], .putfield 124, 3), by decide +kernel⟩
noncomputable def ev_1232 : ZEV := ⟨([181, 0, 127], .putfield 127, 3), by decide +kernel⟩
noncomputable def ev_1233 : ZEV := ⟨([16, 34], .bipush 34, 2), by decide +kernel⟩
noncomputable def ev_1234 : ZEV := ⟨([181, 0, 130], .putfield 130, 3), by decide +kernel⟩
noncomputable def ev_1235 : ZEV := ⟨([181, 0, 133], .putfield 133, 3), by decide +kernel⟩
noncomputable def ev_1236 : ZEV := ⟨([181, 0, 139], .putfield 139, 3), by decide +kernel⟩
noncomputable def ev_1237 : ZEV := ⟨([181, 0, 142], .putfield 142, 3), by decide +kernel⟩
noncomputable def ev_1238 : ZEV := ⟨([181, 0, 145], .putfield 145, 3), by decide +kernel⟩
noncomputable def ev_1239 : ZEV := ⟨([181, 0, 148], .putfield 148, 3), by decide +kernel⟩
noncomputable def ev_1240 : ZEV := ⟨([181, 0, 151], .putfield 151, 3), by decide +kernel⟩
noncomputable def ev_1241 : ZEV := ⟨([181, 0, 154], .putfield 154, 3), by decide +kernel⟩
noncomputable def ev_1242 : ZEV := ⟨([181, 0, 157], .putfield 157, 3), by decide +kernel⟩
noncomputable def ev_1243 : ZEV := ⟨([181, 0, 160], .putfield 160, 3), by decide +kernel⟩
noncomputable def ev_1244 : ZEV := ⟨([181, 0, 163], .putfield 163, 3), by decide +kernel⟩
noncomputable def ev_1245 : ZEV := ⟨([181, 0, 166], .putfield 166, 3), by decide +kernel⟩
noncomputable def ev_1246 : ZEV := ⟨([181, 0, 169], .putfield 169, 3), by decide +kernel⟩
noncomputable def ev_1247 : ZEV := ⟨([181, 0, 172], .putfield 172, 3), by decide +kernel⟩
noncomputable def ev_1248 : ZEV := ⟨([181, 0, 175], .putfield 175, 3), by decide +kernel⟩
noncomputable def ev_1249 : ZEV := ⟨([181, 0, 178], .putfield 178, 3), by decide +kernel⟩
noncomputable def ev_1250 : ZEV := ⟨([181, 0, 181], .putfield 181, 3), by decide +kernel⟩
noncomputable def ev_1251 : ZEV := ⟨([181, 0, 184], .putfield 184, 3), by decide +kernel⟩
noncomputable def ev_1252 : ZEV := ⟨([181, 0, 187], .putfield 187, 3), by decide +kernel⟩
noncomputable def ev_1253 : ZEV := ⟨([181, 0, 190], .putfield 190, 3), by decide +kernel⟩
noncomputable def ev_1254 : ZEV := ⟨([181, 0, 193], .putfield 193, 3), by decide +kernel⟩
noncomputable def ev_1255 : ZEV := ⟨([181, 0, 196], .putfield 196, 3), by decide +kernel⟩
noncomputable def ev_1256 : ZEV := ⟨([181, 0, 199], .putfield 199, 3), by decide +kernel⟩
noncomputable def ev_1257 : ZEV := ⟨([181, 0, 202], .putfield 202, 3), by decide +kernel⟩
noncomputable def ev_1258 : ZEV := ⟨([181, 0, 205], .putfield 205, 3), by decide +kernel⟩
noncomputable def ev_1259 : ZEV := ⟨([181, 0, 208], .putfield 208, 3), by decide +kernel⟩
noncomputable def ev_1260 : ZEV := ⟨([181, 0, 212], .putfield 212, 3), by decide +kernel⟩
noncomputable def ev_1261 : ZEV := ⟨([181, 0, 215], .putfield 215, 3), by decide +kernel⟩
noncomputable def ev_1262 : ZEV := ⟨([16, 12], .bipush 12, 2), by decide +kernel⟩
noncomputable def ev_1263 : ZEV := ⟨([181, 0, 218], .putfield 218, 3), by decide +kernel⟩
noncomputable def ev_1264 : ZEV := ⟨([181, 0, 221], .putfield 221, 3), by decide +kernel⟩
noncomputable def ev_1265 : ZEV := ⟨([181, 0, 224], .putfield 224, 3), by decide +kernel⟩
noncomputable def ev_1266 : ZEV := ⟨([181, 0, 227], .putfield 227, 3), by decide +kernel⟩
noncomputable def ev_1267 : ZEV := ⟨([181, 0, 230], .putfield 230, 3), by decide +kernel⟩
noncomputable def ev_1268 : ZEV := ⟨([181, 0, 233], .putfield 233, 3), by decide +kernel⟩
noncomputable def ev_1269 : ZEV := ⟨([181, 0, 236], .putfield 236, 3), by decide +kernel⟩
noncomputable def ev_1270 : ZEV := ⟨([181, 0, 239], .putfield 239, 3), by decide +kernel⟩
noncomputable def ev_1271 : ZEV := ⟨([17, 1, 144], .sipush 400, 3), by decide +kernel⟩
noncomputable def ev_1272 : ZEV := ⟨([181, 0, 242], .putfield 242, 3), by decide +kernel⟩
noncomputable def ev_1273 : ZEV := ⟨([181, 0, 245], .putfield 245, 3), by decide +kernel⟩
noncomputable def ev_1274 : ZEV := ⟨([181, 0, 248], .putfield 248, 3), by decide +kernel⟩
noncomputable def ev_1275 : ZEV := ⟨([181, 0, 251], .putfield 251, 3), by decide +kernel⟩
noncomputable def ev_1276 : ZEV := ⟨([181, 0, 254], .putfield 254, 3), by decide +kernel⟩
noncomputable def ev_1277 : ZEV := ⟨([181, 1, 1], .putfield 257, 3), by decide +kernel⟩
noncomputable def ev_1278 : ZEV := ⟨([181, 1, 4], .putfield 260, 3), by decide +kernel⟩
noncomputable def ev_1279 : ZEV := ⟨([181, 1, 7], .putfield 263, 3), by decide +kernel⟩
noncomputable def ev_1280 : ZEV := ⟨([181, 1, 10], .putfield 266, 3), by decide +kernel⟩
noncomputable def ev_1281 : ZEV := ⟨([181, 1, 13], .putfield 269, 3), by decide +kernel⟩
noncomputable def ev_1282 : ZEV := ⟨([181, 1, 16], .putfield 272, 3), by decide +kernel⟩
noncomputable def ev_1283 : ZEV := ⟨([181, 1, 22], .putfield 278, 3), by decide +kernel⟩
noncomputable def ev_1284 : ZEV := ⟨([180, 1, 22], .getfield 278, 3), by decide +kernel⟩
noncomputable def ev_1285 : ZEV := ⟨([182, 1, 25], .invokevirtual 281, 3), by decide +kernel⟩
noncomputable def ev_1286 : ZEV := ⟨([180, 1, 29], .getfield 285, 3), by decide +kernel⟩
noncomputable def ev_1287 : ZEV := ⟨([155, 0, 28], .ifCond .lt 28, 3), by decide +kernel⟩
noncomputable def ev_1288 : ZEV := ⟨([180, 0, 16], .getfield 16, 3), by decide +kernel⟩
noncomputable def ev_1289 : ZEV := ⟨([180, 1, 32], .getfield 288, 3), by decide +kernel⟩
noncomputable def ev_1290 : ZEV := ⟨([51], .baload, 1), by decide +kernel⟩
noncomputable def ev_1291 : ZEV := ⟨([180, 1, 35], .getfield 291, 3), by decide +kernel⟩
noncomputable def ev_1292 : ZEV := ⟨([180, 0, 53], .getfield 53, 3), by decide +kernel⟩
noncomputable def ev_1293 : ZEV := ⟨([182, 1, 38], .invokevirtual 294, 3), by decide +kernel⟩
noncomputable def ev_1294 : ZEV := ⟨([181, 1, 35], .putfield 291, 3), by decide +kernel⟩
noncomputable def ev_1295 : ZEV := ⟨([182, 1, 42], .invokevirtual 298, 3), by decide +kernel⟩
noncomputable def ev_1296 : ZEV := ⟨([180, 0, 13], .getfield 13, 3), by decide +kernel⟩
noncomputable def ev_1297 : ZEV := ⟨([180, 0, 7], .getfield 7, 3), by decide +kernel⟩
noncomputable def ev_1298 : ZEV := ⟨([167, 0, 169], .goto 169, 3), by decide +kernel⟩
noncomputable def ev_1299 : ZEV := ⟨([84], .bastore, 1), by decide +kernel⟩
noncomputable def ev_1300 : ZEV := ⟨([180, 0, 20], .getfield 20, 3), by decide +kernel⟩
noncomputable def ev_1301 : ZEV := ⟨([167, 0, 99], .goto 99, 3), by decide +kernel⟩
noncomputable def ev_1302 : ZEV := ⟨([167, 0, 89], .goto 89, 3), by decide +kernel⟩
noncomputable def ev_1303 : ZEV := ⟨([154, 0, 18], .ifCond .ne 18, 3), by decide +kernel⟩
noncomputable def ev_1304 : ZEV := ⟨([167, 0, 65], .goto 65, 3), by decide +kernel⟩
noncomputable def ev_1305 : ZEV := ⟨([167, 0, 40], .goto 40, 3), by decide +kernel⟩
noncomputable def ev_1306 : ZEV := ⟨([167, 0, 25], .goto 25, 3), by decide +kernel⟩
noncomputable def ev_1307 : ZEV := ⟨([180, 0, 56], .getfield 56, 3), by decide +kernel⟩
noncomputable def ev_1308 : ZEV := ⟨([181, 1, 45], .putfield 301, 3), by decide +kernel⟩
noncomputable def ev_1309 : ZEV := ⟨([181, 1, 32], .putfield 288, 3), by decide +kernel⟩
noncomputable def ev_1310 : ZEV := ⟨([181, 1, 29], .putfield 285, 3), by decide +kernel⟩
noncomputable def ev_1311 : ZEV := ⟨([155, 0, 17], .ifCond .lt 17, 3), by decide +kernel⟩
noncomputable def ev_1312 : ZEV := ⟨([20, 1, 48], .ldc2_w 304, 3), by decide +kernel⟩
noncomputable def ev_1313 : ZEV := ⟨([20, 1, 50], .ldc2_w 306, 3), by decide +kernel⟩
noncomputable def ev_1314 : ZEV := ⟨([184, 1, 52], .invokestatic 308, 3), by decide +kernel⟩
noncomputable def ev_1315 : ZEV := ⟨([20, 1, 56], .ldc2_w 312, 3), by decide +kernel⟩
noncomputable def ev_1316 : ZEV := ⟨([182, 1, 58], .invokevirtual 314, 3), by decide +kernel⟩
noncomputable def ev_1317 : ZEV := ⟨([153, 0, 48], .ifCond .eq 48, 3), by decide +kernel⟩
noncomputable def ev_1318 : ZEV := ⟨([184, 1, 66], .invokestatic 322, 3), by decide +kernel⟩
noncomputable def ev_1319 : ZEV := ⟨([153, 0, 33], .ifCond .eq 33, 3), by decide +kernel⟩
noncomputable def ev_1320 : ZEV := ⟨([182, 1, 69], .invokevirtual 325, 3), by decide +kernel⟩
noncomputable def ev_1321 : ZEV := ⟨([182, 1, 73], .invokevirtual 329, 3), by decide +kernel⟩
noncomputable def ev_1322 : ZEV := ⟨([167, 0, 23], .goto 23, 3), by decide +kernel⟩
noncomputable def ev_1323 : ZEV := ⟨([20, 1, 76], .ldc2_w 332, 3), by decide +kernel⟩
noncomputable def ev_1324 : ZEV := ⟨([155, 0, 55], .ifCond .lt 55, 3), by decide +kernel⟩
noncomputable def ev_1325 : ZEV := ⟨([167, 255, 235], .goto (-21), 3), by decide +kernel⟩
noncomputable def ev_1326 : ZEV := ⟨([156, 0, 10], .ifCond .ge 10, 3), by decide +kernel⟩
noncomputable def ev_1327 : ZEV := ⟨([153, 0, 32], .ifCond .eq 32, 3), by decide +kernel⟩
noncomputable def ev_1328 : ZEV := ⟨([20, 1, 82], .ldc2_w 338, 3), by decide +kernel⟩
noncomputable def ev_1329 : ZEV := ⟨([20, 1, 87], .ldc2_w 343, 3), by decide +kernel⟩
noncomputable def ev_1330 : ZEV := ⟨([20, 1, 89], .ldc2_w 345, 3), by decide +kernel⟩
noncomputable def ev_1331 : ZEV := ⟨([20, 1, 91], .ldc2_w 347, 3), by decide +kernel⟩
noncomputable def ev_1332 : ZEV := ⟨([167, 0, 55], .goto 55, 3), by decide +kernel⟩
noncomputable def ev_1333 : ZEV := ⟨([182, 1, 93], .invokevirtual 349, 3), by decide +kernel⟩
noncomputable def ev_1334 : ZEV := ⟨([162, 0, 71], .if_icmp .ge 71, 3), by decide +kernel⟩
noncomputable def ev_1335 : ZEV := ⟨([153, 0, 50], .ifCond .eq 50, 3), by decide +kernel⟩
noncomputable def ev_1336 : ZEV := ⟨([167, 255, 183], .goto (-73), 3), by decide +kernel⟩
noncomputable def ev_1337 : ZEV := ⟨([20, 1, 96], .ldc2_w 352, 3), by decide +kernel⟩
noncomputable def ev_1338 : ZEV := ⟨([20, 1, 98], .ldc2_w 354, 3), by decide +kernel⟩
noncomputable def ev_1339 : ZEV := ⟨([181, 1, 100], .putfield 356, 3), by decide +kernel⟩
noncomputable def ev_1340 : ZEV := ⟨([180, 1, 103], .getfield 359, 3), by decide +kernel⟩
noncomputable def ev_1341 : ZEV := ⟨([167, 0, 18], .goto 18, 3), by decide +kernel⟩
noncomputable def ev_1342 : ZEV := ⟨([180, 1, 106], .getfield 362, 3), by decide +kernel⟩
noncomputable def ev_1343 : ZEV := ⟨([181, 1, 103], .putfield 359, 3), by decide +kernel⟩
noncomputable def ev_1344 : ZEV := ⟨([181, 1, 106], .putfield 362, 3), by decide +kernel⟩
noncomputable def ev_1345 : ZEV := ⟨([180, 1, 109], .getfield 365, 3), by decide +kernel⟩
noncomputable def ev_1346 : ZEV := ⟨([181, 1, 109], .putfield 365, 3), by decide +kernel⟩
noncomputable def ev_1347 : ZEV := ⟨([181, 1, 112], .putfield 368, 3), by decide +kernel⟩
noncomputable def ev_1348 : ZEV := ⟨([181, 1, 115], .putfield 371, 3), by decide +kernel⟩
noncomputable def ev_1349 : ZEV := ⟨([181, 1, 118], .putfield 374, 3), by decide +kernel⟩
noncomputable def ev_1350 : ZEV := ⟨([160, 0, 37], .if_icmp .ne 37, 3), by decide +kernel⟩
noncomputable def ev_1351 : ZEV := ⟨([153, 0, 53], .ifCond .eq 53, 3), by decide +kernel⟩
noncomputable def ev_1352 : ZEV := ⟨([182, 1, 124], .invokevirtual 380, 3), by decide +kernel⟩
noncomputable def ev_1353 : ZEV := ⟨([180, 1, 128], .getfield 384, 3), by decide +kernel⟩
noncomputable def ev_1354 : ZEV := ⟨([181, 1, 128], .putfield 384, 3), by decide +kernel⟩
noncomputable def ev_1355 : ZEV := ⟨([184, 1, 132], .invokestatic 388, 3), by decide +kernel⟩
noncomputable def ev_1356 : ZEV := ⟨([180, 1, 115], .getfield 371, 3), by decide +kernel⟩
noncomputable def ev_1357 : ZEV := ⟨([159, 0, 12], .if_icmp .eq 12, 3), by decide +kernel⟩
noncomputable def ev_1358 : ZEV := ⟨([180, 1, 112], .getfield 368, 3), by decide +kernel⟩
noncomputable def ev_1359 : ZEV := ⟨([182, 1, 135], .invokevirtual 391, 3), by decide +kernel⟩
noncomputable def ev_1360 : ZEV := ⟨([153, 0, 60], .ifCond .eq 60, 3), by decide +kernel⟩
noncomputable def ev_1361 : ZEV := ⟨([20, 1, 138], .ldc2_w 394, 3), by decide +kernel⟩
noncomputable def ev_1362 : ZEV := ⟨([20, 1, 140], .ldc2_w 396, 3), by decide +kernel⟩
noncomputable def ev_1363 : ZEV := ⟨([164, 0, 22], .if_icmp .le 22, 3), by decide +kernel⟩
noncomputable def ev_1364 : ZEV := ⟨([181, 1, 142], .putfield 398, 3), by decide +kernel⟩
noncomputable def ev_1365 : ZEV := ⟨([182, 1, 145], .invokevirtual 401, 3), by decide +kernel⟩
noncomputable def ev_1366 : ZEV := ⟨([182, 1, 148], .invokevirtual 404, 3), by decide +kernel⟩
noncomputable def ev_1367 : ZEV := ⟨([154, 0, 21], .ifCond .ne 21, 3), by decide +kernel⟩
noncomputable def ev_1368 : ZEV := ⟨([182, 1, 151], .invokevirtual 407, 3), by decide +kernel⟩
noncomputable def ev_1369 : ZEV := ⟨([154, 255, 234], .ifCond .ne (-22), 3), by decide +kernel⟩
noncomputable def ev_1370 : ZEV := ⟨([158, 0, 6], .ifCond .le 6, 3), by decide +kernel⟩
noncomputable def ev_1371 : ZEV := ⟨([180, 1, 142], .getfield 398, 3), by decide +kernel⟩
noncomputable def ev_1372 : ZEV := ⟨([162, 0, 165], .if_icmp .ge 165, 3), by decide +kernel⟩
noncomputable def ev_1373 : ZEV := ⟨([167, 0, 96], .goto 96, 3), by decide +kernel⟩
noncomputable def ev_1374 : ZEV := ⟨([167, 0, 45], .goto 45, 3), by decide +kernel⟩
noncomputable def ev_1375 : ZEV := ⟨([167, 0, 26], .goto 26, 3), by decide +kernel⟩
noncomputable def ev_1376 : ZEV := ⟨([167, 255, 89], .goto (-167), 3), by decide +kernel⟩
noncomputable def ev_1377 : ZEV := ⟨([17, 1, 64], .sipush 320, 3), by decide +kernel⟩
noncomputable def ev_1378 : ZEV := ⟨([180, 1, 118], .getfield 374, 3), by decide +kernel⟩
noncomputable def ev_1379 : ZEV := ⟨([159, 0, 25], .if_icmp .eq 25, 3), by decide +kernel⟩
noncomputable def ev_1380 : ZEV := ⟨([16, 116], .bipush 116, 2), by decide +kernel⟩
noncomputable def ev_1381 : ZEV := ⟨([16, 119], .bipush 119, 2), by decide +kernel⟩
noncomputable def ev_1382 : ZEV := ⟨([159, 0, 13], .if_icmp .eq 13, 3), by decide +kernel⟩
noncomputable def ev_1383 : ZEV := ⟨([153, 0, 127], .ifCond .eq 127, 3), by decide +kernel⟩
noncomputable def ev_1384 : ZEV := ⟨([154, 0, 120], .ifCond .ne 120, 3), by decide +kernel⟩
noncomputable def ev_1385 : ZEV := ⟨([182, 1, 154], .invokevirtual 410, 3), by decide +kernel⟩
noncomputable def ev_1386 : ZEV := ⟨([154, 0, 36], .ifCond .ne 36, 3), by decide +kernel⟩
noncomputable def ev_1387 : ZEV := ⟨([160, 0, 21], .if_icmp .ne 21, 3), by decide +kernel⟩
noncomputable def ev_1388 : ZEV := ⟨([154, 0, 45], .ifCond .ne 45, 3), by decide +kernel⟩
noncomputable def ev_1389 : ZEV := ⟨([167, 255, 130], .goto (-126), 3), by decide +kernel⟩
noncomputable def ev_1390 : ZEV := ⟨([154, 0, 58], .ifCond .ne 58, 3), by decide +kernel⟩
noncomputable def ev_1391 : ZEV := ⟨([182, 1, 158], .invokevirtual 414, 3), by decide +kernel⟩
noncomputable def ev_1392 : ZEV := ⟨([161, 0, 9], .if_icmp .lt 9, 3), by decide +kernel⟩
noncomputable def ev_1393 : ZEV := ⟨([162, 0, 77], .if_icmp .ge 77, 3), by decide +kernel⟩
noncomputable def ev_1394 : ZEV := ⟨([153, 0, 36], .ifCond .eq 36, 3), by decide +kernel⟩
noncomputable def ev_1395 : ZEV := ⟨([180, 1, 162], .getfield 418, 3), by decide +kernel⟩
noncomputable def ev_1396 : ZEV := ⟨([181, 1, 162], .putfield 418, 3), by decide +kernel⟩
noncomputable def ev_1397 : ZEV := ⟨([182, 1, 165], .invokevirtual 421, 3), by decide +kernel⟩
noncomputable def ev_1398 : ZEV := ⟨([156, 0, 8], .ifCond .ge 8, 3), by decide +kernel⟩
noncomputable def ev_1399 : ZEV := ⟨([161, 0, 11], .if_icmp .lt 11, 3), by decide +kernel⟩
noncomputable def ev_1400 : ZEV := ⟨([158, 0, 24], .ifCond .le 24, 3), by decide +kernel⟩
noncomputable def ev_1401 : ZEV := ⟨([162, 0, 48], .if_icmp .ge 48, 3), by decide +kernel⟩
noncomputable def ev_1402 : ZEV := ⟨([167, 255, 206], .goto (-50), 3), by decide +kernel⟩
noncomputable def ev_1403 : ZEV := ⟨([162, 0, 89], .if_icmp .ge 89, 3), by decide +kernel⟩
noncomputable def ev_1404 : ZEV := ⟨([153, 0, 74], .ifCond .eq 74, 3), by decide +kernel⟩
noncomputable def ev_1405 : ZEV := ⟨([182, 1, 168], .invokevirtual 424, 3), by decide +kernel⟩
noncomputable def ev_1406 : ZEV := ⟨([153, 0, 57], .ifCond .eq 57, 3), by decide +kernel⟩
noncomputable def ev_1407 : ZEV := ⟨([159, 0, 51], .if_icmp .eq 51, 3), by decide +kernel⟩
noncomputable def ev_1408 : ZEV := ⟨([159, 0, 45], .if_icmp .eq 45, 3), by decide +kernel⟩
noncomputable def ev_1409 : ZEV := ⟨([159, 0, 39], .if_icmp .eq 39, 3), by decide +kernel⟩
noncomputable def ev_1410 : ZEV := ⟨([167, 255, 148], .goto (-108), 3), by decide +kernel⟩
noncomputable def ev_1411 : ZEV := ⟨([167, 255, 189], .goto (-67), 3), by decide +kernel⟩
noncomputable def ev_1412 : ZEV := ⟨([163, 0, 184], .if_icmp .gt 184, 3), by decide +kernel⟩
noncomputable def ev_1413 : ZEV := ⟨([153, 0, 180], .ifCond .eq 180, 3), by decide +kernel⟩
noncomputable def ev_1414 : ZEV := ⟨([162, 0, 153], .if_icmp .ge 153, 3), by decide +kernel⟩
noncomputable def ev_1415 : ZEV := ⟨([153, 0, 137], .ifCond .eq 137, 3), by decide +kernel⟩
noncomputable def ev_1416 : ZEV := ⟨([184, 1, 171], .invokestatic 427, 3), by decide +kernel⟩
noncomputable def ev_1417 : ZEV := ⟨([153, 0, 123], .ifCond .eq 123, 3), by decide +kernel⟩
noncomputable def ev_1418 : ZEV := ⟨([153, 0, 109], .ifCond .eq 109, 3), by decide +kernel⟩
noncomputable def ev_1419 : ZEV := ⟨([156, 0, 90], .ifCond .ge 90, 3), by decide +kernel⟩
noncomputable def ev_1420 : ZEV := ⟨([156, 0, 33], .ifCond .ge 33, 3), by decide +kernel⟩
noncomputable def ev_1421 : ZEV := ⟨([167, 255, 96], .goto (-160), 3), by decide +kernel⟩
noncomputable def ev_1422 : ZEV := ⟨([167, 255, 69], .goto (-187), 3), by decide +kernel⟩
noncomputable def ev_1423 : ZEV := ⟨([182, 1, 174], .invokevirtual 430, 3), by decide +kernel⟩
noncomputable def ev_1424 : ZEV := ⟨([162, 0, 190], .if_icmp .ge 190, 3), by decide +kernel⟩
noncomputable def ev_1425 : ZEV := ⟨([153, 0, 149], .ifCond .eq 149, 3), by decide +kernel⟩
noncomputable def ev_1426 : ZEV := ⟨([153, 0, 135], .ifCond .eq 135, 3), by decide +kernel⟩
noncomputable def ev_1427 : ZEV := ⟨([153, 0, 121], .ifCond .eq 121, 3), by decide +kernel⟩
noncomputable def ev_1428 : ZEV := ⟨([156, 0, 102], .ifCond .ge 102, 3), by decide +kernel⟩
noncomputable def ev_1429 : ZEV := ⟨([167, 255, 84], .goto (-172), 3), by decide +kernel⟩
noncomputable def ev_1430 : ZEV := ⟨([167, 255, 64], .goto (-192), 3), by decide +kernel⟩
noncomputable def ev_1431 : ZEV := ⟨([182, 1, 177], .invokevirtual 433, 3), by decide +kernel⟩
noncomputable def ev_1432 : ZEV := ⟨([153, 0, 24], .ifCond .eq 24, 3), by decide +kernel⟩
noncomputable def ev_1433 : ZEV := ⟨([182, 1, 181], .invokevirtual 437, 3), by decide +kernel⟩
noncomputable def ev_1434 : ZEV := ⟨([167, 0, 24], .goto 24, 3), by decide +kernel⟩
noncomputable def ev_1435 : ZEV := ⟨([182, 1, 184], .invokevirtual 440, 3), by decide +kernel⟩
noncomputable def ev_1436 : ZEV := ⟨([20, 1, 187], .ldc2_w 443, 3), by decide +kernel⟩
noncomputable def ev_1437 : ZEV := ⟨([17, 0, 159], .sipush 159, 3), by decide +kernel⟩
noncomputable def ev_1438 : ZEV := ⟨([155, 0, 151], .ifCond .lt 151, 3), by decide +kernel⟩
noncomputable def ev_1439 : ZEV := ⟨([160, 0, 41], .if_icmp .ne 41, 3), by decide +kernel⟩
noncomputable def ev_1440 : ZEV := ⟨([154, 0, 32], .ifCond .ne 32, 3), by decide +kernel⟩
noncomputable def ev_1441 : ZEV := ⟨([132, 8, 255], .iinc 8 (-1), 3), by decide +kernel⟩
noncomputable def ev_1442 : ZEV := ⟨([167, 255, 72], .goto (-184), 3), by decide +kernel⟩
noncomputable def ev_1443 : ZEV := ⟨([19, 1, 189], .ldc_w 445, 3), by decide +kernel⟩
noncomputable def ev_1444 : ZEV := ⟨([162, 0, 151], .if_icmp .ge 151, 3), by decide +kernel⟩
noncomputable def ev_1445 : ZEV := ⟨([162, 0, 126], .if_icmp .ge 126, 3), by decide +kernel⟩
noncomputable def ev_1446 : ZEV := ⟨([155, 0, 95], .ifCond .lt 95, 3), by decide +kernel⟩
noncomputable def ev_1447 : ZEV := ⟨([162, 0, 13], .if_icmp .ge 13, 3), by decide +kernel⟩
noncomputable def ev_1448 : ZEV := ⟨([167, 255, 123], .goto (-133), 3), by decide +kernel⟩
noncomputable def ev_1449 : ZEV := ⟨([167, 255, 103], .goto (-153), 3), by decide +kernel⟩
noncomputable def ev_1450 : ZEV := ⟨([180, 1, 190], .getfield 446, 3), by decide +kernel⟩
noncomputable def ev_1451 : ZEV := ⟨([163, 0, 126], .if_icmp .gt 126, 3), by decide +kernel⟩
noncomputable def ev_1452 : ZEV := ⟨([180, 0, 88], .getfield 88, 3), by decide +kernel⟩
noncomputable def ev_1453 : ZEV := ⟨([132, 9, 1], .iinc 9 1, 3), by decide +kernel⟩
noncomputable def ev_1454 : ZEV := ⟨([181, 1, 190], .putfield 446, 3), by decide +kernel⟩
noncomputable def ev_1455 : ZEV := ⟨([160, 0, 25], .if_icmp .ne 25, 3), by decide +kernel⟩
noncomputable def ev_1456 : ZEV := ⟨([163, 0, 68], .if_icmp .gt 68, 3), by decide +kernel⟩
noncomputable def ev_1457 : ZEV := ⟨([182, 1, 193], .invokevirtual 449, 3), by decide +kernel⟩
noncomputable def ev_1458 : ZEV := ⟨([182, 1, 197], .invokevirtual 453, 3), by decide +kernel⟩
noncomputable def ev_1459 : ZEV := ⟨([182, 1, 201], .invokevirtual 457, 3), by decide +kernel⟩
noncomputable def ev_1460 : ZEV := ⟨([163, 0, 71], .if_icmp .gt 71, 3), by decide +kernel⟩
noncomputable def ev_1461 : ZEV := ⟨([153, 0, 54], .ifCond .eq 54, 3), by decide +kernel⟩
noncomputable def ev_1462 : ZEV := ⟨([167, 0, 20], .goto 20, 3), by decide +kernel⟩
noncomputable def ev_1463 : ZEV := ⟨([182, 1, 205], .invokevirtual 461, 3), by decide +kernel⟩
noncomputable def ev_1464 : ZEV := ⟨([162, 0, 142], .if_icmp .ge 142, 3), by decide +kernel⟩
noncomputable def ev_1465 : ZEV := ⟨([163, 0, 132], .if_icmp .gt 132, 3), by decide +kernel⟩
noncomputable def ev_1466 : ZEV := ⟨([153, 0, 114], .ifCond .eq 114, 3), by decide +kernel⟩
noncomputable def ev_1467 : ZEV := ⟨([167, 0, 80], .goto 80, 3), by decide +kernel⟩
noncomputable def ev_1468 : ZEV := ⟨([162, 0, 69], .if_icmp .ge 69, 3), by decide +kernel⟩
noncomputable def ev_1469 : ZEV := ⟨([167, 255, 185], .goto (-71), 3), by decide +kernel⟩
noncomputable def ev_1470 : ZEV := ⟨([167, 255, 112], .goto (-144), 3), by decide +kernel⟩
noncomputable def ev_1471 : ZEV := ⟨([159, 0, 28], .if_icmp .eq 28, 3), by decide +kernel⟩
noncomputable def ev_1472 : ZEV := ⟨([163, 0, 61], .if_icmp .gt 61, 3), by decide +kernel⟩
noncomputable def ev_1473 : ZEV := ⟨([159, 0, 32], .if_icmp .eq 32, 3), by decide +kernel⟩
noncomputable def ev_1474 : ZEV := ⟨([167, 255, 238], .goto (-18), 3), by decide +kernel⟩
noncomputable def ev_1475 : ZEV := ⟨([162, 0, 226], .if_icmp .ge 226, 3), by decide +kernel⟩
noncomputable def ev_1476 : ZEV := ⟨([162, 0, 181], .if_icmp .ge 181, 3), by decide +kernel⟩
noncomputable def ev_1477 : ZEV := ⟨([162, 0, 11], .if_icmp .ge 11, 3), by decide +kernel⟩
noncomputable def ev_1478 : ZEV := ⟨([162, 0, 109], .if_icmp .ge 109, 3), by decide +kernel⟩
noncomputable def ev_1479 : ZEV := ⟨([159, 0, 24], .if_icmp .eq 24, 3), by decide +kernel⟩
noncomputable def ev_1480 : ZEV := ⟨([182, 1, 208], .invokevirtual 464, 3), by decide +kernel⟩
noncomputable def ev_1481 : ZEV := ⟨([167, 255, 146], .goto (-110), 3), by decide +kernel⟩
noncomputable def ev_1482 : ZEV := ⟨([167, 255, 73], .goto (-183), 3), by decide +kernel⟩
noncomputable def ev_1483 : ZEV := ⟨([167, 255, 28], .goto (-228), 3), by decide +kernel⟩
noncomputable def ev_1484 : ZEV := ⟨([182, 1, 211], .invokevirtual 467, 3), by decide +kernel⟩
noncomputable def ev_1485 : ZEV := ⟨([182, 1, 214], .invokevirtual 470, 3), by decide +kernel⟩
noncomputable def ev_1486 : ZEV := ⟨([162, 0, 18], .if_icmp .ge 18, 3), by decide +kernel⟩
noncomputable def ev_1487 : ZEV := ⟨([167, 255, 245], .goto (-11), 3), by decide +kernel⟩
noncomputable def ev_1488 : ZEV := ⟨([184, 1, 217], .invokestatic 473, 3), by decide +kernel⟩
noncomputable def ev_1489 : ZEV := ⟨([167, 255, 215], .goto (-41), 3), by decide +kernel⟩
noncomputable def ev_1490 : ZEV := ⟨([182, 1, 220], .invokevirtual 476, 3), by decide +kernel⟩
noncomputable def ev_1491 : ZEV := ⟨([182, 1, 223], .invokevirtual 479, 3), by decide +kernel⟩
noncomputable def ev_1492 : ZEV := ⟨([162, 0, 158], .if_icmp .ge 158, 3), by decide +kernel⟩
noncomputable def ev_1493 : ZEV := ⟨([155, 0, 110], .ifCond .lt 110, 3), by decide +kernel⟩
noncomputable def ev_1494 : ZEV := ⟨([153, 0, 52], .ifCond .eq 52, 3), by decide +kernel⟩
noncomputable def ev_1495 : ZEV := ⟨([160, 0, 17], .if_icmp .ne 17, 3), by decide +kernel⟩
noncomputable def ev_1496 : ZEV := ⟨([167, 255, 192], .goto (-64), 3), by decide +kernel⟩
noncomputable def ev_1497 : ZEV := ⟨([132, 6, 255], .iinc 6 (-1), 3), by decide +kernel⟩
noncomputable def ev_1498 : ZEV := ⟨([167, 255, 95], .goto (-161), 3), by decide +kernel⟩
noncomputable def ev_1499 : ZEV := ⟨([162, 0, 84], .if_icmp .ge 84, 3), by decide +kernel⟩
noncomputable def ev_1500 : ZEV := ⟨([153, 0, 69], .ifCond .eq 69, 3), by decide +kernel⟩
noncomputable def ev_1501 : ZEV := ⟨([167, 255, 170], .goto (-86), 3), by decide +kernel⟩
noncomputable def ev_1502 : ZEV := ⟨([153, 0, 76], .ifCond .eq 76, 3), by decide +kernel⟩
noncomputable def ev_1503 : ZEV := ⟨([182, 1, 226], .invokevirtual 482, 3), by decide +kernel⟩
noncomputable def ev_1504 : ZEV := ⟨([180, 0, 100], .getfield 100, 3), by decide +kernel⟩
noncomputable def ev_1505 : ZEV := ⟨([153, 0, 67], .ifCond .eq 67, 3), by decide +kernel⟩
noncomputable def ev_1506 : ZEV := ⟨([167, 255, 174], .goto (-82), 3), by decide +kernel⟩
noncomputable def ev_1507 : ZEV := ⟨([167, 255, 239], .goto (-17), 3), by decide +kernel⟩
noncomputable def ev_1508 : ZEV := ⟨([182, 1, 229], .invokevirtual 485, 3), by decide +kernel⟩
noncomputable def ev_1509 : ZEV := ⟨([180, 0, 106], .getfield 106, 3), by decide +kernel⟩
noncomputable def ev_1510 : ZEV := ⟨([180, 0, 103], .getfield 103, 3), by decide +kernel⟩
noncomputable def ev_1511 : ZEV := ⟨([155, 0, 120], .ifCond .lt 120, 3), by decide +kernel⟩
noncomputable def ev_1512 : ZEV := ⟨([164, 0, 12], .if_icmp .le 12, 3), by decide +kernel⟩
noncomputable def ev_1513 : ZEV := ⟨([184, 1, 232], .invokestatic 488, 3), by decide +kernel⟩
noncomputable def ev_1514 : ZEV := ⟨([163, 0, 9], .if_icmp .gt 9, 3), by decide +kernel⟩
noncomputable def ev_1515 : ZEV := ⟨([182, 1, 235], .invokevirtual 491, 3), by decide +kernel⟩
noncomputable def ev_1516 : ZEV := ⟨([180, 0, 112], .getfield 112, 3), by decide +kernel⟩
noncomputable def ev_1517 : ZEV := ⟨([180, 1, 239], .getfield 495, 3), by decide +kernel⟩
noncomputable def ev_1518 : ZEV := ⟨([153, 0, 71], .ifCond .eq 71, 3), by decide +kernel⟩
noncomputable def ev_1519 : ZEV := ⟨([156, 0, 61], .ifCond .ge 61, 3), by decide +kernel⟩
noncomputable def ev_1520 : ZEV := ⟨([182, 1, 242], .invokevirtual 498, 3), by decide +kernel⟩
noncomputable def ev_1521 : ZEV := ⟨([161, 0, 16], .if_icmp .lt 16, 3), by decide +kernel⟩
noncomputable def ev_1522 : ZEV := ⟨([164, 0, 13], .if_icmp .le 13, 3), by decide +kernel⟩
noncomputable def ev_1523 : ZEV := ⟨([153, 0, 72], .ifCond .eq 72, 3), by decide +kernel⟩
noncomputable def ev_1524 : ZEV := ⟨([164, 0, 14], .if_icmp .le 14, 3), by decide +kernel⟩
noncomputable def ev_1525 : ZEV := ⟨([159, 0, 53], .if_icmp .eq 53, 3), by decide +kernel⟩
noncomputable def ev_1526 : ZEV := ⟨([167, 255, 203], .goto (-53), 3), by decide +kernel⟩
noncomputable def ev_1527 : ZEV := ⟨([162, 0, 44], .if_icmp .ge 44, 3), by decide +kernel⟩
noncomputable def ev_1528 : ZEV := ⟨([180, 0, 109], .getfield 109, 3), by decide +kernel⟩
noncomputable def ev_1529 : ZEV := ⟨([167, 255, 210], .goto (-46), 3), by decide +kernel⟩
noncomputable def ev_1530 : ZEV := ⟨([182, 1, 245], .invokevirtual 501, 3), by decide +kernel⟩
noncomputable def ev_1531 : ZEV := ⟨([153, 0, 68], .ifCond .eq 68, 3), by decide +kernel⟩
noncomputable def ev_1532 : ZEV := ⟨([182, 1, 248], .invokevirtual 504, 3), by decide +kernel⟩
noncomputable def ev_1533 : ZEV := ⟨([181, 1, 239], .putfield 495, 3), by decide +kernel⟩
noncomputable def ev_1534 : ZEV := ⟨([182, 1, 251], .invokevirtual 507, 3), by decide +kernel⟩
noncomputable def ev_1535 : ZEV := ⟨([180, 0, 118], .getfield 118, 3), by decide +kernel⟩
noncomputable def ev_1536 : ZEV := ⟨([180, 0, 115], .getfield 115, 3), by decide +kernel⟩
noncomputable def ev_1537 : ZEV := ⟨([180, 0, 121], .getfield 121, 3), by decide +kernel⟩
noncomputable def ev_1538 : ZEV := ⟨([184, 1, 254], .invokestatic 510, 3), by decide +kernel⟩
noncomputable def ev_1539 : ZEV := ⟨([180, 0, 124], .getfield 124, 3), by decide +kernel⟩
noncomputable def ev_1540 : ZEV := ⟨([182, 2, 1], .invokevirtual 513, 3), by decide +kernel⟩
noncomputable def ev_1541 : ZEV := ⟨([182, 2, 4], .invokevirtual 516, 3), by decide +kernel⟩
noncomputable def ev_1542 : ZEV := ⟨([155, 0, 195], .ifCond .lt 195, 3), by decide +kernel⟩
noncomputable def ev_1543 : ZEV := ⟨([154, 0, 79], .ifCond .ne 79, 3), by decide +kernel⟩
noncomputable def ev_1544 : ZEV := ⟨([155, 0, 35], .ifCond .lt 35, 3), by decide +kernel⟩
noncomputable def ev_1545 : ZEV := ⟨([167, 0, 91], .goto 91, 3), by decide +kernel⟩
noncomputable def ev_1546 : ZEV := ⟨([156, 0, 5], .ifCond .ge 5, 3), by decide +kernel⟩
noncomputable def ev_1547 : ZEV := ⟨([161, 0, 10], .if_icmp .lt 10, 3), by decide +kernel⟩
noncomputable def ev_1548 : ZEV := ⟨([167, 255, 63], .goto (-193), 3), by decide +kernel⟩
noncomputable def ev_1549 : ZEV := ⟨([182, 2, 7], .invokevirtual 519, 3), by decide +kernel⟩
noncomputable def ev_1550 : ZEV := ⟨([163, 0, 93], .if_icmp .gt 93, 3), by decide +kernel⟩
noncomputable def ev_1551 : ZEV := ⟨([154, 0, 76], .ifCond .ne 76, 3), by decide +kernel⟩
noncomputable def ev_1552 : ZEV := ⟨([154, 255, 199], .ifCond .ne (-57), 3), by decide +kernel⟩
noncomputable def ev_1553 : ZEV := ⟨([162, 0, 215], .if_icmp .ge 215, 3), by decide +kernel⟩
noncomputable def ev_1554 : ZEV := ⟨([160, 0, 70], .if_icmp .ne 70, 3), by decide +kernel⟩
noncomputable def ev_1555 : ZEV := ⟨([156, 0, 55], .ifCond .ge 55, 3), by decide +kernel⟩
noncomputable def ev_1556 : ZEV := ⟨([180, 0, 127], .getfield 127, 3), by decide +kernel⟩
noncomputable def ev_1557 : ZEV := ⟨([167, 0, 86], .goto 86, 3), by decide +kernel⟩
noncomputable def ev_1558 : ZEV := ⟨([160, 0, 64], .if_icmp .ne 64, 3), by decide +kernel⟩
noncomputable def ev_1559 : ZEV := ⟨([156, 0, 49], .ifCond .ge 49, 3), by decide +kernel⟩
noncomputable def ev_1560 : ZEV := ⟨([158, 0, 37], .ifCond .le 37, 3), by decide +kernel⟩
noncomputable def ev_1561 : ZEV := ⟨([167, 255, 42], .goto (-214), 3), by decide +kernel⟩
noncomputable def ev_1562 : ZEV := ⟨([182, 2, 10], .invokevirtual 522, 3), by decide +kernel⟩
noncomputable def ev_1563 : ZEV := ⟨([155, 0, 98], .ifCond .lt 98, 3), by decide +kernel⟩
noncomputable def ev_1564 : ZEV := ⟨([20, 2, 13], .ldc2_w 525, 3), by decide +kernel⟩
noncomputable def ev_1565 : ZEV := ⟨([182, 2, 15], .invokevirtual 527, 3), by decide +kernel⟩
noncomputable def ev_1566 : ZEV := ⟨([156, 0, 12], .ifCond .ge 12, 3), by decide +kernel⟩
noncomputable def ev_1567 : ZEV := ⟨([182, 2, 19], .invokevirtual 531, 3), by decide +kernel⟩
noncomputable def ev_1568 : ZEV := ⟨([182, 2, 22], .invokevirtual 534, 3), by decide +kernel⟩
noncomputable def ev_1569 : ZEV := ⟨([167, 255, 155], .goto (-101), 3), by decide +kernel⟩
noncomputable def ev_1570 : ZEV := ⟨([182, 2, 26], .invokevirtual 538, 3), by decide +kernel⟩
noncomputable def ev_1571 : ZEV := ⟨([182, 2, 29], .invokevirtual 541, 3), by decide +kernel⟩
noncomputable def ev_1572 : ZEV := ⟨([180, 0, 133], .getfield 133, 3), by decide +kernel⟩
noncomputable def ev_1573 : ZEV := ⟨([153, 1, 26], .ifCond .eq 282, 3), by decide +kernel⟩
noncomputable def ev_1574 : ZEV := ⟨([162, 1, 12], .if_icmp .ge 268, 3), by decide +kernel⟩
noncomputable def ev_1575 : ZEV := ⟨([153, 0, 244], .ifCond .eq 244, 3), by decide +kernel⟩
noncomputable def ev_1576 : ZEV := ⟨([156, 0, 107], .ifCond .ge 107, 3), by decide +kernel⟩
noncomputable def ev_1577 : ZEV := ⟨([156, 0, 88], .ifCond .ge 88, 3), by decide +kernel⟩
noncomputable def ev_1578 : ZEV := ⟨([156, 0, 51], .ifCond .ge 51, 3), by decide +kernel⟩
noncomputable def ev_1579 : ZEV := ⟨([158, 0, 111], .ifCond .le 111, 3), by decide +kernel⟩
noncomputable def ev_1580 : ZEV := ⟨([156, 0, 92], .ifCond .ge 92, 3), by decide +kernel⟩
noncomputable def ev_1581 : ZEV := ⟨([167, 254, 243], .goto (-269), 3), by decide +kernel⟩
noncomputable def ev_1582 : ZEV := ⟨([167, 254, 232], .goto (-280), 3), by decide +kernel⟩
noncomputable def ev_1583 : ZEV := ⟨([20, 2, 33], .ldc2_w 545, 3), by decide +kernel⟩
noncomputable def ev_1584 : ZEV := ⟨([162, 0, 40], .if_icmp .ge 40, 3), by decide +kernel⟩
noncomputable def ev_1585 : ZEV := ⟨([162, 0, 111], .if_icmp .ge 111, 3), by decide +kernel⟩
noncomputable def ev_1586 : ZEV := ⟨([156, 0, 14], .ifCond .ge 14, 3), by decide +kernel⟩
noncomputable def ev_1587 : ZEV := ⟨([167, 255, 143], .goto (-113), 3), by decide +kernel⟩
noncomputable def ev_1588 : ZEV := ⟨([182, 2, 35], .invokevirtual 547, 3), by decide +kernel⟩
noncomputable def ev_1589 : ZEV := ⟨([162, 0, 54], .if_icmp .ge 54, 3), by decide +kernel⟩
noncomputable def ev_1590 : ZEV := ⟨([182, 2, 38], .invokevirtual 550, 3), by decide +kernel⟩
noncomputable def ev_1591 : ZEV := ⟨([162, 0, 59], .if_icmp .ge 59, 3), by decide +kernel⟩
noncomputable def ev_1592 : ZEV := ⟨([156, 0, 40], .ifCond .ge 40, 3), by decide +kernel⟩
noncomputable def ev_1593 : ZEV := ⟨([156, 0, 27], .ifCond .ge 27, 3), by decide +kernel⟩
noncomputable def ev_1594 : ZEV := ⟨([155, 0, 19], .ifCond .lt 19, 3), by decide +kernel⟩
noncomputable def ev_1595 : ZEV := ⟨([159, 0, 36], .if_icmp .eq 36, 3), by decide +kernel⟩
noncomputable def ev_1596 : ZEV := ⟨([162, 0, 131], .if_icmp .ge 131, 3), by decide +kernel⟩
noncomputable def ev_1597 : ZEV := ⟨([153, 0, 117], .ifCond .eq 117, 3), by decide +kernel⟩
noncomputable def ev_1598 : ZEV := ⟨([182, 2, 41], .invokevirtual 553, 3), by decide +kernel⟩
noncomputable def ev_1599 : ZEV := ⟨([159, 0, 80], .if_icmp .eq 80, 3), by decide +kernel⟩
noncomputable def ev_1600 : ZEV := ⟨([156, 0, 18], .ifCond .ge 18, 3), by decide +kernel⟩
noncomputable def ev_1601 : ZEV := ⟨([167, 255, 124], .goto (-132), 3), by decide +kernel⟩
noncomputable def ev_1602 : ZEV := ⟨([182, 2, 44], .invokevirtual 556, 3), by decide +kernel⟩
noncomputable def ev_1603 : ZEV := ⟨([155, 0, 38], .ifCond .lt 38, 3), by decide +kernel⟩
noncomputable def ev_1604 : ZEV := ⟨([153, 0, 173], .ifCond .eq 173, 3), by decide +kernel⟩
noncomputable def ev_1605 : ZEV := ⟨([162, 0, 159], .if_icmp .ge 159, 3), by decide +kernel⟩
noncomputable def ev_1606 : ZEV := ⟨([156, 0, 129], .ifCond .ge 129, 3), by decide +kernel⟩
noncomputable def ev_1607 : ZEV := ⟨([156, 0, 116], .ifCond .ge 116, 3), by decide +kernel⟩
noncomputable def ev_1608 : ZEV := ⟨([159, 0, 105], .if_icmp .eq 105, 3), by decide +kernel⟩
noncomputable def ev_1609 : ZEV := ⟨([156, 0, 81], .ifCond .ge 81, 3), by decide +kernel⟩
noncomputable def ev_1610 : ZEV := ⟨([155, 0, 41], .ifCond .lt 41, 3), by decide +kernel⟩
noncomputable def ev_1611 : ZEV := ⟨([167, 255, 85], .goto (-171), 3), by decide +kernel⟩
noncomputable def ev_1612 : ZEV := ⟨([154, 0, 29], .ifCond .ne 29, 3), by decide +kernel⟩
noncomputable def ev_1613 : ZEV := ⟨([182, 2, 47], .invokevirtual 559, 3), by decide +kernel⟩
noncomputable def ev_1614 : ZEV := ⟨([155, 0, 30], .ifCond .lt 30, 3), by decide +kernel⟩
noncomputable def ev_1615 : ZEV := ⟨([153, 0, 58], .ifCond .eq 58, 3), by decide +kernel⟩
noncomputable def ev_1616 : ZEV := ⟨([164, 1, 94], .if_icmp .le 350, 3), by decide +kernel⟩
noncomputable def ev_1617 : ZEV := ⟨([180, 0, 157], .getfield 157, 3), by decide +kernel⟩
noncomputable def ev_1618 : ZEV := ⟨([162, 0, 110], .if_icmp .ge 110, 3), by decide +kernel⟩
noncomputable def ev_1619 : ZEV := ⟨([159, 0, 50], .if_icmp .eq 50, 3), by decide +kernel⟩
noncomputable def ev_1620 : ZEV := ⟨([155, 0, 31], .ifCond .lt 31, 3), by decide +kernel⟩
noncomputable def ev_1621 : ZEV := ⟨([180, 0, 154], .getfield 154, 3), by decide +kernel⟩
noncomputable def ev_1622 : ZEV := ⟨([182, 2, 50], .invokevirtual 562, 3), by decide +kernel⟩
noncomputable def ev_1623 : ZEV := ⟨([180, 0, 160], .getfield 160, 3), by decide +kernel⟩
noncomputable def ev_1624 : ZEV := ⟨([167, 255, 165], .goto (-91), 3), by decide +kernel⟩
noncomputable def ev_1625 : ZEV := ⟨([167, 254, 163], .goto (-349), 3), by decide +kernel⟩
noncomputable def ev_1626 : ZEV := ⟨([180, 0, 163], .getfield 163, 3), by decide +kernel⟩
noncomputable def ev_1627 : ZEV := ⟨([162, 0, 135], .if_icmp .ge 135, 3), by decide +kernel⟩
noncomputable def ev_1628 : ZEV := ⟨([156, 0, 39], .ifCond .ge 39, 3), by decide +kernel⟩
noncomputable def ev_1629 : ZEV := ⟨([156, 0, 29], .ifCond .ge 29, 3), by decide +kernel⟩
noncomputable def ev_1630 : ZEV := ⟨([156, 0, 57], .ifCond .ge 57, 3), by decide +kernel⟩
noncomputable def ev_1631 : ZEV := ⟨([160, 0, 45], .if_icmp .ne 45, 3), by decide +kernel⟩
noncomputable def ev_1632 : ZEV := ⟨([167, 255, 121], .goto (-135), 3), by decide +kernel⟩
noncomputable def ev_1633 : ZEV := ⟨([180, 0, 166], .getfield 166, 3), by decide +kernel⟩
noncomputable def ev_1634 : ZEV := ⟨([182, 2, 53], .invokevirtual 565, 3), by decide +kernel⟩
noncomputable def ev_1635 : ZEV := ⟨([162, 0, 145], .if_icmp .ge 145, 3), by decide +kernel⟩
noncomputable def ev_1636 : ZEV := ⟨([162, 0, 128], .if_icmp .ge 128, 3), by decide +kernel⟩
noncomputable def ev_1637 : ZEV := ⟨([153, 0, 113], .ifCond .eq 113, 3), by decide +kernel⟩
noncomputable def ev_1638 : ZEV := ⟨([156, 0, 95], .ifCond .ge 95, 3), by decide +kernel⟩
noncomputable def ev_1639 : ZEV := ⟨([167, 255, 126], .goto (-130), 3), by decide +kernel⟩
noncomputable def ev_1640 : ZEV := ⟨([167, 255, 108], .goto (-148), 3), by decide +kernel⟩
noncomputable def ev_1641 : ZEV := ⟨([20, 2, 56], .ldc2_w 568, 3), by decide +kernel⟩
noncomputable def ev_1642 : ZEV := ⟨([158, 0, 52], .ifCond .le 52, 3), by decide +kernel⟩
noncomputable def ev_1643 : ZEV := ⟨([20, 2, 58], .ldc2_w 570, 3), by decide +kernel⟩
noncomputable def ev_1644 : ZEV := ⟨([20, 2, 60], .ldc2_w 572, 3), by decide +kernel⟩
noncomputable def ev_1645 : ZEV := ⟨([180, 0, 169], .getfield 169, 3), by decide +kernel⟩
noncomputable def ev_1646 : ZEV := ⟨([162, 0, 101], .if_icmp .ge 101, 3), by decide +kernel⟩
noncomputable def ev_1647 : ZEV := ⟨([153, 0, 87], .ifCond .eq 87, 3), by decide +kernel⟩
noncomputable def ev_1648 : ZEV := ⟨([20, 2, 62], .ldc2_w 574, 3), by decide +kernel⟩
noncomputable def ev_1649 : ZEV := ⟨([64], .lstore_n 1, 1), by decide +kernel⟩
noncomputable def ev_1650 : ZEV := ⟨([162, 1, 39], .if_icmp .ge 295, 3), by decide +kernel⟩
noncomputable def ev_1651 : ZEV := ⟨([20, 2, 64], .ldc2_w 576, 3), by decide +kernel⟩
noncomputable def ev_1652 : ZEV := ⟨([184, 2, 66], .invokestatic 578, 3), by decide +kernel⟩
noncomputable def ev_1653 : ZEV := ⟨([162, 0, 98], .if_icmp .ge 98, 3), by decide +kernel⟩
noncomputable def ev_1654 : ZEV := ⟨([167, 254, 215], .goto (-297), 3), by decide +kernel⟩
noncomputable def ev_1655 : ZEV := ⟨([20, 2, 70], .ldc2_w 582, 3), by decide +kernel⟩
noncomputable def ev_1656 : ZEV := ⟨([180, 0, 172], .getfield 172, 3), by decide +kernel⟩
noncomputable def ev_1657 : ZEV := ⟨([20, 2, 72], .ldc2_w 584, 3), by decide +kernel⟩
noncomputable def ev_1658 : ZEV := ⟨([180, 0, 178], .getfield 178, 3), by decide +kernel⟩
noncomputable def ev_1659 : ZEV := ⟨([162, 0, 207], .if_icmp .ge 207, 3), by decide +kernel⟩
noncomputable def ev_1660 : ZEV := ⟨([180, 0, 175], .getfield 175, 3), by decide +kernel⟩
noncomputable def ev_1661 : ZEV := ⟨([20, 2, 74], .ldc2_w 586, 3), by decide +kernel⟩
noncomputable def ev_1662 : ZEV := ⟨([20, 2, 76], .ldc2_w 588, 3), by decide +kernel⟩
noncomputable def ev_1663 : ZEV := ⟨([162, 0, 53], .if_icmp .ge 53, 3), by decide +kernel⟩
noncomputable def ev_1664 : ZEV := ⟨([167, 255, 50], .goto (-206), 3), by decide +kernel⟩
noncomputable def ev_1665 : ZEV := ⟨([167, 255, 129], .goto (-127), 3), by decide +kernel⟩
noncomputable def ev_1666 : ZEV := ⟨([180, 0, 184], .getfield 184, 3), by decide +kernel⟩
noncomputable def ev_1667 : ZEV := ⟨([182, 2, 78], .invokevirtual 590, 3), by decide +kernel⟩
noncomputable def ev_1668 : ZEV := ⟨([180, 0, 187], .getfield 187, 3), by decide +kernel⟩
noncomputable def ev_1669 : ZEV := ⟨([180, 0, 190], .getfield 190, 3), by decide +kernel⟩
noncomputable def ev_1670 : ZEV := ⟨([180, 2, 82], .getfield 594, 3), by decide +kernel⟩
noncomputable def ev_1671 : ZEV := ⟨([180, 0, 199], .getfield 199, 3), by decide +kernel⟩
noncomputable def ev_1672 : ZEV := ⟨([180, 0, 196], .getfield 196, 3), by decide +kernel⟩
noncomputable def ev_1673 : ZEV := ⟨([180, 0, 193], .getfield 193, 3), by decide +kernel⟩
noncomputable def ev_1674 : ZEV := ⟨([182, 2, 85], .invokevirtual 597, 3), by decide +kernel⟩
noncomputable def ev_1675 : ZEV := ⟨([181, 2, 82], .putfield 594, 3), by decide +kernel⟩
noncomputable def ev_1676 : ZEV := ⟨([162, 0, 137], .if_icmp .ge 137, 3), by decide +kernel⟩
noncomputable def ev_1677 : ZEV := ⟨([182, 2, 88], .invokevirtual 600, 3), by decide +kernel⟩
noncomputable def ev_1678 : ZEV := ⟨([155, 0, 33], .ifCond .lt 33, 3), by decide +kernel⟩
noncomputable def ev_1679 : ZEV := ⟨([159, 0, 8], .if_icmp .eq 8, 3), by decide +kernel⟩
noncomputable def ev_1680 : ZEV := ⟨([132, 4, 255], .iinc 4 (-1), 3), by decide +kernel⟩
noncomputable def ev_1681 : ZEV := ⟨([182, 2, 91], .invokevirtual 603, 3), by decide +kernel⟩
noncomputable def ev_1682 : ZEV := ⟨([182, 2, 94], .invokevirtual 606, 3), by decide +kernel⟩
noncomputable def ev_1683 : ZEV := ⟨([162, 0, 116], .if_icmp .ge 116, 3), by decide +kernel⟩
noncomputable def ev_1684 : ZEV := ⟨([159, 0, 104], .if_icmp .eq 104, 3), by decide +kernel⟩
noncomputable def ev_1685 : ZEV := ⟨([159, 0, 73], .if_icmp .eq 73, 3), by decide +kernel⟩
noncomputable def ev_1686 : ZEV := ⟨([157, 0, 22], .ifCond .gt 22, 3), by decide +kernel⟩
noncomputable def ev_1687 : ZEV := ⟨([154, 0, 31], .ifCond .ne 31, 3), by decide +kernel⟩
noncomputable def ev_1688 : ZEV := ⟨([155, 0, 26], .ifCond .lt 26, 3), by decide +kernel⟩
noncomputable def ev_1689 : ZEV := ⟨([182, 2, 97], .invokevirtual 609, 3), by decide +kernel⟩
noncomputable def ev_1690 : ZEV := ⟨([182, 2, 100], .invokevirtual 612, 3), by decide +kernel⟩
noncomputable def ev_1691 : ZEV := ⟨([180, 0, 218], .getfield 218, 3), by decide +kernel⟩
noncomputable def ev_1692 : ZEV := ⟨([180, 2, 103], .getfield 615, 3), by decide +kernel⟩
noncomputable def ev_1693 : ZEV := ⟨([180, 0, 221], .getfield 221, 3), by decide +kernel⟩
noncomputable def ev_1694 : ZEV := ⟨([182, 2, 106], .invokevirtual 618, 3), by decide +kernel⟩
noncomputable def ev_1695 : ZEV := ⟨([180, 0, 230], .getfield 230, 3), by decide +kernel⟩
noncomputable def ev_1696 : ZEV := ⟨([180, 0, 233], .getfield 233, 3), by decide +kernel⟩
noncomputable def ev_1697 : ZEV := ⟨([180, 0, 236], .getfield 236, 3), by decide +kernel⟩
noncomputable def ev_1698 : ZEV := ⟨([181, 2, 109], .putfield 621, 3), by decide +kernel⟩
noncomputable def ev_1699 : ZEV := ⟨([181, 2, 112], .putfield 624, 3), by decide +kernel⟩
noncomputable def ev_1700 : ZEV := ⟨([180, 0, 215], .getfield 215, 3), by decide +kernel⟩
noncomputable def ev_1701 : ZEV := ⟨([180, 2, 109], .getfield 621, 3), by decide +kernel⟩
noncomputable def ev_1702 : ZEV := ⟨([153, 0, 119], .ifCond .eq 119, 3), by decide +kernel⟩
noncomputable def ev_1703 : ZEV := ⟨([180, 2, 115], .getfield 627, 3), by decide +kernel⟩
noncomputable def ev_1704 : ZEV := ⟨([182, 2, 118], .invokevirtual 630, 3), by decide +kernel⟩
noncomputable def ev_1705 : ZEV := ⟨([180, 2, 122], .getfield 634, 3), by decide +kernel⟩
noncomputable def ev_1706 : ZEV := ⟨([180, 2, 125], .getfield 637, 3), by decide +kernel⟩
noncomputable def ev_1707 : ZEV := ⟨([182, 2, 128], .invokevirtual 640, 3), by decide +kernel⟩
noncomputable def ev_1708 : ZEV := ⟨([181, 2, 103], .putfield 615, 3), by decide +kernel⟩
noncomputable def ev_1709 : ZEV := ⟨([182, 2, 131], .invokevirtual 643, 3), by decide +kernel⟩
noncomputable def ev_1710 : ZEV := ⟨([154, 0, 77], .ifCond .ne 77, 3), by decide +kernel⟩
noncomputable def ev_1711 : ZEV := ⟨([180, 0, 212], .getfield 212, 3), by decide +kernel⟩
noncomputable def ev_1712 : ZEV := ⟨([182, 2, 134], .invokevirtual 646, 3), by decide +kernel⟩
noncomputable def ev_1713 : ZEV := ⟨([182, 2, 138], .invokevirtual 650, 3), by decide +kernel⟩
noncomputable def ev_1714 : ZEV := ⟨([158, 0, 12], .ifCond .le 12, 3), by decide +kernel⟩
noncomputable def ev_1715 : ZEV := ⟨([182, 2, 141], .invokevirtual 653, 3), by decide +kernel⟩
noncomputable def ev_1716 : ZEV := ⟨([181, 2, 144], .putfield 656, 3), by decide +kernel⟩
noncomputable def ev_1717 : ZEV := ⟨([181, 2, 147], .putfield 659, 3), by decide +kernel⟩
noncomputable def ev_1718 : ZEV := ⟨([181, 2, 150], .putfield 662, 3), by decide +kernel⟩
noncomputable def ev_1719 : ZEV := ⟨([180, 0, 202], .getfield 202, 3), by decide +kernel⟩
noncomputable def ev_1720 : ZEV := ⟨([180, 0, 205], .getfield 205, 3), by decide +kernel⟩
noncomputable def ev_1721 : ZEV := ⟨([181, 2, 125], .putfield 637, 3), by decide +kernel⟩
noncomputable def ev_1722 : ZEV := ⟨([181, 2, 115], .putfield 627, 3), by decide +kernel⟩
noncomputable def ev_1723 : ZEV := ⟨([181, 2, 122], .putfield 634, 3), by decide +kernel⟩
noncomputable def ev_1724 : ZEV := ⟨([167, 0, 180], .goto 180, 3), by decide +kernel⟩
noncomputable def ev_1725 : ZEV := ⟨([167, 0, 143], .goto 143, 3), by decide +kernel⟩
noncomputable def ev_1726 : ZEV := ⟨([167, 0, 71], .goto 71, 3), by decide +kernel⟩
noncomputable def ev_1727 : ZEV := ⟨([180, 2, 112], .getfield 624, 3), by decide +kernel⟩
noncomputable def ev_1728 : ZEV := ⟨([180, 0, 239], .getfield 239, 3), by decide +kernel⟩
noncomputable def ev_1729 : ZEV := ⟨([162, 0, 174], .if_icmp .ge 174, 3), by decide +kernel⟩
noncomputable def ev_1730 : ZEV := ⟨([180, 0, 208], .getfield 208, 3), by decide +kernel⟩
noncomputable def ev_1731 : ZEV := ⟨([180, 2, 150], .getfield 662, 3), by decide +kernel⟩
noncomputable def ev_1732 : ZEV := ⟨([180, 2, 147], .getfield 659, 3), by decide +kernel⟩
noncomputable def ev_1733 : ZEV := ⟨([182, 2, 153], .invokevirtual 665, 3), by decide +kernel⟩
noncomputable def ev_1734 : ZEV := ⟨([167, 255, 197], .goto (-59), 3), by decide +kernel⟩
noncomputable def ev_1735 : ZEV := ⟨([167, 255, 82], .goto (-174), 3), by decide +kernel⟩
noncomputable def ev_1736 : ZEV := ⟨([180, 2, 144], .getfield 656, 3), by decide +kernel⟩
noncomputable def ev_1737 : ZEV := ⟨([162, 0, 107], .if_icmp .ge 107, 3), by decide +kernel⟩
noncomputable def ev_1738 : ZEV := ⟨([156, 0, 24], .ifCond .ge 24, 3), by decide +kernel⟩
noncomputable def ev_1739 : ZEV := ⟨([180, 0, 248], .getfield 248, 3), by decide +kernel⟩
noncomputable def ev_1740 : ZEV := ⟨([159, 0, 21], .if_icmp .eq 21, 3), by decide +kernel⟩
noncomputable def ev_1741 : ZEV := ⟨([180, 0, 251], .getfield 251, 3), by decide +kernel⟩
noncomputable def ev_1742 : ZEV := ⟨([180, 2, 157], .getfield 669, 3), by decide +kernel⟩
noncomputable def ev_1743 : ZEV := ⟨([180, 0, 254], .getfield 254, 3), by decide +kernel⟩
noncomputable def ev_1744 : ZEV := ⟨([181, 2, 157], .putfield 669, 3), by decide +kernel⟩
noncomputable def ev_1745 : ZEV := ⟨([180, 2, 160], .getfield 672, 3), by decide +kernel⟩
noncomputable def ev_1746 : ZEV := ⟨([180, 1, 4], .getfield 260, 3), by decide +kernel⟩
noncomputable def ev_1747 : ZEV := ⟨([181, 2, 160], .putfield 672, 3), by decide +kernel⟩
noncomputable def ev_1748 : ZEV := ⟨([180, 2, 163], .getfield 675, 3), by decide +kernel⟩
noncomputable def ev_1749 : ZEV := ⟨([181, 2, 163], .putfield 675, 3), by decide +kernel⟩
noncomputable def ev_1750 : ZEV := ⟨([158, 0, 30], .ifCond .le 30, 3), by decide +kernel⟩
noncomputable def ev_1751 : ZEV := ⟨([182, 2, 166], .invokevirtual 678, 3), by decide +kernel⟩
noncomputable def ev_1752 : ZEV := ⟨([184, 2, 169], .invokestatic 681, 3), by decide +kernel⟩
noncomputable def ev_1753 : ZEV := ⟨([161, 0, 19], .if_icmp .lt 19, 3), by decide +kernel⟩
noncomputable def ev_1754 : ZEV := ⟨([182, 2, 172], .invokevirtual 684, 3), by decide +kernel⟩
noncomputable def ev_1755 : ZEV := ⟨([182, 2, 175], .invokevirtual 687, 3), by decide +kernel⟩
noncomputable def ev_1756 : ZEV := ⟨([182, 2, 178], .invokevirtual 690, 3), by decide +kernel⟩
noncomputable def ev_1757 : ZEV := ⟨([184, 2, 180], .invokestatic 692, 3), by decide +kernel⟩
noncomputable def ev_1758 : ZEV := ⟨([167, 0, 43], .goto 43, 3), by decide +kernel⟩
noncomputable def ev_1759 : ZEV := ⟨([161, 0, 15], .if_icmp .lt 15, 3), by decide +kernel⟩
noncomputable def ev_1760 : ZEV := ⟨([182, 2, 183], .invokevirtual 695, 3), by decide +kernel⟩
noncomputable def ev_1761 : ZEV := ⟨([160, 0, 52], .if_icmp .ne 52, 3), by decide +kernel⟩
noncomputable def ev_1762 : ZEV := ⟨([160, 0, 43], .if_icmp .ne 43, 3), by decide +kernel⟩
noncomputable def ev_1763 : ZEV := ⟨([182, 2, 186], .invokevirtual 698, 3), by decide +kernel⟩
noncomputable def ev_1764 : ZEV := ⟨([157, 0, 20], .ifCond .gt 20, 3), by decide +kernel⟩
noncomputable def ev_1765 : ZEV := ⟨([164, 0, 18], .if_icmp .le 18, 3), by decide +kernel⟩
noncomputable def ev_1766 : ZEV := ⟨([160, 0, 38], .if_icmp .ne 38, 3), by decide +kernel⟩
noncomputable def ev_1767 : ZEV := ⟨([160, 0, 47], .if_icmp .ne 47, 3), by decide +kernel⟩
noncomputable def ev_1768 : ZEV := ⟨([154, 0, 74], .ifCond .ne 74, 3), by decide +kernel⟩
noncomputable def ev_1769 : ZEV := ⟨([182, 2, 189], .invokevirtual 701, 3), by decide +kernel⟩
noncomputable def ev_1770 : ZEV := ⟨([154, 0, 23], .ifCond .ne 23, 3), by decide +kernel⟩
noncomputable def ev_1771 : ZEV := ⟨([182, 2, 192], .invokevirtual 704, 3), by decide +kernel⟩
noncomputable def ev_1772 : ZEV := ⟨([154, 255, 210], .ifCond .ne (-46), 3), by decide +kernel⟩
noncomputable def ev_1773 : ZEV := ⟨([182, 2, 196], .invokevirtual 708, 3), by decide +kernel⟩
noncomputable def ev_1774 : ZEV := ⟨([182, 2, 200], .invokevirtual 712, 3), by decide +kernel⟩
noncomputable def ev_1775 : ZEV := ⟨([180, 1, 1], .getfield 257, 3), by decide +kernel⟩
noncomputable def ev_1776 : ZEV := ⟨([180, 0, 242], .getfield 242, 3), by decide +kernel⟩
noncomputable def ev_1777 : ZEV := ⟨([180, 0, 245], .getfield 245, 3), by decide +kernel⟩
noncomputable def ev_1778 : ZEV := ⟨([158, 0, 9], .ifCond .le 9, 3), by decide +kernel⟩
noncomputable def ev_1779 : ZEV := ⟨([20, 2, 204], .ldc2_w 716, 3), by decide +kernel⟩
noncomputable def ev_1780 : ZEV := ⟨([180, 1, 16], .getfield 272, 3), by decide +kernel⟩
noncomputable def ev_1781 : ZEV := ⟨([180, 1, 7], .getfield 263, 3), by decide +kernel⟩
noncomputable def ev_1782 : ZEV := ⟨([162, 0, 171], .if_icmp .ge 171, 3), by decide +kernel⟩
noncomputable def ev_1783 : ZEV := ⟨([160, 0, 117], .if_icmp .ne 117, 3), by decide +kernel⟩
noncomputable def ev_1784 : ZEV := ⟨([184, 2, 206], .invokestatic 718, 3), by decide +kernel⟩
noncomputable def ev_1785 : ZEV := ⟨([158, 0, 8], .ifCond .le 8, 3), by decide +kernel⟩
noncomputable def ev_1786 : ZEV := ⟨([167, 255, 79], .goto (-177), 3), by decide +kernel⟩
noncomputable def ev_1787 : ZEV := ⟨([162, 0, 206], .if_icmp .ge 206, 3), by decide +kernel⟩
noncomputable def ev_1788 : ZEV := ⟨([180, 1, 13], .getfield 269, 3), by decide +kernel⟩
noncomputable def ev_1789 : ZEV := ⟨([167, 0, 148], .goto 148, 3), by decide +kernel⟩
noncomputable def ev_1790 : ZEV := ⟨([167, 0, 119], .goto 119, 3), by decide +kernel⟩
noncomputable def ev_1791 : ZEV := ⟨([184, 2, 210], .invokestatic 722, 3), by decide +kernel⟩
noncomputable def ev_1792 : ZEV := ⟨([167, 0, 70], .goto 70, 3), by decide +kernel⟩
noncomputable def ev_1793 : ZEV := ⟨([167, 0, 52], .goto 52, 3), by decide +kernel⟩
noncomputable def ev_1794 : ZEV := ⟨([167, 0, 34], .goto 34, 3), by decide +kernel⟩
noncomputable def ev_1795 : ZEV := ⟨([167, 255, 44], .goto (-212), 3), by decide +kernel⟩
noncomputable def ev_1796 : ZEV := ⟨([20, 2, 213], .ldc2_w 725, 3), by decide +kernel⟩
noncomputable def ev_1797 : ZEV := ⟨([20, 2, 215], .ldc2_w 727, 3), by decide +kernel⟩
noncomputable def ev_1798 : ZEV := ⟨([181, 2, 217], .putfield 729, 3), by decide +kernel⟩
noncomputable def ev_1799 : ZEV := ⟨([181, 2, 220], .putfield 732, 3), by decide +kernel⟩
noncomputable def ev_1800 : ZEV := ⟨([181, 2, 223], .putfield 735, 3), by decide +kernel⟩
noncomputable def ev_1801 : ZEV := ⟨([181, 2, 226], .putfield 738, 3), by decide +kernel⟩
noncomputable def ev_1802 : ZEV := ⟨([181, 2, 229], .putfield 741, 3), by decide +kernel⟩
noncomputable def ev_1803 : ZEV := ⟨([182, 2, 232], .invokevirtual 744, 3), by decide +kernel⟩
noncomputable def ev_1804 : ZEV := ⟨([180, 1, 10], .getfield 266, 3), by decide +kernel⟩
noncomputable def ev_1805 : ZEV := ⟨([182, 2, 235], .invokevirtual 747, 3), by decide +kernel⟩
noncomputable def ev_1806 : ZEV := ⟨([153, 0, 126], .ifCond .eq 126, 3), by decide +kernel⟩
noncomputable def ev_1807 : ZEV := ⟨([182, 2, 238], .invokevirtual 750, 3), by decide +kernel⟩
noncomputable def ev_1808 : ZEV := ⟨([154, 0, 37], .ifCond .ne 37, 3), by decide +kernel⟩
noncomputable def ev_1809 : ZEV := ⟨([182, 2, 242], .invokevirtual 754, 3), by decide +kernel⟩
noncomputable def ev_1810 : ZEV := ⟨([158, 0, 146], .ifCond .le 146, 3), by decide +kernel⟩
noncomputable def ev_1811 : ZEV := ⟨([180, 2, 226], .getfield 738, 3), by decide +kernel⟩
noncomputable def ev_1812 : ZEV := ⟨([180, 2, 229], .getfield 741, 3), by decide +kernel⟩
noncomputable def ev_1813 : ZEV := ⟨([20, 2, 245], .ldc2_w 757, 3), by decide +kernel⟩
noncomputable def ev_1814 : ZEV := ⟨([20, 2, 247], .ldc2_w 759, 3), by decide +kernel⟩
noncomputable def ev_1815 : ZEV := ⟨([20, 2, 249], .ldc2_w 761, 3), by decide +kernel⟩
noncomputable def ev_1816 : ZEV := ⟨([180, 2, 220], .getfield 732, 3), by decide +kernel⟩
noncomputable def ev_1817 : ZEV := ⟨([180, 2, 223], .getfield 735, 3), by decide +kernel⟩
noncomputable def ev_1818 : ZEV := ⟨([167, 255, 111], .goto (-145), 3), by decide +kernel⟩
noncomputable def ev_1819 : ZEV := ⟨([180, 2, 217], .getfield 729, 3), by decide +kernel⟩
noncomputable def ev_1820 : ZEV := ⟨([124], .iushr, 1), by decide +kernel⟩
noncomputable def ev_1821 : ZEV := ⟨([19, 1, 9], .ldc_w 265, 3), by decide +kernel⟩
noncomputable def ev_1822 : ZEV := ⟨([59], .istore_n 0, 1), by decide +kernel⟩
noncomputable def ev_1823 : ZEV := ⟨([19, 1, 10], .ldc_w 266, 3), by decide +kernel⟩
noncomputable def ev_1824 : ZEV := ⟨([19, 1, 11], .ldc_w 267, 3), by decide +kernel⟩
noncomputable def ev_1825 : ZEV := ⟨([20, 1, 58], .ldc2_w 314, 3), by decide +kernel⟩
noncomputable def ev_1826 : ZEV := ⟨([63], .lstore_n 0, 1), by decide +kernel⟩
noncomputable def ev_1827 : ZEV := ⟨([20, 1, 60], .ldc2_w 316, 3), by decide +kernel⟩
noncomputable def ev_1828 : ZEV := ⟨([20, 1, 62], .ldc2_w 318, 3), by decide +kernel⟩
noncomputable def ev_1829 : ZEV := ⟨([16, 127], .bipush 127, 2), by decide +kernel⟩
noncomputable def ev_1830 : ZEV := ⟨([167, 255, 244], .goto (-12), 3), by decide +kernel⟩
noncomputable def ev_1831 : ZEV := ⟨([156, 0, 17], .ifCond .ge 17, 3), by decide +kernel⟩
noncomputable def ev_1832 : ZEV := ⟨([156, 0, 15], .ifCond .ge 15, 3), by decide +kernel⟩
noncomputable def ev_1833 : ZEV := ⟨([182, 1, 60], .invokevirtual 316, 3), by decide +kernel⟩
noncomputable def ev_1834 : ZEV := ⟨([192, 1, 61], .checkcast 317, 3), by decide +kernel⟩
noncomputable def ev_1835 : ZEV := ⟨([184, 1, 48], .invokestatic 304, 3), by decide +kernel⟩
noncomputable def ev_1836 : ZEV := ⟨([184, 0, 150], .invokestatic 150, 3), by decide +kernel⟩
noncomputable def ev_1837 : ZEV := ⟨([182, 1, 79], .invokevirtual 335, 3), by decide +kernel⟩
noncomputable def ev_1838 : ZEV := ⟨([182, 1, 236], .invokevirtual 492, 3), by decide +kernel⟩
noncomputable def ev_1839 : ZEV := ⟨([184, 1, 239], .invokestatic 495, 3), by decide +kernel⟩
noncomputable def ev_1840 : ZEV := ⟨([184, 1, 242], .invokestatic 498, 3), by decide +kernel⟩
noncomputable def ev_1841 : ZEV := ⟨([182, 2, 121], .invokevirtual 633, 3), by decide +kernel⟩
noncomputable def ev_1842 : ZEV := ⟨([182, 1, 249], .invokevirtual 505, 3), by decide +kernel⟩
noncomputable def ev_1843 : ZEV := ⟨([184, 2, 125], .invokestatic 637, 3), by decide +kernel⟩
noncomputable def ev_1844 : ZEV := ⟨([184, 2, 128], .invokestatic 640, 3), by decide +kernel⟩
noncomputable def ev_1845 : ZEV := ⟨([178, 0, 38], .getstatic 38, 3), by decide +kernel⟩
noncomputable def ev_1846 : ZEV := ⟨([178, 4, 29], .getstatic 1053, 3), by decide +kernel⟩
noncomputable def ev_1847 : ZEV := ⟨([184, 4, 35], .invokestatic 1059, 3), by decide +kernel⟩
noncomputable def ev_1848 : ZEV := ⟨([184, 0, 9], .invokestatic 9, 3), by decide +kernel⟩
noncomputable def ev_1849 : ZEV := ⟨([17, 0, 255], .sipush 255, 3), by decide +kernel⟩
noncomputable def ev_1850 : ZEV := ⟨([184, 0, 88], .invokestatic 88, 3), by decide +kernel⟩
noncomputable def ev_1851 : ZEV := ⟨([184, 0, 92], .invokestatic 92, 3), by decide +kernel⟩
noncomputable def ev_1852 : ZEV := ⟨([184, 0, 38], .invokestatic 38, 3), by decide +kernel⟩
noncomputable def ev_1853 : ZEV := ⟨([145], .i2b, 1), by decide +kernel⟩
noncomputable def ev_1854 : ZEV := ⟨([155, 0, 8], .ifCond .lt 8, 3), by decide +kernel⟩
noncomputable def ev_1855 : ZEV := ⟨([191], .athrow, 1), by decide +kernel⟩
end
section
noncomputable def zi_0_0 : ZIs := [(0, ev_0), (3, ev_1), (4, ev_2), (7, ev_3), (8, ev_4), (11, ev_1), (12, ev_5), (15, ev_6), (16, ev_7), (17, ev_8), (19, ev_9), (20, ev_10), (21, ev_11), (23, ev_12), (25, ev_13), (26, ev_14)]
noncomputable def zi_0_1 : ZIs := [(27, ev_15), (29, ev_16), (30, ev_17), (33, ev_13), (34, ev_12), (36, ev_18), (37, ev_19), (39, ev_20)]
noncomputable def xi_0_2 : XIs := [(40, .tableswitch 1816 0 46 #[204, 232, 308, 336, 388, 428, 456, 469, 497, 537, 565, 617, 645, 658, 671, 699, 712, 740, 780, 832, 872, 912, 976, 1016, 1044, 1072, 1100, 1128, 1156, 1184, 1224, 1276, 1328, 1356, 1384, 1412, 1425, 1465, 1529, 1557, 1570, 1598, 1611, 1651, 1664, 1760, 1788], 204)]
set_option maxRecDepth 100000 in
theorem xi_ok0_2 : xi_ok code xi_0_2 = true := by decide +kernel
noncomputable def zi_0_3 : ZIs := [(244, ev_21), (245, ev_13), (246, ev_12), (248, ev_7), (249, ev_22), (250, ev_18), (251, ev_23), (252, ev_24), (255, ev_25), (257, ev_26), (258, ev_13), (259, ev_12), (261, ev_7), (262, ev_22), (263, ev_18), (264, ev_27)]
noncomputable def zi_0_4 : ZIs := [(267, ev_28), (269, ev_29), (272, ev_21), (273, ev_13), (274, ev_12), (276, ev_7), (277, ev_22), (278, ev_18), (279, ev_13), (280, ev_12), (282, ev_30), (283, ev_22), (284, ev_18), (285, ev_13), (286, ev_12), (288, ev_31)]
noncomputable def zi_0_5 : ZIs := [(289, ev_22), (290, ev_18), (291, ev_13), (292, ev_12), (294, ev_32), (295, ev_22), (296, ev_18), (297, ev_13), (298, ev_12), (300, ev_33), (301, ev_22), (302, ev_18), (303, ev_23), (304, ev_34), (307, ev_25), (309, ev_26)]
noncomputable def zi_0_6 : ZIs := [(310, ev_13), (311, ev_12), (313, ev_7), (314, ev_22), (315, ev_18), (316, ev_13), (317, ev_12), (319, ev_30), (320, ev_22), (321, ev_18), (322, ev_13), (323, ev_12), (325, ev_31), (326, ev_22), (327, ev_18), (328, ev_13)]
noncomputable def zi_0_7 : ZIs := [(329, ev_12), (331, ev_32), (332, ev_22), (333, ev_18), (334, ev_13), (335, ev_12), (337, ev_33), (338, ev_22), (339, ev_18), (340, ev_35), (343, ev_28), (345, ev_36), (348, ev_21), (349, ev_13), (350, ev_12), (352, ev_7)]
noncomputable def zi_0_8 : ZIs := [(353, ev_22), (354, ev_18), (355, ev_23), (356, ev_37), (359, ev_25), (361, ev_26), (362, ev_13), (363, ev_12), (365, ev_7), (366, ev_22), (367, ev_18), (368, ev_38), (371, ev_28), (373, ev_39), (376, ev_21), (377, ev_13)]
noncomputable def zi_0_9 : ZIs := [(378, ev_12), (380, ev_7), (381, ev_22), (382, ev_18), (383, ev_13), (384, ev_12), (386, ev_30), (387, ev_22), (388, ev_18), (389, ev_13), (390, ev_12), (392, ev_31), (393, ev_22), (394, ev_18), (395, ev_23), (396, ev_40)]
noncomputable def zi_0_10 : ZIs := [(399, ev_25), (401, ev_26), (402, ev_13), (403, ev_12), (405, ev_7), (406, ev_22), (407, ev_18), (408, ev_13), (409, ev_12), (411, ev_30), (412, ev_22), (413, ev_18), (414, ev_13), (415, ev_12), (417, ev_31), (418, ev_22)]
noncomputable def zi_0_11 : ZIs := [(419, ev_18), (420, ev_41), (423, ev_28), (425, ev_42), (428, ev_21), (429, ev_13), (430, ev_12), (432, ev_7), (433, ev_22), (434, ev_18), (435, ev_13), (436, ev_12), (438, ev_30), (439, ev_22), (440, ev_18), (441, ev_23)]
noncomputable def zi_0_12 : ZIs := [(442, ev_43), (445, ev_25), (447, ev_26), (448, ev_13), (449, ev_12), (451, ev_7), (452, ev_22), (453, ev_18), (454, ev_13), (455, ev_12), (457, ev_30), (458, ev_22), (459, ev_18), (460, ev_44), (463, ev_28), (465, ev_45)]
noncomputable def zi_0_13 : ZIs := [(468, ev_21), (469, ev_13), (470, ev_12), (472, ev_7), (473, ev_22), (474, ev_18), (475, ev_23), (476, ev_46), (479, ev_25), (481, ev_26), (482, ev_13), (483, ev_12), (485, ev_7), (486, ev_22), (487, ev_18), (488, ev_47)]
noncomputable def zi_0_14 : ZIs := [(491, ev_28), (493, ev_48), (496, ev_21), (497, ev_49), (500, ev_50), (501, ev_26), (502, ev_51), (505, ev_50), (506, ev_52), (509, ev_21), (510, ev_13), (511, ev_12), (513, ev_7), (514, ev_22), (515, ev_18), (516, ev_23)]
noncomputable def zi_0_15 : ZIs := [(517, ev_53), (520, ev_25), (522, ev_26), (523, ev_13), (524, ev_12), (526, ev_7), (527, ev_22), (528, ev_18), (529, ev_54), (532, ev_28), (534, ev_55), (537, ev_21), (538, ev_13), (539, ev_12), (541, ev_7), (542, ev_22)]
noncomputable def zi_0_16 : ZIs := [(543, ev_18), (544, ev_13), (545, ev_12), (547, ev_30), (548, ev_22), (549, ev_18), (550, ev_23), (551, ev_56), (554, ev_25), (556, ev_26), (557, ev_13), (558, ev_12), (560, ev_7), (561, ev_22), (562, ev_18), (563, ev_13)]
noncomputable def zi_0_17 : ZIs := [(564, ev_12), (566, ev_30), (567, ev_22), (568, ev_18), (569, ev_57), (572, ev_58), (574, ev_59), (577, ev_21), (578, ev_13), (579, ev_12), (581, ev_7), (582, ev_22), (583, ev_18), (584, ev_23), (585, ev_60), (588, ev_25)]
noncomputable def zi_0_18 : ZIs := [(590, ev_26), (591, ev_13), (592, ev_12), (594, ev_7), (595, ev_22), (596, ev_18), (597, ev_61), (600, ev_28), (602, ev_62), (605, ev_21), (606, ev_13), (607, ev_12), (609, ev_7), (610, ev_22), (611, ev_18), (612, ev_13)]
noncomputable def zi_0_19 : ZIs := [(613, ev_12), (615, ev_30), (616, ev_22), (617, ev_18), (618, ev_13), (619, ev_12), (621, ev_31), (622, ev_22), (623, ev_18), (624, ev_23), (625, ev_63), (628, ev_25), (630, ev_26), (631, ev_13), (632, ev_12), (634, ev_7)]
noncomputable def zi_0_20 : ZIs := [(635, ev_22), (636, ev_18), (637, ev_13), (638, ev_12), (640, ev_30), (641, ev_22), (642, ev_18), (643, ev_13), (644, ev_12), (646, ev_31), (647, ev_22), (648, ev_18), (649, ev_64), (652, ev_28), (654, ev_65), (657, ev_21)]
noncomputable def zi_0_21 : ZIs := [(658, ev_13), (659, ev_12), (661, ev_7), (662, ev_22), (663, ev_18), (664, ev_23), (665, ev_66), (668, ev_25), (670, ev_26), (671, ev_13), (672, ev_12), (674, ev_7), (675, ev_22), (676, ev_18), (677, ev_67), (680, ev_28)]
noncomputable def zi_0_22 : ZIs := [(682, ev_68), (685, ev_21), (686, ev_69), (689, ev_50), (690, ev_26), (691, ev_70), (694, ev_50), (695, ev_71), (698, ev_21), (699, ev_72), (702, ev_50), (703, ev_26), (704, ev_73), (707, ev_50), (708, ev_74), (711, ev_21)]
noncomputable def zi_0_23 : ZIs := [(712, ev_13), (713, ev_12), (715, ev_7), (716, ev_22), (717, ev_18), (718, ev_23), (719, ev_75), (722, ev_25), (724, ev_26), (725, ev_13), (726, ev_12), (728, ev_7), (729, ev_22), (730, ev_18), (731, ev_76), (734, ev_28)]
noncomputable def zi_0_24 : ZIs := [(736, ev_77), (739, ev_21), (740, ev_78), (743, ev_26), (744, ev_79), (747, ev_80), (750, ev_10), (751, ev_81), (752, ev_21), (753, ev_13), (754, ev_12), (756, ev_7), (757, ev_22), (758, ev_18), (759, ev_23), (760, ev_82)]
noncomputable def zi_0_25 : ZIs := [(763, ev_25), (765, ev_26), (766, ev_13), (767, ev_12), (769, ev_7), (770, ev_22), (771, ev_18), (772, ev_83), (775, ev_28), (777, ev_84), (780, ev_21), (781, ev_13), (782, ev_12), (784, ev_7), (785, ev_22), (786, ev_18)]
noncomputable def zi_0_26 : ZIs := [(787, ev_13), (788, ev_12), (790, ev_30), (791, ev_22), (792, ev_18), (793, ev_23), (794, ev_85), (797, ev_25), (799, ev_26), (800, ev_13), (801, ev_12), (803, ev_7), (804, ev_22), (805, ev_18), (806, ev_13), (807, ev_12)]
noncomputable def zi_0_27 : ZIs := [(809, ev_30), (810, ev_22), (811, ev_18), (812, ev_86), (815, ev_58), (817, ev_87), (820, ev_21), (821, ev_13), (822, ev_12), (824, ev_7), (825, ev_22), (826, ev_18), (827, ev_13), (828, ev_12), (830, ev_30), (831, ev_22)]
noncomputable def zi_0_28 : ZIs := [(832, ev_18), (833, ev_13), (834, ev_12), (836, ev_31), (837, ev_22), (838, ev_18), (839, ev_23), (840, ev_88), (843, ev_25), (845, ev_26), (846, ev_13), (847, ev_12), (849, ev_7), (850, ev_22), (851, ev_18), (852, ev_13)]
noncomputable def zi_0_29 : ZIs := [(853, ev_12), (855, ev_30), (856, ev_22), (857, ev_18), (858, ev_13), (859, ev_12), (861, ev_31), (862, ev_22), (863, ev_18), (864, ev_89), (867, ev_28), (869, ev_90), (872, ev_21), (873, ev_13), (874, ev_12), (876, ev_7)]
noncomputable def zi_0_30 : ZIs := [(877, ev_22), (878, ev_18), (879, ev_13), (880, ev_12), (882, ev_30), (883, ev_22), (884, ev_18), (885, ev_23), (886, ev_91), (889, ev_25), (891, ev_26), (892, ev_13), (893, ev_12), (895, ev_7), (896, ev_22), (897, ev_18)]
noncomputable def zi_0_31 : ZIs := [(898, ev_13), (899, ev_12), (901, ev_30), (902, ev_22), (903, ev_18), (904, ev_92), (907, ev_28), (909, ev_93), (912, ev_21), (913, ev_13), (914, ev_12), (916, ev_7), (917, ev_22), (918, ev_18), (919, ev_13), (920, ev_12)]
noncomputable def zi_0_32 : ZIs := [(922, ev_30), (923, ev_22), (924, ev_18), (925, ev_23), (926, ev_94), (929, ev_25), (931, ev_26), (932, ev_13), (933, ev_12), (935, ev_7), (936, ev_22), (937, ev_18), (938, ev_13), (939, ev_12), (941, ev_30), (942, ev_22)]
noncomputable def zi_0_33 : ZIs := [(943, ev_18), (944, ev_95), (947, ev_28), (949, ev_96), (952, ev_21), (953, ev_13), (954, ev_12), (956, ev_7), (957, ev_22), (958, ev_18), (959, ev_13), (960, ev_12), (962, ev_30), (963, ev_22), (964, ev_18), (965, ev_13)]
noncomputable def zi_0_34 : ZIs := [(966, ev_12), (968, ev_31), (969, ev_22), (970, ev_18), (971, ev_13), (972, ev_12), (974, ev_32), (975, ev_22), (976, ev_18), (977, ev_23), (978, ev_97), (981, ev_25), (983, ev_26), (984, ev_13), (985, ev_12), (987, ev_7)]
noncomputable def zi_0_35 : ZIs := [(988, ev_22), (989, ev_18), (990, ev_13), (991, ev_12), (993, ev_30), (994, ev_22), (995, ev_18), (996, ev_13), (997, ev_12), (999, ev_31), (1000, ev_22), (1001, ev_18), (1002, ev_13), (1003, ev_12), (1005, ev_32), (1006, ev_22)]
noncomputable def zi_0_36 : ZIs := [(1007, ev_18), (1008, ev_98), (1011, ev_28), (1013, ev_99), (1016, ev_21), (1017, ev_13), (1018, ev_12), (1020, ev_7), (1021, ev_22), (1022, ev_18), (1023, ev_13), (1024, ev_12), (1026, ev_30), (1027, ev_22), (1028, ev_18), (1029, ev_23)]
noncomputable def zi_0_37 : ZIs := [(1030, ev_100), (1033, ev_25), (1035, ev_26), (1036, ev_13), (1037, ev_12), (1039, ev_7), (1040, ev_22), (1041, ev_18), (1042, ev_13), (1043, ev_12), (1045, ev_30), (1046, ev_22), (1047, ev_18), (1048, ev_101), (1051, ev_28), (1053, ev_102)]
noncomputable def zi_0_38 : ZIs := [(1056, ev_21), (1057, ev_13), (1058, ev_12), (1060, ev_7), (1061, ev_22), (1062, ev_18), (1063, ev_23), (1064, ev_103), (1067, ev_25), (1069, ev_26), (1070, ev_13), (1071, ev_12), (1073, ev_7), (1074, ev_22), (1075, ev_18), (1076, ev_104)]
noncomputable def zi_0_39 : ZIs := [(1079, ev_28), (1081, ev_105), (1084, ev_21), (1085, ev_13), (1086, ev_12), (1088, ev_7), (1089, ev_22), (1090, ev_18), (1091, ev_23), (1092, ev_106), (1095, ev_25), (1097, ev_26), (1098, ev_13), (1099, ev_12), (1101, ev_7), (1102, ev_22)]
noncomputable def zi_0_40 : ZIs := [(1103, ev_18), (1104, ev_107), (1107, ev_28), (1109, ev_108), (1112, ev_21), (1113, ev_13), (1114, ev_12), (1116, ev_7), (1117, ev_22), (1118, ev_18), (1119, ev_23), (1120, ev_109), (1123, ev_25), (1125, ev_26), (1126, ev_13), (1127, ev_12)]
noncomputable def zi_0_41 : ZIs := [(1129, ev_7), (1130, ev_22), (1131, ev_18), (1132, ev_110), (1135, ev_28), (1137, ev_111), (1140, ev_21), (1141, ev_13), (1142, ev_12), (1144, ev_7), (1145, ev_22), (1146, ev_18), (1147, ev_23), (1148, ev_112), (1151, ev_25), (1153, ev_26)]
noncomputable def zi_0_42 : ZIs := [(1154, ev_13), (1155, ev_12), (1157, ev_7), (1158, ev_22), (1159, ev_18), (1160, ev_113), (1163, ev_28), (1165, ev_114), (1168, ev_21), (1169, ev_13), (1170, ev_12), (1172, ev_7), (1173, ev_22), (1174, ev_18), (1175, ev_23), (1176, ev_115)]
noncomputable def zi_0_43 : ZIs := [(1179, ev_25), (1181, ev_26), (1182, ev_13), (1183, ev_12), (1185, ev_7), (1186, ev_22), (1187, ev_18), (1188, ev_116), (1191, ev_28), (1193, ev_117), (1196, ev_21), (1197, ev_13), (1198, ev_12), (1200, ev_7), (1201, ev_22), (1202, ev_18)]
noncomputable def zi_0_44 : ZIs := [(1203, ev_23), (1204, ev_118), (1207, ev_25), (1209, ev_26), (1210, ev_13), (1211, ev_12), (1213, ev_7), (1214, ev_22), (1215, ev_18), (1216, ev_119), (1219, ev_28), (1221, ev_120), (1224, ev_21), (1225, ev_13), (1226, ev_12), (1228, ev_7)]
noncomputable def zi_0_45 : ZIs := [(1229, ev_22), (1230, ev_18), (1231, ev_13), (1232, ev_12), (1234, ev_30), (1235, ev_22), (1236, ev_18), (1237, ev_23), (1238, ev_121), (1241, ev_25), (1243, ev_26), (1244, ev_13), (1245, ev_12), (1247, ev_7), (1248, ev_22), (1249, ev_18)]
noncomputable def zi_0_46 : ZIs := [(1250, ev_13), (1251, ev_12), (1253, ev_30), (1254, ev_22), (1255, ev_18), (1256, ev_122), (1259, ev_58), (1261, ev_123), (1264, ev_21), (1265, ev_13), (1266, ev_12), (1268, ev_7), (1269, ev_22), (1270, ev_18), (1271, ev_13), (1272, ev_12)]
noncomputable def zi_0_47 : ZIs := [(1274, ev_30), (1275, ev_22), (1276, ev_18), (1277, ev_13), (1278, ev_12), (1280, ev_31), (1281, ev_22), (1282, ev_18), (1283, ev_23), (1284, ev_124), (1287, ev_25), (1289, ev_26), (1290, ev_13), (1291, ev_12), (1293, ev_7), (1294, ev_22)]
noncomputable def zi_0_48 : ZIs := [(1295, ev_18), (1296, ev_13), (1297, ev_12), (1299, ev_30), (1300, ev_22), (1301, ev_18), (1302, ev_13), (1303, ev_12), (1305, ev_31), (1306, ev_22), (1307, ev_18), (1308, ev_125), (1311, ev_28), (1313, ev_126), (1316, ev_21), (1317, ev_13)]
noncomputable def zi_0_49 : ZIs := [(1318, ev_12), (1320, ev_7), (1321, ev_22), (1322, ev_18), (1323, ev_13), (1324, ev_12), (1326, ev_30), (1327, ev_22), (1328, ev_18), (1329, ev_13), (1330, ev_12), (1332, ev_31), (1333, ev_22), (1334, ev_18), (1335, ev_23), (1336, ev_127)]
noncomputable def zi_0_50 : ZIs := [(1339, ev_25), (1341, ev_26), (1342, ev_13), (1343, ev_12), (1345, ev_7), (1346, ev_22), (1347, ev_18), (1348, ev_13), (1349, ev_12), (1351, ev_30), (1352, ev_22), (1353, ev_18), (1354, ev_13), (1355, ev_12), (1357, ev_31), (1358, ev_22)]
noncomputable def zi_0_51 : ZIs := [(1359, ev_18), (1360, ev_128), (1363, ev_58), (1365, ev_129), (1368, ev_21), (1369, ev_13), (1370, ev_12), (1372, ev_7), (1373, ev_22), (1374, ev_18), (1375, ev_23), (1376, ev_130), (1379, ev_25), (1381, ev_26), (1382, ev_13), (1383, ev_12)]
noncomputable def zi_0_52 : ZIs := [(1385, ev_7), (1386, ev_22), (1387, ev_18), (1388, ev_131), (1391, ev_58), (1393, ev_132), (1396, ev_21), (1397, ev_13), (1398, ev_12), (1400, ev_7), (1401, ev_22), (1402, ev_18), (1403, ev_23), (1404, ev_133), (1407, ev_25), (1409, ev_26)]
noncomputable def zi_0_53 : ZIs := [(1410, ev_13), (1411, ev_12), (1413, ev_7), (1414, ev_22), (1415, ev_18), (1416, ev_134), (1419, ev_58), (1421, ev_135), (1424, ev_21), (1425, ev_13), (1426, ev_12), (1428, ev_7), (1429, ev_22), (1430, ev_18), (1431, ev_23), (1432, ev_136)]
noncomputable def zi_0_54 : ZIs := [(1435, ev_25), (1437, ev_26), (1438, ev_13), (1439, ev_12), (1441, ev_7), (1442, ev_22), (1443, ev_18), (1444, ev_137), (1447, ev_28), (1449, ev_138), (1452, ev_21), (1453, ev_139), (1456, ev_50), (1457, ev_26), (1458, ev_140), (1461, ev_50)]
noncomputable def zi_0_55 : ZIs := [(1462, ev_141), (1465, ev_21), (1466, ev_13), (1467, ev_12), (1469, ev_7), (1470, ev_22), (1471, ev_18), (1472, ev_13), (1473, ev_12), (1475, ev_30), (1476, ev_22), (1477, ev_18), (1478, ev_23), (1479, ev_142), (1482, ev_25), (1484, ev_26)]
noncomputable def zi_0_56 : ZIs := [(1485, ev_13), (1486, ev_12), (1488, ev_7), (1489, ev_22), (1490, ev_18), (1491, ev_13), (1492, ev_12), (1494, ev_30), (1495, ev_22), (1496, ev_18), (1497, ev_143), (1500, ev_58), (1502, ev_144), (1505, ev_21), (1506, ev_13), (1507, ev_12)]
noncomputable def zi_0_57 : ZIs := [(1509, ev_7), (1510, ev_22), (1511, ev_18), (1512, ev_13), (1513, ev_12), (1515, ev_30), (1516, ev_22), (1517, ev_18), (1518, ev_13), (1519, ev_12), (1521, ev_31), (1522, ev_22), (1523, ev_18), (1524, ev_13), (1525, ev_12), (1527, ev_32)]
noncomputable def zi_0_58 : ZIs := [(1528, ev_22), (1529, ev_18), (1530, ev_23), (1531, ev_145), (1534, ev_25), (1536, ev_26), (1537, ev_13), (1538, ev_12), (1540, ev_7), (1541, ev_22), (1542, ev_18), (1543, ev_13), (1544, ev_12), (1546, ev_30), (1547, ev_22), (1548, ev_18)]
noncomputable def zi_0_59 : ZIs := [(1549, ev_13), (1550, ev_12), (1552, ev_31), (1553, ev_22), (1554, ev_18), (1555, ev_13), (1556, ev_12), (1558, ev_32), (1559, ev_22), (1560, ev_18), (1561, ev_146), (1564, ev_28), (1566, ev_147), (1569, ev_21), (1570, ev_13), (1571, ev_12)]
noncomputable def zi_0_60 : ZIs := [(1573, ev_7), (1574, ev_22), (1575, ev_18), (1576, ev_23), (1577, ev_148), (1580, ev_25), (1582, ev_26), (1583, ev_13), (1584, ev_12), (1586, ev_7), (1587, ev_22), (1588, ev_18), (1589, ev_149), (1592, ev_28), (1594, ev_150), (1597, ev_21)]
noncomputable def zi_0_61 : ZIs := [(1598, ev_151), (1601, ev_152), (1602, ev_26), (1603, ev_153), (1606, ev_152), (1607, ev_154), (1610, ev_21), (1611, ev_13), (1612, ev_12), (1614, ev_7), (1615, ev_22), (1616, ev_18), (1617, ev_23), (1618, ev_155), (1621, ev_25), (1623, ev_26)]
noncomputable def zi_0_62 : ZIs := [(1624, ev_13), (1625, ev_12), (1627, ev_7), (1628, ev_22), (1629, ev_18), (1630, ev_156), (1633, ev_58), (1635, ev_157), (1638, ev_21), (1639, ev_158), (1642, ev_50), (1643, ev_26), (1644, ev_159), (1647, ev_50), (1648, ev_160), (1651, ev_21)]
noncomputable def zi_0_63 : ZIs := [(1652, ev_13), (1653, ev_12), (1655, ev_7), (1656, ev_22), (1657, ev_18), (1658, ev_13), (1659, ev_12), (1661, ev_30), (1662, ev_22), (1663, ev_18), (1664, ev_23), (1665, ev_161), (1668, ev_25), (1670, ev_26), (1671, ev_13), (1672, ev_12)]
noncomputable def zi_0_64 : ZIs := [(1674, ev_7), (1675, ev_22), (1676, ev_18), (1677, ev_13), (1678, ev_12), (1680, ev_30), (1681, ev_22), (1682, ev_18), (1683, ev_162), (1686, ev_28), (1688, ev_163), (1691, ev_21), (1692, ev_164), (1695, ev_50), (1696, ev_26), (1697, ev_165)]
noncomputable def zi_0_65 : ZIs := [(1700, ev_50), (1701, ev_166), (1704, ev_21), (1705, ev_13), (1706, ev_12), (1708, ev_7), (1709, ev_22), (1710, ev_18), (1711, ev_13), (1712, ev_12), (1714, ev_30), (1715, ev_22), (1716, ev_18), (1717, ev_13), (1718, ev_12), (1720, ev_31)]
noncomputable def zi_0_66 : ZIs := [(1721, ev_22), (1722, ev_18), (1723, ev_13), (1724, ev_12), (1726, ev_32), (1727, ev_22), (1728, ev_18), (1729, ev_167), (1730, ev_168), (1732, ev_169), (1733, ev_13), (1734, ev_12), (1736, ev_33), (1737, ev_22), (1738, ev_18), (1739, ev_167)]
noncomputable def zi_0_67 : ZIs := [(1740, ev_170), (1743, ev_171), (1744, ev_172), (1745, ev_23), (1746, ev_173), (1749, ev_25), (1751, ev_26), (1752, ev_13), (1753, ev_12), (1755, ev_7), (1756, ev_22), (1757, ev_18), (1758, ev_13), (1759, ev_12), (1761, ev_30), (1762, ev_22)]
noncomputable def zi_0_68 : ZIs := [(1763, ev_18), (1764, ev_13), (1765, ev_12), (1767, ev_31), (1768, ev_22), (1769, ev_18), (1770, ev_13), (1771, ev_12), (1773, ev_32), (1774, ev_22), (1775, ev_18), (1776, ev_167), (1777, ev_168), (1779, ev_169), (1780, ev_13), (1781, ev_12)]
noncomputable def zi_0_69 : ZIs := [(1783, ev_33), (1784, ev_22), (1785, ev_18), (1786, ev_167), (1787, ev_170), (1790, ev_171), (1791, ev_172), (1792, ev_174), (1795, ev_28), (1797, ev_175), (1800, ev_21), (1801, ev_13), (1802, ev_12), (1804, ev_7), (1805, ev_22), (1806, ev_18)]
noncomputable def zi_0_70 : ZIs := [(1807, ev_23), (1808, ev_176), (1811, ev_25), (1813, ev_26), (1814, ev_13), (1815, ev_12), (1817, ev_7), (1818, ev_22), (1819, ev_18), (1820, ev_177), (1823, ev_58), (1825, ev_178), (1828, ev_21), (1829, ev_13), (1830, ev_12), (1832, ev_7)]
noncomputable def zi_0_71 : ZIs := [(1833, ev_22), (1834, ev_18), (1835, ev_23), (1836, ev_179), (1839, ev_25), (1841, ev_26), (1842, ev_13), (1843, ev_12), (1845, ev_7), (1846, ev_22), (1847, ev_18), (1848, ev_180), (1851, ev_28), (1853, ev_181), (1856, ev_182), (1859, ev_183)]
noncomputable def zi_0_72 : ZIs := [(1862, ev_7), (1863, ev_81)]
set_option maxRecDepth 100000 in
theorem xi_w0 : zall code [zi_0_0, zi_0_1, zi_0_3, zi_0_4, zi_0_5, zi_0_6, zi_0_7, zi_0_8, zi_0_9, zi_0_10, zi_0_11, zi_0_12, zi_0_13, zi_0_14, zi_0_15, zi_0_16, zi_0_17, zi_0_18, zi_0_19, zi_0_20, zi_0_21, zi_0_22, zi_0_23, zi_0_24, zi_0_25, zi_0_26, zi_0_27, zi_0_28, zi_0_29, zi_0_30, zi_0_31, zi_0_32, zi_0_33, zi_0_34, zi_0_35, zi_0_36, zi_0_37, zi_0_38, zi_0_39, zi_0_40, zi_0_41, zi_0_42, zi_0_43, zi_0_44, zi_0_45, zi_0_46, zi_0_47, zi_0_48, zi_0_49, zi_0_50, zi_0_51, zi_0_52, zi_0_53, zi_0_54, zi_0_55, zi_0_56, zi_0_57, zi_0_58, zi_0_59, zi_0_60, zi_0_61, zi_0_62, zi_0_63, zi_0_64, zi_0_65, zi_0_66, zi_0_67, zi_0_68, zi_0_69, zi_0_70, zi_0_71, zi_0_72] := zall_w _ _ (by decide +kernel)
noncomputable def xi_0 (pc : Nat) : XIs := cond (Nat.blt pc 1007) (cond (Nat.blt pc 590) (cond (Nat.blt pc 378) (cond (Nat.blt pc 267) (cond (Nat.blt pc 40) (cond (Nat.blt pc 27) (zx zi_0_0) (zx zi_0_1)) (cond (Nat.blt pc 244) (xi_0_2) (zx zi_0_3))) (cond (Nat.blt pc 310) (cond (Nat.blt pc 289) (zx zi_0_4) (zx zi_0_5)) (cond (Nat.blt pc 329) (zx zi_0_6) (cond (Nat.blt pc 353) (zx zi_0_7) (zx zi_0_8))))) (cond (Nat.blt pc 468) (cond (Nat.blt pc 419) (cond (Nat.blt pc 399) (zx zi_0_9) (zx zi_0_10)) (cond (Nat.blt pc 442) (zx zi_0_11) (zx zi_0_12))) (cond (Nat.blt pc 517) (cond (Nat.blt pc 491) (zx zi_0_13) (zx zi_0_14)) (cond (Nat.blt pc 543) (zx zi_0_15) (cond (Nat.blt pc 564) (zx zi_0_16) (zx zi_0_17)))))) (cond (Nat.blt pc 809) (cond (Nat.blt pc 682) (cond (Nat.blt pc 635) (cond (Nat.blt pc 613) (zx zi_0_18) (zx zi_0_19)) (cond (Nat.blt pc 658) (zx zi_0_20) (zx zi_0_21))) (cond (Nat.blt pc 736) (cond (Nat.blt pc 712) (zx zi_0_22) (zx zi_0_23)) (cond (Nat.blt pc 763) (zx zi_0_24) (cond (Nat.blt pc 787) (zx zi_0_25) (zx zi_0_26))))) (cond (Nat.blt pc 898) (cond (Nat.blt pc 853) (cond (Nat.blt pc 832) (zx zi_0_27) (zx zi_0_28)) (cond (Nat.blt pc 877) (zx zi_0_29) (zx zi_0_30))) (cond (Nat.blt pc 943) (cond (Nat.blt pc 922) (zx zi_0_31) (zx zi_0_32)) (cond (Nat.blt pc 966) (zx zi_0_33) (cond (Nat.blt pc 988) (zx zi_0_34) (zx zi_0_35))))))) (cond (Nat.blt pc 1435) (cond (Nat.blt pc 1229) (cond (Nat.blt pc 1103) (cond (Nat.blt pc 1056) (cond (Nat.blt pc 1030) (zx zi_0_36) (zx zi_0_37)) (cond (Nat.blt pc 1079) (zx zi_0_38) (zx zi_0_39))) (cond (Nat.blt pc 1154) (cond (Nat.blt pc 1129) (zx zi_0_40) (zx zi_0_41)) (cond (Nat.blt pc 1179) (zx zi_0_42) (cond (Nat.blt pc 1203) (zx zi_0_43) (zx zi_0_44))))) (cond (Nat.blt pc 1318) (cond (Nat.blt pc 1274) (cond (Nat.blt pc 1250) (zx zi_0_45) (zx zi_0_46)) (cond (Nat.blt pc 1295) (zx zi_0_47) (zx zi_0_48))) (cond (Nat.blt pc 1359) (cond (Nat.blt pc 1339) (zx zi_0_49) (zx zi_0_50)) (cond (Nat.blt pc 1385) (zx zi_0_51) (cond (Nat.blt pc 1410) (zx zi_0_52) (zx zi_0_53)))))) (cond (Nat.blt pc 1652) (cond (Nat.blt pc 1528) (cond (Nat.blt pc 1485) (cond (Nat.blt pc 1462) (zx zi_0_54) (zx zi_0_55)) (cond (Nat.blt pc 1509) (zx zi_0_56) (zx zi_0_57))) (cond (Nat.blt pc 1573) (cond (Nat.blt pc 1549) (zx zi_0_58) (zx zi_0_59)) (cond (Nat.blt pc 1598) (zx zi_0_60) (cond (Nat.blt pc 1624) (zx zi_0_61) (zx zi_0_62))))) (cond (Nat.blt pc 1763) (cond (Nat.blt pc 1700) (cond (Nat.blt pc 1674) (zx zi_0_63) (zx zi_0_64)) (cond (Nat.blt pc 1721) (zx zi_0_65) (cond (Nat.blt pc 1740) (zx zi_0_66) (zx zi_0_67)))) (cond (Nat.blt pc 1807) (cond (Nat.blt pc 1783) (zx zi_0_68) (zx zi_0_69)) (cond (Nat.blt pc 1833) (zx zi_0_70) (cond (Nat.blt pc 1862) (zx zi_0_71) (zx zi_0_72)))))))
theorem xi_ok0 (pc : Nat) : xi_ok code (xi_0 pc) = true := xi_c (xi_c (xi_c (xi_c (xi_c (xi_c (zq1 xi_w0) (zq1 (zq2 xi_w0))) (xi_c (xi_ok0_2) (zq1 (zq2 (zq2 xi_w0))))) (xi_c (xi_c (zq1 (zq2 (zq2 (zq2 xi_w0)))) (zq1 (zq2 (zq2 (zq2 (zq2 xi_w0)))))) (xi_c (zq1 (zq2 (zq2 (zq2 (zq2 (zq2 xi_w0)))))) (xi_c (zq1 (zq2 (zq2 (zq2 (zq2 (zq2 (zq2 xi_w0))))))) (zq1 (zq2 (zq2 (zq2 (zq2 (zq2 (zq2 (zq2 xi_w0)))))))))))) (xi_c (xi_c (xi_c (zq1 (zq2 (zq2 (zq2 (zq2 (zq2 (zq2 (zq2 (zq2 xi_w0))))))))) (zq1 (zq2 (zq2 (zq2 (zq2 (zq2 (zq2 (zq2 (zq2 (zq2 xi_w0))))))))))) (xi_c (zq1 (zq2 (zq2 (zq2 (zq2 (zq2 (zq2 (zq2 (zq2 (zq2 (zq2 xi_w0))))))))))) (zq1 (zq2 (zq2 (zq2 (zq2 (zq2 (zq2 (zq2 (zq2 (zq2 (zq2 (zq2 xi_w0)))))))))))))) (xi_c (xi_c (zq1 (zq2 (zq2 (zq2 (zq2 (zq2 (zq2 (zq2 (zq2 (zq2 (zq2 (zq2 (zq2 xi_w0))))))))))))) (zq1 (zq2 (zq2 (zq2 (zq2 (zq2 (zq2 (zq2 (zq2 (zq2 (zq2 (zq2 (zq2 (zq2 xi_w0))))))))))))))) (xi_c (zq1 (zq2 (zq2 (zq2 (zq2 (zq2 (zq2 (zq2 (zq2 (zq2 (zq2 (zq2 (zq2 (zq2 (zq2 xi_w0))))))))))))))) (xi_c (zq1 (zq2 (zq2 (zq2 (zq2 (zq2 (zq2 (zq2 (zq2 (zq2 (zq2 (zq2 (zq2 (zq2 (zq2 (zq2 xi_w0)))))))))))))))) (zq1 (zq2 (zq2 (zq2 (zq2 (zq2 (zq2 (zq2 (zq2 (zq2 (zq2 (zq2 (zq2 (zq2 (zq2 (zq2 (zq2 xi_w0)))))))))))))))))))))) (xi_c (xi_c (xi_c (xi_c (zq1 (zq2 (zq2 (zq2 (zq2 (zq2 (zq2 (zq2 (zq2 (zq2 (zq2 (zq2 (zq2 (zq2 (zq2 (zq2 (zq2 (zq2 xi_w0)))))))))))))))))) (zq1 (zq2 (zq2 (zq2 (zq2 (zq2 (zq2 (zq2 (zq2 (zq2 (zq2 (zq2 (zq2 (zq2 (zq2 (zq2 (zq2 (zq2 (zq2 xi_w0)))))))))))))))))))) (xi_c (zq1 (zq2 (zq2 (zq2 (zq2 (zq2 (zq2 (zq2 (zq2 (zq2 (zq2 (zq2 (zq2 (zq2 (zq2 (zq2 (zq2 (zq2 (zq2 (zq2 xi_w0)))))))))))))))))))) (zq1 (zq2 (zq2 (zq2 (zq2 (zq2 (zq2 (zq2 (zq2 (zq2 (zq2 (zq2 (zq2 (zq2 (zq2 (zq2 (zq2 (zq2 (zq2 (zq2 (zq2 xi_w0))))))))))))))))))))))) (xi_c (xi_c (zq1 (zq2 (zq2 (zq2 (zq2 (zq2 (zq2 (zq2 (zq2 (zq2 (zq2 (zq2 (zq2 (zq2 (zq2 (zq2 (zq2 (zq2 (zq2 (zq2 (zq2 (zq2 xi_w0)))))))))))))))))))))) (zq1 (zq2 (zq2 (zq2 (zq2 (zq2 (zq2 (zq2 (zq2 (zq2 (zq2 (zq2 (zq2 (zq2 (zq2 (zq2 (zq2 (zq2 (zq2 (zq2 (zq2 (zq2 (zq2 xi_w0)))))))))))))))))))))))) (xi_c (zq1 (zq2 (zq2 (zq2 (zq2 (zq2 (zq2 (zq2 (zq2 (zq2 (zq2 (zq2 (zq2 (zq2 (zq2 (zq2 (zq2 (zq2 (zq2 (zq2 (zq2 (zq2 (zq2 (zq2 xi_w0)))))))))))))))))))))))) (xi_c (zq1 (zq2 (zq2 (zq2 (zq2 (zq2 (zq2 (zq2 (zq2 (zq2 (zq2 (zq2 (zq2 (zq2 (zq2 (zq2 (zq2 (zq2 (zq2 (zq2 (zq2 (zq2 (zq2 (zq2 (zq2 xi_w0))))))))))))))))))))))))) (zq1 (zq2 (zq2 (zq2 (zq2 (zq2 (zq2 (zq2 (zq2 (zq2 (zq2 (zq2 (zq2 (zq2 (zq2 (zq2 (zq2 (zq2 (zq2 (zq2 (zq2 (zq2 (zq2 (zq2 (zq2 (zq2 xi_w0)))))))))))))))))))))))))))))) (xi_c (xi_c (xi_c (zq1 (zq2 (zq2 (zq2 (zq2 (zq2 (zq2 (zq2 (zq2 (zq2 (zq2 (zq2 (zq2 (zq2 (zq2 (zq2 (zq2 (zq2 (zq2 (zq2 (zq2 (zq2 (zq2 (zq2 (zq2 (zq2 (zq2 xi_w0))))))))))))))))))))))))))) (zq1 (zq2 (zq2 (zq2 (zq2 (zq2 (zq2 (zq2 (zq2 (zq2 (zq2 (zq2 (zq2 (zq2 (zq2 (zq2 (zq2 (zq2 (zq2 (zq2 (zq2 (zq2 (zq2 (zq2 (zq2 (zq2 (zq2 (zq2 xi_w0))))))))))))))))))))))))))))) (xi_c (zq1 (zq2 (zq2 (zq2 (zq2 (zq2 (zq2 (zq2 (zq2 (zq2 (zq2 (zq2 (zq2 (zq2 (zq2 (zq2 (zq2 (zq2 (zq2 (zq2 (zq2 (zq2 (zq2 (zq2 (zq2 (zq2 (zq2 (zq2 (zq2 xi_w0))))))))))))))))))))))))))))) (zq1 (zq2 (zq2 (zq2 (zq2 (zq2 (zq2 (zq2 (zq2 (zq2 (zq2 (zq2 (zq2 (zq2 (zq2 (zq2 (zq2 (zq2 (zq2 (zq2 (zq2 (zq2 (zq2 (zq2 (zq2 (zq2 (zq2 (zq2 (zq2 (zq2 xi_w0)))))))))))))))))))))))))))))))) (xi_c (xi_c (zq1 (zq2 (zq2 (zq2 (zq2 (zq2 (zq2 (zq2 (zq2 (zq2 (zq2 (zq2 (zq2 (zq2 (zq2 (zq2 (zq2 (zq2 (zq2 (zq2 (zq2 (zq2 (zq2 (zq2 (zq2 (zq2 (zq2 (zq2 (zq2 (zq2 (zq2 xi_w0))))))))))))))))))))))))))))))) (zq1 (zq2 (zq2 (zq2 (zq2 (zq2 (zq2 (zq2 (zq2 (zq2 (zq2 (zq2 (zq2 (zq2 (zq2 (zq2 (zq2 (zq2 (zq2 (zq2 (zq2 (zq2 (zq2 (zq2 (zq2 (zq2 (zq2 (zq2 (zq2 (zq2 (zq2 (zq2 xi_w0))))))))))))))))))))))))))))))))) (xi_c (zq1 (zq2 (zq2 (zq2 (zq2 (zq2 (zq2 (zq2 (zq2 (zq2 (zq2 (zq2 (zq2 (zq2 (zq2 (zq2 (zq2 (zq2 (zq2 (zq2 (zq2 (zq2 (zq2 (zq2 (zq2 (zq2 (zq2 (zq2 (zq2 (zq2 (zq2 (zq2 (zq2 xi_w0))))))))))))))))))))))))))))))))) (xi_c (zq1 (zq2 (zq2 (zq2 (zq2 (zq2 (zq2 (zq2 (zq2 (zq2 (zq2 (zq2 (zq2 (zq2 (zq2 (zq2 (zq2 (zq2 (zq2 (zq2 (zq2 (zq2 (zq2 (zq2 (zq2 (zq2 (zq2 (zq2 (zq2 (zq2 (zq2 (zq2 (zq2 (zq2 xi_w0)))))))))))))))))))))))))))))))))) (zq1 (zq2 (zq2 (zq2 (zq2 (zq2 (zq2 (zq2 (zq2 (zq2 (zq2 (zq2 (zq2 (zq2 (zq2 (zq2 (zq2 (zq2 (zq2 (zq2 (zq2 (zq2 (zq2 (zq2 (zq2 (zq2 (zq2 (zq2 (zq2 (zq2 (zq2 (zq2 (zq2 (zq2 (zq2 xi_w0))))))))))))))))))))))))))))))))))))))))) (xi_c (xi_c (xi_c (xi_c (xi_c (zq1 (zq2 (zq2 (zq2 (zq2 (zq2 (zq2 (zq2 (zq2 (zq2 (zq2 (zq2 (zq2 (zq2 (zq2 (zq2 (zq2 (zq2 (zq2 (zq2 (zq2 (zq2 (zq2 (zq2 (zq2 (zq2 (zq2 (zq2 (zq2 (zq2 (zq2 (zq2 (zq2 (zq2 (zq2 (zq2 xi_w0)))))))))))))))))))))))))))))))))))) (zq1 (zq2 (zq2 (zq2 (zq2 (zq2 (zq2 (zq2 (zq2 (zq2 (zq2 (zq2 (zq2 (zq2 (zq2 (zq2 (zq2 (zq2 (zq2 (zq2 (zq2 (zq2 (zq2 (zq2 (zq2 (zq2 (zq2 (zq2 (zq2 (zq2 (zq2 (zq2 (zq2 (zq2 (zq2 (zq2 (zq2 xi_w0)))))))))))))))))))))))))))))))))))))) (xi_c (zq1 (zq2 (zq2 (zq2 (zq2 (zq2 (zq2 (zq2 (zq2 (zq2 (zq2 (zq2 (zq2 (zq2 (zq2 (zq2 (zq2 (zq2 (zq2 (zq2 (zq2 (zq2 (zq2 (zq2 (zq2 (zq2 (zq2 (zq2 (zq2 (zq2 (zq2 (zq2 (zq2 (zq2 (zq2 (zq2 (zq2 (zq2 xi_w0)))))))))))))))))))))))))))))))))))))) (zq1 (zq2 (zq2 (zq2 (zq2 (zq2 (zq2 (zq2 (zq2 (zq2 (zq2 (zq2 (zq2 (zq2 (zq2 (zq2 (zq2 (zq2 (zq2 (zq2 (zq2 (zq2 (zq2 (zq2 (zq2 (zq2 (zq2 (zq2 (zq2 (zq2 (zq2 (zq2 (zq2 (zq2 (zq2 (zq2 (zq2 (zq2 (zq2 xi_w0))))))))))))))))))))))))))))))))))))))))) (xi_c (xi_c (zq1 (zq2 (zq2 (zq2 (zq2 (zq2 (zq2 (zq2 (zq2 (zq2 (zq2 (zq2 (zq2 (zq2 (zq2 (zq2 (zq2 (zq2 (zq2 (zq2 (zq2 (zq2 (zq2 (zq2 (zq2 (zq2 (zq2 (zq2 (zq2 (zq2 (zq2 (zq2 (zq2 (zq2 (zq2 (zq2 (zq2 (zq2 (zq2 (zq2 xi_w0)))))))))))))))))))))))))))))))))))))))) (zq1 (zq2 (zq2 (zq2 (zq2 (zq2 (zq2 (zq2 (zq2 (zq2 (zq2 (zq2 (zq2 (zq2 (zq2 (zq2 (zq2 (zq2 (zq2 (zq2 (zq2 (zq2 (zq2 (zq2 (zq2 (zq2 (zq2 (zq2 (zq2 (zq2 (zq2 (zq2 (zq2 (zq2 (zq2 (zq2 (zq2 (zq2 (zq2 (zq2 (zq2 xi_w0)))))))))))))))))))))))))))))))))))))))))) (xi_c (zq1 (zq2 (zq2 (zq2 (zq2 (zq2 (zq2 (zq2 (zq2 (zq2 (zq2 (zq2 (zq2 (zq2 (zq2 (zq2 (zq2 (zq2 (zq2 (zq2 (zq2 (zq2 (zq2 (zq2 (zq2 (zq2 (zq2 (zq2 (zq2 (zq2 (zq2 (zq2 (zq2 (zq2 (zq2 (zq2 (zq2 (zq2 (zq2 (zq2 (zq2 (zq2 xi_w0)))))))))))))))))))))))))))))))))))))))))) (xi_c (zq1 (zq2 (zq2 (zq2 (zq2 (zq2 (zq2 (zq2 (zq2 (zq2 (zq2 (zq2 (zq2 (zq2 (zq2 (zq2 (zq2 (zq2 (zq2 (zq2 (zq2 (zq2 (zq2 (zq2 (zq2 (zq2 (zq2 (zq2 (zq2 (zq2 (zq2 (zq2 (zq2 (zq2 (zq2 (zq2 (zq2 (zq2 (zq2 (zq2 (zq2 (zq2 (zq2 xi_w0))))))))))))))))))))))))))))))))))))))))))) (zq1 (zq2 (zq2 (zq2 (zq2 (zq2 (zq2 (zq2 (zq2 (zq2 (zq2 (zq2 (zq2 (zq2 (zq2 (zq2 (zq2 (zq2 (zq2 (zq2 (zq2 (zq2 (zq2 (zq2 (zq2 (zq2 (zq2 (zq2 (zq2 (zq2 (zq2 (zq2 (zq2 (zq2 (zq2 (zq2 (zq2 (zq2 (zq2 (zq2 (zq2 (zq2 (zq2 (zq2 xi_w0)))))))))))))))))))))))))))))))))))))))))))))))) (xi_c (xi_c (xi_c (zq1 (zq2 (zq2 (zq2 (zq2 (zq2 (zq2 (zq2 (zq2 (zq2 (zq2 (zq2 (zq2 (zq2 (zq2 (zq2 (zq2 (zq2 (zq2 (zq2 (zq2 (zq2 (zq2 (zq2 (zq2 (zq2 (zq2 (zq2 (zq2 (zq2 (zq2 (zq2 (zq2 (zq2 (zq2 (zq2 (zq2 (zq2 (zq2 (zq2 (zq2 (zq2 (zq2 (zq2 (zq2 xi_w0))))))))))))))))))))))))))))))))))))))))))))) (zq1 (zq2 (zq2 (zq2 (zq2 (zq2 (zq2 (zq2 (zq2 (zq2 (zq2 (zq2 (zq2 (zq2 (zq2 (zq2 (zq2 (zq2 (zq2 (zq2 (zq2 (zq2 (zq2 (zq2 (zq2 (zq2 (zq2 (zq2 (zq2 (zq2 (zq2 (zq2 (zq2 (zq2 (zq2 (zq2 (zq2 (zq2 (zq2 (zq2 (zq2 (zq2 (zq2 (zq2 (zq2 (zq2 xi_w0))))))))))))))))))))))))))))))))))))))))))))))) (xi_c (zq1 (zq2 (zq2 (zq2 (zq2 (zq2 (zq2 (zq2 (zq2 (zq2 (zq2 (zq2 (zq2 (zq2 (zq2 (zq2 (zq2 (zq2 (zq2 (zq2 (zq2 (zq2 (zq2 (zq2 (zq2 (zq2 (zq2 (zq2 (zq2 (zq2 (zq2 (zq2 (zq2 (zq2 (zq2 (zq2 (zq2 (zq2 (zq2 (zq2 (zq2 (zq2 (zq2 (zq2 (zq2 (zq2 (zq2 xi_w0))))))))))))))))))))))))))))))))))))))))))))))) (zq1 (zq2 (zq2 (zq2 (zq2 (zq2 (zq2 (zq2 (zq2 (zq2 (zq2 (zq2 (zq2 (zq2 (zq2 (zq2 (zq2 (zq2 (zq2 (zq2 (zq2 (zq2 (zq2 (zq2 (zq2 (zq2 (zq2 (zq2 (zq2 (zq2 (zq2 (zq2 (zq2 (zq2 (zq2 (zq2 (zq2 (zq2 (zq2 (zq2 (zq2 (zq2 (zq2 (zq2 (zq2 (zq2 (zq2 (zq2 xi_w0)))))))))))))))))))))))))))))))))))))))))))))))))) (xi_c (xi_c (zq1 (zq2 (zq2 (zq2 (zq2 (zq2 (zq2 (zq2 (zq2 (zq2 (zq2 (zq2 (zq2 (zq2 (zq2 (zq2 (zq2 (zq2 (zq2 (zq2 (zq2 (zq2 (zq2 (zq2 (zq2 (zq2 (zq2 (zq2 (zq2 (zq2 (zq2 (zq2 (zq2 (zq2 (zq2 (zq2 (zq2 (zq2 (zq2 (zq2 (zq2 (zq2 (zq2 (zq2 (zq2 (zq2 (zq2 (zq2 (zq2 xi_w0))))))))))))))))))))))))))))))))))))))))))))))))) (zq1 (zq2 (zq2 (zq2 (zq2 (zq2 (zq2 (zq2 (zq2 (zq2 (zq2 (zq2 (zq2 (zq2 (zq2 (zq2 (zq2 (zq2 (zq2 (zq2 (zq2 (zq2 (zq2 (zq2 (zq2 (zq2 (zq2 (zq2 (zq2 (zq2 (zq2 (zq2 (zq2 (zq2 (zq2 (zq2 (zq2 (zq2 (zq2 (zq2 (zq2 (zq2 (zq2 (zq2 (zq2 (zq2 (zq2 (zq2 (zq2 (zq2 xi_w0))))))))))))))))))))))))))))))))))))))))))))))))))) (xi_c (zq1 (zq2 (zq2 (zq2 (zq2 (zq2 (zq2 (zq2 (zq2 (zq2 (zq2 (zq2 (zq2 (zq2 (zq2 (zq2 (zq2 (zq2 (zq2 (zq2 (zq2 (zq2 (zq2 (zq2 (zq2 (zq2 (zq2 (zq2 (zq2 (zq2 (zq2 (zq2 (zq2 (zq2 (zq2 (zq2 (zq2 (zq2 (zq2 (zq2 (zq2 (zq2 (zq2 (zq2 (zq2 (zq2 (zq2 (zq2 (zq2 (zq2 (zq2 xi_w0))))))))))))))))))))))))))))))))))))))))))))))))))) (xi_c (zq1 (zq2 (zq2 (zq2 (zq2 (zq2 (zq2 (zq2 (zq2 (zq2 (zq2 (zq2 (zq2 (zq2 (zq2 (zq2 (zq2 (zq2 (zq2 (zq2 (zq2 (zq2 (zq2 (zq2 (zq2 (zq2 (zq2 (zq2 (zq2 (zq2 (zq2 (zq2 (zq2 (zq2 (zq2 (zq2 (zq2 (zq2 (zq2 (zq2 (zq2 (zq2 (zq2 (zq2 (zq2 (zq2 (zq2 (zq2 (zq2 (zq2 (zq2 (zq2 xi_w0)))))))))))))))))))))))))))))))))))))))))))))))))))) (zq1 (zq2 (zq2 (zq2 (zq2 (zq2 (zq2 (zq2 (zq2 (zq2 (zq2 (zq2 (zq2 (zq2 (zq2 (zq2 (zq2 (zq2 (zq2 (zq2 (zq2 (zq2 (zq2 (zq2 (zq2 (zq2 (zq2 (zq2 (zq2 (zq2 (zq2 (zq2 (zq2 (zq2 (zq2 (zq2 (zq2 (zq2 (zq2 (zq2 (zq2 (zq2 (zq2 (zq2 (zq2 (zq2 (zq2 (zq2 (zq2 (zq2 (zq2 (zq2 (zq2 xi_w0)))))))))))))))))))))))))))))))))))))))))))))))))))))))))) (xi_c (xi_c (xi_c (xi_c (zq1 (zq2 (zq2 (zq2 (zq2 (zq2 (zq2 (zq2 (zq2 (zq2 (zq2 (zq2 (zq2 (zq2 (zq2 (zq2 (zq2 (zq2 (zq2 (zq2 (zq2 (zq2 (zq2 (zq2 (zq2 (zq2 (zq2 (zq2 (zq2 (zq2 (zq2 (zq2 (zq2 (zq2 (zq2 (zq2 (zq2 (zq2 (zq2 (zq2 (zq2 (zq2 (zq2 (zq2 (zq2 (zq2 (zq2 (zq2 (zq2 (zq2 (zq2 (zq2 (zq2 (zq2 xi_w0)))))))))))))))))))))))))))))))))))))))))))))))))))))) (zq1 (zq2 (zq2 (zq2 (zq2 (zq2 (zq2 (zq2 (zq2 (zq2 (zq2 (zq2 (zq2 (zq2 (zq2 (zq2 (zq2 (zq2 (zq2 (zq2 (zq2 (zq2 (zq2 (zq2 (zq2 (zq2 (zq2 (zq2 (zq2 (zq2 (zq2 (zq2 (zq2 (zq2 (zq2 (zq2 (zq2 (zq2 (zq2 (zq2 (zq2 (zq2 (zq2 (zq2 (zq2 (zq2 (zq2 (zq2 (zq2 (zq2 (zq2 (zq2 (zq2 (zq2 (zq2 xi_w0)))))))))))))))))))))))))))))))))))))))))))))))))))))))) (xi_c (zq1 (zq2 (zq2 (zq2 (zq2 (zq2 (zq2 (zq2 (zq2 (zq2 (zq2 (zq2 (zq2 (zq2 (zq2 (zq2 (zq2 (zq2 (zq2 (zq2 (zq2 (zq2 (zq2 (zq2 (zq2 (zq2 (zq2 (zq2 (zq2 (zq2 (zq2 (zq2 (zq2 (zq2 (zq2 (zq2 (zq2 (zq2 (zq2 (zq2 (zq2 (zq2 (zq2 (zq2 (zq2 (zq2 (zq2 (zq2 (zq2 (zq2 (zq2 (zq2 (zq2 (zq2 (zq2 (zq2 xi_w0)))))))))))))))))))))))))))))))))))))))))))))))))))))))) (zq1 (zq2 (zq2 (zq2 (zq2 (zq2 (zq2 (zq2 (zq2 (zq2 (zq2 (zq2 (zq2 (zq2 (zq2 (zq2 (zq2 (zq2 (zq2 (zq2 (zq2 (zq2 (zq2 (zq2 (zq2 (zq2 (zq2 (zq2 (zq2 (zq2 (zq2 (zq2 (zq2 (zq2 (zq2 (zq2 (zq2 (zq2 (zq2 (zq2 (zq2 (zq2 (zq2 (zq2 (zq2 (zq2 (zq2 (zq2 (zq2 (zq2 (zq2 (zq2 (zq2 (zq2 (zq2 (zq2 (zq2 xi_w0))))))))))))))))))))))))))))))))))))))))))))))))))))))))))) (xi_c (xi_c (zq1 (zq2 (zq2 (zq2 (zq2 (zq2 (zq2 (zq2 (zq2 (zq2 (zq2 (zq2 (zq2 (zq2 (zq2 (zq2 (zq2 (zq2 (zq2 (zq2 (zq2 (zq2 (zq2 (zq2 (zq2 (zq2 (zq2 (zq2 (zq2 (zq2 (zq2 (zq2 (zq2 (zq2 (zq2 (zq2 (zq2 (zq2 (zq2 (zq2 (zq2 (zq2 (zq2 (zq2 (zq2 (zq2 (zq2 (zq2 (zq2 (zq2 (zq2 (zq2 (zq2 (zq2 (zq2 (zq2 (zq2 (zq2 xi_w0)))))))))))))))))))))))))))))))))))))))))))))))))))))))))) (zq1 (zq2 (zq2 (zq2 (zq2 (zq2 (zq2 (zq2 (zq2 (zq2 (zq2 (zq2 (zq2 (zq2 (zq2 (zq2 (zq2 (zq2 (zq2 (zq2 (zq2 (zq2 (zq2 (zq2 (zq2 (zq2 (zq2 (zq2 (zq2 (zq2 (zq2 (zq2 (zq2 (zq2 (zq2 (zq2 (zq2 (zq2 (zq2 (zq2 (zq2 (zq2 (zq2 (zq2 (zq2 (zq2 (zq2 (zq2 (zq2 (zq2 (zq2 (zq2 (zq2 (zq2 (zq2 (zq2 (zq2 (zq2 (zq2 xi_w0)))))))))))))))))))))))))))))))))))))))))))))))))))))))))))) (xi_c (zq1 (zq2 (zq2 (zq2 (zq2 (zq2 (zq2 (zq2 (zq2 (zq2 (zq2 (zq2 (zq2 (zq2 (zq2 (zq2 (zq2 (zq2 (zq2 (zq2 (zq2 (zq2 (zq2 (zq2 (zq2 (zq2 (zq2 (zq2 (zq2 (zq2 (zq2 (zq2 (zq2 (zq2 (zq2 (zq2 (zq2 (zq2 (zq2 (zq2 (zq2 (zq2 (zq2 (zq2 (zq2 (zq2 (zq2 (zq2 (zq2 (zq2 (zq2 (zq2 (zq2 (zq2 (zq2 (zq2 (zq2 (zq2 (zq2 (zq2 xi_w0)))))))))))))))))))))))))))))))))))))))))))))))))))))))))))) (xi_c (zq1 (zq2 (zq2 (zq2 (zq2 (zq2 (zq2 (zq2 (zq2 (zq2 (zq2 (zq2 (zq2 (zq2 (zq2 (zq2 (zq2 (zq2 (zq2 (zq2 (zq2 (zq2 (zq2 (zq2 (zq2 (zq2 (zq2 (zq2 (zq2 (zq2 (zq2 (zq2 (zq2 (zq2 (zq2 (zq2 (zq2 (zq2 (zq2 (zq2 (zq2 (zq2 (zq2 (zq2 (zq2 (zq2 (zq2 (zq2 (zq2 (zq2 (zq2 (zq2 (zq2 (zq2 (zq2 (zq2 (zq2 (zq2 (zq2 (zq2 (zq2 xi_w0))))))))))))))))))))))))))))))))))))))))))))))))))))))))))))) (zq1 (zq2 (zq2 (zq2 (zq2 (zq2 (zq2 (zq2 (zq2 (zq2 (zq2 (zq2 (zq2 (zq2 (zq2 (zq2 (zq2 (zq2 (zq2 (zq2 (zq2 (zq2 (zq2 (zq2 (zq2 (zq2 (zq2 (zq2 (zq2 (zq2 (zq2 (zq2 (zq2 (zq2 (zq2 (zq2 (zq2 (zq2 (zq2 (zq2 (zq2 (zq2 (zq2 (zq2 (zq2 (zq2 (zq2 (zq2 (zq2 (zq2 (zq2 (zq2 (zq2 (zq2 (zq2 (zq2 (zq2 (zq2 (zq2 (zq2 (zq2 (zq2 xi_w0)))))))))))))))))))))))))))))))))))))))))))))))))))))))))))))))))) (xi_c (xi_c (xi_c (zq1 (zq2 (zq2 (zq2 (zq2 (zq2 (zq2 (zq2 (zq2 (zq2 (zq2 (zq2 (zq2 (zq2 (zq2 (zq2 (zq2 (zq2 (zq2 (zq2 (zq2 (zq2 (zq2 (zq2 (zq2 (zq2 (zq2 (zq2 (zq2 (zq2 (zq2 (zq2 (zq2 (zq2 (zq2 (zq2 (zq2 (zq2 (zq2 (zq2 (zq2 (zq2 (zq2 (zq2 (zq2 (zq2 (zq2 (zq2 (zq2 (zq2 (zq2 (zq2 (zq2 (zq2 (zq2 (zq2 (zq2 (zq2 (zq2 (zq2 (zq2 (zq2 (zq2 xi_w0))))))))))))))))))))))))))))))))))))))))))))))))))))))))))))))) (zq1 (zq2 (zq2 (zq2 (zq2 (zq2 (zq2 (zq2 (zq2 (zq2 (zq2 (zq2 (zq2 (zq2 (zq2 (zq2 (zq2 (zq2 (zq2 (zq2 (zq2 (zq2 (zq2 (zq2 (zq2 (zq2 (zq2 (zq2 (zq2 (zq2 (zq2 (zq2 (zq2 (zq2 (zq2 (zq2 (zq2 (zq2 (zq2 (zq2 (zq2 (zq2 (zq2 (zq2 (zq2 (zq2 (zq2 (zq2 (zq2 (zq2 (zq2 (zq2 (zq2 (zq2 (zq2 (zq2 (zq2 (zq2 (zq2 (zq2 (zq2 (zq2 (zq2 (zq2 xi_w0))))))))))))))))))))))))))))))))))))))))))))))))))))))))))))))))) (xi_c (zq1 (zq2 (zq2 (zq2 (zq2 (zq2 (zq2 (zq2 (zq2 (zq2 (zq2 (zq2 (zq2 (zq2 (zq2 (zq2 (zq2 (zq2 (zq2 (zq2 (zq2 (zq2 (zq2 (zq2 (zq2 (zq2 (zq2 (zq2 (zq2 (zq2 (zq2 (zq2 (zq2 (zq2 (zq2 (zq2 (zq2 (zq2 (zq2 (zq2 (zq2 (zq2 (zq2 (zq2 (zq2 (zq2 (zq2 (zq2 (zq2 (zq2 (zq2 (zq2 (zq2 (zq2 (zq2 (zq2 (zq2 (zq2 (zq2 (zq2 (zq2 (zq2 (zq2 (zq2 (zq2 xi_w0))))))))))))))))))))))))))))))))))))))))))))))))))))))))))))))))) (xi_c (zq1 (zq2 (zq2 (zq2 (zq2 (zq2 (zq2 (zq2 (zq2 (zq2 (zq2 (zq2 (zq2 (zq2 (zq2 (zq2 (zq2 (zq2 (zq2 (zq2 (zq2 (zq2 (zq2 (zq2 (zq2 (zq2 (zq2 (zq2 (zq2 (zq2 (zq2 (zq2 (zq2 (zq2 (zq2 (zq2 (zq2 (zq2 (zq2 (zq2 (zq2 (zq2 (zq2 (zq2 (zq2 (zq2 (zq2 (zq2 (zq2 (zq2 (zq2 (zq2 (zq2 (zq2 (zq2 (zq2 (zq2 (zq2 (zq2 (zq2 (zq2 (zq2 (zq2 (zq2 (zq2 (zq2 xi_w0)))))))))))))))))))))))))))))))))))))))))))))))))))))))))))))))))) (zq1 (zq2 (zq2 (zq2 (zq2 (zq2 (zq2 (zq2 (zq2 (zq2 (zq2 (zq2 (zq2 (zq2 (zq2 (zq2 (zq2 (zq2 (zq2 (zq2 (zq2 (zq2 (zq2 (zq2 (zq2 (zq2 (zq2 (zq2 (zq2 (zq2 (zq2 (zq2 (zq2 (zq2 (zq2 (zq2 (zq2 (zq2 (zq2 (zq2 (zq2 (zq2 (zq2 (zq2 (zq2 (zq2 (zq2 (zq2 (zq2 (zq2 (zq2 (zq2 (zq2 (zq2 (zq2 (zq2 (zq2 (zq2 (zq2 (zq2 (zq2 (zq2 (zq2 (zq2 (zq2 (zq2 (zq2 xi_w0)))))))))))))))))))))))))))))))))))))))))))))))))))))))))))))))))))))) (xi_c (xi_c (zq1 (zq2 (zq2 (zq2 (zq2 (zq2 (zq2 (zq2 (zq2 (zq2 (zq2 (zq2 (zq2 (zq2 (zq2 (zq2 (zq2 (zq2 (zq2 (zq2 (zq2 (zq2 (zq2 (zq2 (zq2 (zq2 (zq2 (zq2 (zq2 (zq2 (zq2 (zq2 (zq2 (zq2 (zq2 (zq2 (zq2 (zq2 (zq2 (zq2 (zq2 (zq2 (zq2 (zq2 (zq2 (zq2 (zq2 (zq2 (zq2 (zq2 (zq2 (zq2 (zq2 (zq2 (zq2 (zq2 (zq2 (zq2 (zq2 (zq2 (zq2 (zq2 (zq2 (zq2 (zq2 (zq2 (zq2 (zq2 xi_w0)))))))))))))))))))))))))))))))))))))))))))))))))))))))))))))))))))) (zq1 (zq2 (zq2 (zq2 (zq2 (zq2 (zq2 (zq2 (zq2 (zq2 (zq2 (zq2 (zq2 (zq2 (zq2 (zq2 (zq2 (zq2 (zq2 (zq2 (zq2 (zq2 (zq2 (zq2 (zq2 (zq2 (zq2 (zq2 (zq2 (zq2 (zq2 (zq2 (zq2 (zq2 (zq2 (zq2 (zq2 (zq2 (zq2 (zq2 (zq2 (zq2 (zq2 (zq2 (zq2 (zq2 (zq2 (zq2 (zq2 (zq2 (zq2 (zq2 (zq2 (zq2 (zq2 (zq2 (zq2 (zq2 (zq2 (zq2 (zq2 (zq2 (zq2 (zq2 (zq2 (zq2 (zq2 (zq2 (zq2 xi_w0)))))))))))))))))))))))))))))))))))))))))))))))))))))))))))))))))))))) (xi_c (zq1 (zq2 (zq2 (zq2 (zq2 (zq2 (zq2 (zq2 (zq2 (zq2 (zq2 (zq2 (zq2 (zq2 (zq2 (zq2 (zq2 (zq2 (zq2 (zq2 (zq2 (zq2 (zq2 (zq2 (zq2 (zq2 (zq2 (zq2 (zq2 (zq2 (zq2 (zq2 (zq2 (zq2 (zq2 (zq2 (zq2 (zq2 (zq2 (zq2 (zq2 (zq2 (zq2 (zq2 (zq2 (zq2 (zq2 (zq2 (zq2 (zq2 (zq2 (zq2 (zq2 (zq2 (zq2 (zq2 (zq2 (zq2 (zq2 (zq2 (zq2 (zq2 (zq2 (zq2 (zq2 (zq2 (zq2 (zq2 (zq2 (zq2 xi_w0)))))))))))))))))))))))))))))))))))))))))))))))))))))))))))))))))))))) (xi_c (zq1 (zq2 (zq2 (zq2 (zq2 (zq2 (zq2 (zq2 (zq2 (zq2 (zq2 (zq2 (zq2 (zq2 (zq2 (zq2 (zq2 (zq2 (zq2 (zq2 (zq2 (zq2 (zq2 (zq2 (zq2 (zq2 (zq2 (zq2 (zq2 (zq2 (zq2 (zq2 (zq2 (zq2 (zq2 (zq2 (zq2 (zq2 (zq2 (zq2 (zq2 (zq2 (zq2 (zq2 (zq2 (zq2 (zq2 (zq2 (zq2 (zq2 (zq2 (zq2 (zq2 (zq2 (zq2 (zq2 (zq2 (zq2 (zq2 (zq2 (zq2 (zq2 (zq2 (zq2 (zq2 (zq2 (zq2 (zq2 (zq2 (zq2 (zq2 xi_w0))))))))))))))))))))))))))))))))))))))))))))))))))))))))))))))))))))))) (zq1 (zq2 (zq2 (zq2 (zq2 (zq2 (zq2 (zq2 (zq2 (zq2 (zq2 (zq2 (zq2 (zq2 (zq2 (zq2 (zq2 (zq2 (zq2 (zq2 (zq2 (zq2 (zq2 (zq2 (zq2 (zq2 (zq2 (zq2 (zq2 (zq2 (zq2 (zq2 (zq2 (zq2 (zq2 (zq2 (zq2 (zq2 (zq2 (zq2 (zq2 (zq2 (zq2 (zq2 (zq2 (zq2 (zq2 (zq2 (zq2 (zq2 (zq2 (zq2 (zq2 (zq2 (zq2 (zq2 (zq2 (zq2 (zq2 (zq2 (zq2 (zq2 (zq2 (zq2 (zq2 (zq2 (zq2 (zq2 (zq2 (zq2 (zq2 (zq2 xi_w0))))))))))))))))))))))))))))))))))))))))))))))))))))))))))))))))))))))))))))))
noncomputable def zi_1_0 : ZIs := [(0, ev_26), (1, ev_10), (2, ev_13), (3, ev_184), (4, ev_185), (7, ev_167), (8, ev_186), (9, ev_187), (12, ev_9), (13, ev_7), (14, ev_81), (15, ev_9), (16, ev_30), (17, ev_81), (18, ev_10), (19, ev_81)]
set_option maxRecDepth 100000 in
theorem xi_w1 : zall cL_node [zi_1_0] := zall_w _ _ (by decide +kernel)
noncomputable def xi_1 (pc : Nat) : XIs := zx zi_1_0
theorem xi_ok1 (pc : Nat) : xi_ok cL_node (xi_1 pc) = true := zq1 xi_w1
noncomputable def zi_2_0 : ZIs := [(0, ev_188), (2, ev_10), (3, ev_13), (4, ev_184), (5, ev_189), (6, ev_190), (7, ev_12), (9, ev_191), (11, ev_192), (14, ev_167), (15, ev_186), (16, ev_193), (19, ev_194), (21, ev_7), (22, ev_81), (23, ev_194)]
noncomputable def zi_2_1 : ZIs := [(25, ev_30), (26, ev_81), (27, ev_10), (28, ev_81)]
set_option maxRecDepth 100000 in
theorem xi_w2 : zall cL_arc [zi_2_0, zi_2_1] := zall_w _ _ (by decide +kernel)
noncomputable def xi_2 (pc : Nat) : XIs := cond (Nat.blt pc 25) (zx zi_2_0) (zx zi_2_1)
theorem xi_ok2 (pc : Nat) : xi_ok cL_arc (xi_2 pc) = true := xi_c (zq1 xi_w2) (zq1 (zq2 xi_w2))
noncomputable def zi_3_0 : ZIs := [(0, ev_26), (1, ev_10), (2, ev_13), (3, ev_184), (4, ev_195), (7, ev_167), (8, ev_186), (9, ev_187), (12, ev_9), (13, ev_7), (14, ev_81), (15, ev_9), (16, ev_30), (17, ev_81), (18, ev_10), (19, ev_81)]
set_option maxRecDepth 100000 in
theorem xi_w3 : zall cL_take [zi_3_0] := zall_w _ _ (by decide +kernel)
noncomputable def xi_3 (pc : Nat) : XIs := zx zi_3_0
theorem xi_ok3 (pc : Nat) : xi_ok cL_take (xi_3 pc) = true := zq1 xi_w3
noncomputable def zi_4_0 : ZIs := [(0, ev_196), (2, ev_10), (3, ev_13), (4, ev_184), (5, ev_189), (6, ev_190), (7, ev_197), (10, ev_167), (11, ev_186), (12, ev_193), (15, ev_198), (17, ev_7), (18, ev_81), (19, ev_198), (21, ev_30), (22, ev_81)]
noncomputable def zi_4_1 : ZIs := [(23, ev_10), (24, ev_81)]
set_option maxRecDepth 100000 in
theorem xi_w4 : zall cL_set [zi_4_0, zi_4_1] := zall_w _ _ (by decide +kernel)
noncomputable def xi_4 (pc : Nat) : XIs := cond (Nat.blt pc 23) (zx zi_4_0) (zx zi_4_1)
theorem xi_ok4 (pc : Nat) : xi_ok cL_set (xi_4 pc) = true := xi_c (zq1 xi_w4) (zq1 (zq2 xi_w4))
noncomputable def zi_5_0 : ZIs := [(0, ev_23), (1, ev_10), (2, ev_13), (3, ev_184), (4, ev_189), (5, ev_199), (8, ev_167), (9, ev_186), (10, ev_193), (13, ev_200), (15, ev_7), (16, ev_81), (17, ev_200), (19, ev_30), (20, ev_81), (21, ev_10)]
noncomputable def zi_5_1 : ZIs := [(22, ev_81)]
set_option maxRecDepth 100000 in
theorem xi_w5 : zall cL_label [zi_5_0, zi_5_1] := zall_w _ _ (by decide +kernel)
noncomputable def xi_5 (pc : Nat) : XIs := cond (Nat.blt pc 22) (zx zi_5_0) (zx zi_5_1)
theorem xi_ok5 (pc : Nat) : xi_ok cL_label (xi_5 pc) = true := xi_c (zq1 xi_w5) (zq1 (zq2 xi_w5))
noncomputable def zi_6_0 : ZIs := [(0, ev_26), (1, ev_10), (2, ev_13), (3, ev_184), (4, ev_201), (7, ev_167), (8, ev_186), (9, ev_202), (12, ev_9), (13, ev_7), (14, ev_81), (15, ev_10), (16, ev_81)]
set_option maxRecDepth 100000 in
theorem xi_w6 : zall cL_view [zi_6_0] := zall_w _ _ (by decide +kernel)
noncomputable def xi_6 (pc : Nat) : XIs := zx zi_6_0
theorem xi_ok6 (pc : Nat) : xi_ok cL_view (xi_6 pc) = true := zq1 xi_w6
noncomputable def zi_7_0 : ZIs := [(0, ev_26), (1, ev_10), (2, ev_13), (3, ev_184), (4, ev_203), (7, ev_167), (8, ev_186), (9, ev_202), (12, ev_9), (13, ev_7), (14, ev_81), (15, ev_10), (16, ev_81)]
set_option maxRecDepth 100000 in
theorem xi_w7 : zall cL_size [zi_7_0] := zall_w _ _ (by decide +kernel)
noncomputable def xi_7 (pc : Nat) : XIs := zx zi_7_0
theorem xi_ok7 (pc : Nat) : xi_ok cL_size (xi_7 pc) = true := zq1 xi_w7
noncomputable def zi_8_0 : ZIs := [(0, ev_23), (1, ev_10), (2, ev_13), (3, ev_184), (4, ev_189), (5, ev_204), (8, ev_186), (9, ev_205), (12, ev_200), (14, ev_7), (15, ev_81), (16, ev_10), (17, ev_81)]
set_option maxRecDepth 100000 in
theorem xi_w8 : zall cL_told [zi_8_0] := zall_w _ _ (by decide +kernel)
noncomputable def xi_8 (pc : Nat) : XIs := zx zi_8_0
theorem xi_ok8 (pc : Nat) : xi_ok cL_told (xi_8 pc) = true := zq1 xi_w8
noncomputable def zi_9_0 : ZIs := [(0, ev_26), (1, ev_10), (2, ev_13), (3, ev_184), (4, ev_206), (7, ev_167), (8, ev_186), (9, ev_202), (12, ev_9), (13, ev_7), (14, ev_81), (15, ev_10), (16, ev_81)]
set_option maxRecDepth 100000 in
theorem xi_w9 : zall cL_labelOf [zi_9_0] := zall_w _ _ (by decide +kernel)
noncomputable def xi_9 (pc : Nat) : XIs := zx zi_9_0
theorem xi_ok9 (pc : Nat) : xi_ok cL_labelOf (xi_9 pc) = true := zq1 xi_w9
noncomputable def zi_10_0 : ZIs := [(0, ev_196), (2, ev_10), (3, ev_13), (4, ev_184), (5, ev_189), (6, ev_190), (7, ev_207), (10, ev_167), (11, ev_186), (12, ev_205), (15, ev_198), (17, ev_7), (18, ev_81), (19, ev_10), (20, ev_81)]
set_option maxRecDepth 100000 in
theorem xi_w10 : zall cL_arcAt [zi_10_0] := zall_w _ _ (by decide +kernel)
noncomputable def xi_10 (pc : Nat) : XIs := zx zi_10_0
theorem xi_ok10 (pc : Nat) : xi_ok cL_arcAt (xi_10 pc) = true := zq1 xi_w10
noncomputable def zi_11_0 : ZIs := [(0, ev_26), (1, ev_10), (2, ev_13), (3, ev_184), (4, ev_208), (7, ev_167), (8, ev_186), (9, ev_187), (12, ev_9), (13, ev_7), (14, ev_81), (15, ev_9), (16, ev_30), (17, ev_81), (18, ev_10), (19, ev_81)]
set_option maxRecDepth 100000 in
theorem xi_w11 : zall cL_type [zi_11_0] := zall_w _ _ (by decide +kernel)
noncomputable def xi_11 (pc : Nat) : XIs := zx zi_11_0
theorem xi_ok11 (pc : Nat) : xi_ok cL_type (xi_11 pc) = true := zq1 xi_w11
noncomputable def zi_12_0 : ZIs := [(0, ev_26), (1, ev_10), (2, ev_13), (3, ev_184), (4, ev_209), (7, ev_167), (8, ev_186), (9, ev_202), (12, ev_9), (13, ev_7), (14, ev_81), (15, ev_10), (16, ev_81)]
set_option maxRecDepth 100000 in
theorem xi_w12 : zall cL_fault [zi_12_0] := zall_w _ _ (by decide +kernel)
noncomputable def xi_12 (pc : Nat) : XIs := zx zi_12_0
theorem xi_ok12 (pc : Nat) : xi_ok cL_fault (xi_12 pc) = true := zq1 xi_w12
noncomputable def zi_13_0 : ZIs := [(0, ev_26), (1, ev_10), (2, ev_13), (3, ev_184), (4, ev_210), (7, ev_167), (8, ev_186), (9, ev_202), (12, ev_9), (13, ev_7), (14, ev_81), (15, ev_10), (16, ev_81)]
set_option maxRecDepth 100000 in
theorem xi_w13 : zall cL_printed [zi_13_0] := zall_w _ _ (by decide +kernel)
noncomputable def xi_13 (pc : Nat) : XIs := zx zi_13_0
theorem xi_ok13 (pc : Nat) : xi_ok cL_printed (xi_13 pc) = true := zq1 xi_w13
noncomputable def zi_14_0 : ZIs := [(0, ev_23), (1, ev_10), (2, ev_13), (3, ev_184), (4, ev_189), (5, ev_211), (8, ev_186), (9, ev_205), (12, ev_200), (14, ev_7), (15, ev_81), (16, ev_10), (17, ev_81)]
set_option maxRecDepth 100000 in
theorem xi_w14 : zall cL_distance [zi_14_0] := zall_w _ _ (by decide +kernel)
noncomputable def xi_14 (pc : Nat) : XIs := zx zi_14_0
theorem xi_ok14 (pc : Nat) : xi_ok cL_distance (xi_14 pc) = true := zq1 xi_w14
noncomputable def zi_15_0 : ZIs := [(0, ev_196), (2, ev_10), (3, ev_13), (4, ev_184), (5, ev_189), (6, ev_190), (7, ev_212), (10, ev_167), (11, ev_186), (12, ev_205), (15, ev_198), (17, ev_7), (18, ev_81), (19, ev_10), (20, ev_81)]
set_option maxRecDepth 100000 in
theorem xi_w15 : zall cL_way [zi_15_0] := zall_w _ _ (by decide +kernel)
noncomputable def xi_15 (pc : Nat) : XIs := zx zi_15_0
theorem xi_ok15 (pc : Nat) : xi_ok cL_way (xi_15 pc) = true := zq1 xi_w15
noncomputable def zi_16_0 : ZIs := [(0, ev_23), (1, ev_10), (2, ev_13), (3, ev_184), (4, ev_189), (5, ev_213), (8, ev_167), (9, ev_186), (10, ev_205), (13, ev_200), (15, ev_7), (16, ev_81), (17, ev_10), (18, ev_81)]
set_option maxRecDepth 100000 in
theorem xi_w16 : zall cL_width [zi_16_0] := zall_w _ _ (by decide +kernel)
noncomputable def xi_16 (pc : Nat) : XIs := zx zi_16_0
theorem xi_ok16 (pc : Nat) : xi_ok cL_width (xi_16 pc) = true := zq1 xi_w16
noncomputable def zi_17_0 : ZIs := [(0, ev_23), (1, ev_10), (2, ev_13), (3, ev_184), (4, ev_189), (5, ev_214), (8, ev_167), (9, ev_186), (10, ev_205), (13, ev_200), (15, ev_7), (16, ev_81), (17, ev_10), (18, ev_81)]
set_option maxRecDepth 100000 in
theorem xi_w17 : zall cL_shorts [zi_17_0] := zall_w _ _ (by decide +kernel)
noncomputable def xi_17 (pc : Nat) : XIs := zx zi_17_0
theorem xi_ok17 (pc : Nat) : xi_ok cL_shorts (xi_17 pc) = true := zq1 xi_w17
noncomputable def zi_18_0 : ZIs := [(0, ev_215), (2, ev_10), (3, ev_13), (4, ev_184), (5, ev_189), (6, ev_190), (7, ev_12), (9, ev_216), (12, ev_167), (13, ev_186), (14, ev_205), (17, ev_217), (19, ev_7), (20, ev_81), (21, ev_10), (22, ev_81)]
set_option maxRecDepth 100000 in
theorem xi_w18 : zall cL_shortArc [zi_18_0] := zall_w _ _ (by decide +kernel)
noncomputable def xi_18 (pc : Nat) : XIs := zx zi_18_0
theorem xi_ok18 (pc : Nat) : xi_ok cL_shortArc (xi_18 pc) = true := zq1 xi_w18
noncomputable def zi_19_0 : ZIs := [(0, ev_23), (1, ev_10), (2, ev_13), (3, ev_184), (4, ev_189), (5, ev_218), (8, ev_167), (9, ev_186), (10, ev_205), (13, ev_200), (15, ev_7), (16, ev_81), (17, ev_10), (18, ev_81)]
set_option maxRecDepth 100000 in
theorem xi_w19 : zall cL_part [zi_19_0] := zall_w _ _ (by decide +kernel)
noncomputable def xi_19 (pc : Nat) : XIs := zx zi_19_0
theorem xi_ok19 (pc : Nat) : xi_ok cL_part (xi_19 pc) = true := zq1 xi_w19
noncomputable def zi_20_0 : ZIs := [(0, ev_26), (1, ev_10), (2, ev_13), (3, ev_184), (4, ev_219), (7, ev_220), (10, ev_221), (11, ev_222), (14, ev_223), (15, ev_186), (16, ev_202), (19, ev_9), (20, ev_7), (21, ev_81), (22, ev_10), (23, ev_81)]
set_option maxRecDepth 100000 in
theorem xi_w20 : zall cL_bridge [zi_20_0] := zall_w _ _ (by decide +kernel)
noncomputable def xi_20 (pc : Nat) : XIs := zx zi_20_0
theorem xi_ok20 (pc : Nat) : xi_ok cL_bridge (xi_20 pc) = true := zq1 xi_w20
noncomputable def zi_21_0 : ZIs := [(0, ev_26), (1, ev_10), (2, ev_13), (3, ev_184), (4, ev_224), (7, ev_220), (10, ev_221), (11, ev_222), (14, ev_223), (15, ev_186), (16, ev_202), (19, ev_9), (20, ev_7), (21, ev_81), (22, ev_10), (23, ev_81)]
set_option maxRecDepth 100000 in
theorem xi_w21 : zall cL_cut [zi_21_0] := zall_w _ _ (by decide +kernel)
noncomputable def xi_21 (pc : Nat) : XIs := zx zi_21_0
theorem xi_ok21 (pc : Nat) : xi_ok cL_cut (xi_21 pc) = true := zq1 xi_w21
noncomputable def zi_22_0 : ZIs := [(0, ev_26), (1, ev_10), (2, ev_13), (3, ev_184), (4, ev_225), (7, ev_167), (8, ev_186), (9, ev_202), (12, ev_9), (13, ev_7), (14, ev_81), (15, ev_10), (16, ev_81)]
set_option maxRecDepth 100000 in
theorem xi_w22 : zall cL_order [zi_22_0] := zall_w _ _ (by decide +kernel)
noncomputable def xi_22 (pc : Nat) : XIs := zx zi_22_0
theorem xi_ok22 (pc : Nat) : xi_ok cL_order (xi_22 pc) = true := zq1 xi_w22
noncomputable def zi_23_0 : ZIs := [(0, ev_26), (1, ev_10), (2, ev_13), (3, ev_184), (4, ev_226), (7, ev_167), (8, ev_186), (9, ev_202), (12, ev_9), (13, ev_7), (14, ev_81), (15, ev_10), (16, ev_81)]
set_option maxRecDepth 100000 in
theorem xi_w23 : zall cL_core [zi_23_0] := zall_w _ _ (by decide +kernel)
noncomputable def xi_23 (pc : Nat) : XIs := zx zi_23_0
theorem xi_ok23 (pc : Nat) : xi_ok cL_core (xi_23 pc) = true := zq1 xi_w23
noncomputable def zi_24_0 : ZIs := [(0, ev_26), (1, ev_10), (2, ev_13), (3, ev_184), (4, ev_227), (7, ev_167), (8, ev_186), (9, ev_202), (12, ev_9), (13, ev_7), (14, ev_81), (15, ev_10), (16, ev_81)]
set_option maxRecDepth 100000 in
theorem xi_w24 : zall cL_clique [zi_24_0] := zall_w _ _ (by decide +kernel)
noncomputable def xi_24 (pc : Nat) : XIs := zx zi_24_0
theorem xi_ok24 (pc : Nat) : xi_ok cL_clique (xi_24 pc) = true := zq1 xi_w24
noncomputable def zi_25_0 : ZIs := [(0, ev_26), (1, ev_10), (2, ev_13), (3, ev_184), (4, ev_228), (7, ev_167), (8, ev_186), (9, ev_202), (12, ev_9), (13, ev_7), (14, ev_81), (15, ev_10), (16, ev_81)]
set_option maxRecDepth 100000 in
theorem xi_w25 : zall cL_colour [zi_25_0] := zall_w _ _ (by decide +kernel)
noncomputable def xi_25 (pc : Nat) : XIs := zx zi_25_0
theorem xi_ok25 (pc : Nat) : xi_ok cL_colour (xi_25 pc) = true := zq1 xi_w25
noncomputable def zi_26_0 : ZIs := [(0, ev_23), (1, ev_10), (2, ev_13), (3, ev_184), (4, ev_189), (5, ev_229), (8, ev_186), (9, ev_205), (12, ev_200), (14, ev_7), (15, ev_81), (16, ev_10), (17, ev_81)]
set_option maxRecDepth 100000 in
theorem xi_w26 : zall cL_flow [zi_26_0] := zall_w _ _ (by decide +kernel)
noncomputable def xi_26 (pc : Nat) : XIs := zx zi_26_0
theorem xi_ok26 (pc : Nat) : xi_ok cL_flow (xi_26 pc) = true := zq1 xi_w26
noncomputable def zi_27_0 : ZIs := [(0, ev_196), (2, ev_10), (3, ev_13), (4, ev_184), (5, ev_189), (6, ev_190), (7, ev_230), (10, ev_220), (13, ev_221), (14, ev_222), (17, ev_223), (18, ev_186), (19, ev_205), (22, ev_198), (24, ev_7), (25, ev_81)]
noncomputable def zi_27_1 : ZIs := [(26, ev_10), (27, ev_81)]
set_option maxRecDepth 100000 in
theorem xi_w27 : zall cL_side [zi_27_0, zi_27_1] := zall_w _ _ (by decide +kernel)
noncomputable def xi_27 (pc : Nat) : XIs := cond (Nat.blt pc 26) (zx zi_27_0) (zx zi_27_1)
theorem xi_ok27 (pc : Nat) : xi_ok cL_side (xi_27 pc) = true := xi_c (zq1 xi_w27) (zq1 (zq2 xi_w27))
noncomputable def zi_28_0 : ZIs := [(0, ev_196), (2, ev_10), (3, ev_13), (4, ev_184), (5, ev_189), (6, ev_190), (7, ev_231), (10, ev_186), (11, ev_205), (14, ev_198), (16, ev_7), (17, ev_81), (18, ev_10), (19, ev_81)]
set_option maxRecDepth 100000 in
theorem xi_w28 : zall cL_cost [zi_28_0] := zall_w _ _ (by decide +kernel)
noncomputable def xi_28 (pc : Nat) : XIs := zx zi_28_0
theorem xi_ok28 (pc : Nat) : xi_ok cL_cost (xi_28 pc) = true := zq1 xi_w28
noncomputable def zi_29_0 : ZIs := [(0, ev_26), (1, ev_10), (2, ev_13), (3, ev_184), (4, ev_232), (7, ev_186), (8, ev_202), (11, ev_9), (12, ev_7), (13, ev_81), (14, ev_10), (15, ev_81)]
set_option maxRecDepth 100000 in
theorem xi_w29 : zall cL_pairing [zi_29_0] := zall_w _ _ (by decide +kernel)
noncomputable def xi_29 (pc : Nat) : XIs := zx zi_29_0
theorem xi_ok29 (pc : Nat) : xi_ok cL_pairing (xi_29 pc) = true := zq1 xi_w29
noncomputable def zi_30_0 : ZIs := [(0, ev_26), (1, ev_10), (2, ev_13), (3, ev_184), (4, ev_233), (7, ev_186), (8, ev_202), (11, ev_9), (12, ev_7), (13, ev_81), (14, ev_10), (15, ev_81)]
set_option maxRecDepth 100000 in
theorem xi_w30 : zall cL_tree [zi_30_0] := zall_w _ _ (by decide +kernel)
noncomputable def xi_30 (pc : Nat) : XIs := zx zi_30_0
theorem xi_ok30 (pc : Nat) : xi_ok cL_tree (xi_30 pc) = true := zq1 xi_w30
noncomputable def zi_31_0 : ZIs := [(0, ev_26), (1, ev_10), (2, ev_13), (3, ev_184), (4, ev_234), (7, ev_220), (10, ev_221), (11, ev_222), (14, ev_223), (15, ev_186), (16, ev_202), (19, ev_9), (20, ev_7), (21, ev_81), (22, ev_10), (23, ev_81)]
set_option maxRecDepth 100000 in
theorem xi_w31 : zall cL_span [zi_31_0] := zall_w _ _ (by decide +kernel)
noncomputable def xi_31 (pc : Nat) : XIs := zx zi_31_0
theorem xi_ok31 (pc : Nat) : xi_ok cL_span (xi_31 pc) = true := zq1 xi_w31
noncomputable def zi_32_0 : ZIs := [(0, ev_23), (1, ev_10), (2, ev_13), (3, ev_184), (4, ev_189), (5, ev_235), (8, ev_186), (9, ev_205), (12, ev_200), (14, ev_7), (15, ev_81), (16, ev_10), (17, ev_81)]
set_option maxRecDepth 100000 in
theorem xi_w32 : zall cL_rank [zi_32_0] := zall_w _ _ (by decide +kernel)
noncomputable def xi_32 (pc : Nat) : XIs := zx zi_32_0
theorem xi_ok32 (pc : Nat) : xi_ok cL_rank (xi_32 pc) = true := zq1 xi_w32
noncomputable def zi_33_0 : ZIs := [(0, ev_215), (2, ev_10), (3, ev_13), (4, ev_184), (5, ev_189), (6, ev_190), (7, ev_12), (9, ev_236), (12, ev_167), (13, ev_186), (14, ev_205), (17, ev_217), (19, ev_7), (20, ev_81), (21, ev_10), (22, ev_81)]
set_option maxRecDepth 100000 in
theorem xi_w33 : zall cL_shortest [zi_33_0] := zall_w _ _ (by decide +kernel)
noncomputable def xi_33 (pc : Nat) : XIs := zx zi_33_0
theorem xi_ok33 (pc : Nat) : xi_ok cL_shortest (xi_33 pc) = true := zq1 xi_w33
noncomputable def zi_34_0 : ZIs := [(0, ev_26), (1, ev_10), (2, ev_13), (3, ev_184), (4, ev_237), (7, ev_167), (8, ev_186), (9, ev_202), (12, ev_9), (13, ev_7), (14, ev_81), (15, ev_10), (16, ev_81)]
set_option maxRecDepth 100000 in
theorem xi_w34 : zall cL_group [zi_34_0] := zall_w _ _ (by decide +kernel)
noncomputable def xi_34 (pc : Nat) : XIs := zx zi_34_0
theorem xi_ok34 (pc : Nat) : xi_ok cL_group (xi_34 pc) = true := zq1 xi_w34
noncomputable def zi_35_0 : ZIs := [(0, ev_26), (1, ev_10), (2, ev_13), (3, ev_184), (4, ev_238), (7, ev_186), (8, ev_202), (11, ev_9), (12, ev_7), (13, ev_81), (14, ev_10), (15, ev_81)]
set_option maxRecDepth 100000 in
theorem xi_w35 : zall cL_figures [zi_35_0] := zall_w _ _ (by decide +kernel)
noncomputable def xi_35 (pc : Nat) : XIs := zx zi_35_0
theorem xi_ok35 (pc : Nat) : xi_ok cL_figures (xi_35 pc) = true := zq1 xi_w35
noncomputable def zi_36_0 : ZIs := [(0, ev_23), (1, ev_10), (2, ev_13), (3, ev_184), (4, ev_189), (5, ev_239), (8, ev_167), (9, ev_186), (10, ev_205), (13, ev_200), (15, ev_7), (16, ev_81), (17, ev_10), (18, ev_81)]
set_option maxRecDepth 100000 in
theorem xi_w36 : zall cL_fits [zi_36_0] := zall_w _ _ (by decide +kernel)
noncomputable def xi_36 (pc : Nat) : XIs := zx zi_36_0
theorem xi_ok36 (pc : Nat) : xi_ok cL_fits (xi_36 pc) = true := zq1 xi_w36
noncomputable def zi_37_0 : ZIs := [(0, ev_188), (2, ev_10), (3, ev_13), (4, ev_184), (5, ev_189), (6, ev_190), (7, ev_240), (9, ev_241), (12, ev_167), (13, ev_186), (14, ev_205), (17, ev_194), (19, ev_7), (20, ev_81), (21, ev_10), (22, ev_81)]
set_option maxRecDepth 100000 in
theorem xi_w37 : zall cL_run [zi_37_0] := zall_w _ _ (by decide +kernel)
noncomputable def xi_37 (pc : Nat) : XIs := zx zi_37_0
theorem xi_ok37 (pc : Nat) : xi_ok cL_run (xi_37 pc) = true := zq1 xi_w37
noncomputable def zi_38_0 : ZIs := [(0, ev_26), (1, ev_10), (2, ev_13), (3, ev_184), (4, ev_242), (7, ev_186), (8, ev_202), (11, ev_9), (12, ev_7), (13, ev_81), (14, ev_10), (15, ev_81)]
set_option maxRecDepth 100000 in
theorem xi_w38 : zall cL_state [zi_38_0] := zall_w _ _ (by decide +kernel)
noncomputable def xi_38 (pc : Nat) : XIs := zx zi_38_0
theorem xi_ok38 (pc : Nat) : xi_ok cL_state (xi_38 pc) = true := zq1 xi_w38
noncomputable def zi_39_0 : ZIs := [(0, ev_26), (1, ev_10), (2, ev_13), (3, ev_184), (4, ev_243), (7, ev_167), (8, ev_186), (9, ev_202), (12, ev_9), (13, ev_7), (14, ev_81), (15, ev_10), (16, ev_81)]
set_option maxRecDepth 100000 in
theorem xi_w39 : zall cL_letters [zi_39_0] := zall_w _ _ (by decide +kernel)
noncomputable def xi_39 (pc : Nat) : XIs := zx zi_39_0
theorem xi_ok39 (pc : Nat) : xi_ok cL_letters (xi_39 pc) = true := zq1 xi_w39
noncomputable def zi_40_0 : ZIs := [(0, ev_13), (1, ev_244), (4, ev_13), (5, ev_245), (6, ev_246), (9, ev_13), (10, ev_245), (11, ev_247), (14, ev_13), (15, ev_168), (17, ev_248), (19, ev_249), (22, ev_13), (23, ev_168), (25, ev_248), (27, ev_250)]
noncomputable def zi_40_1 : ZIs := [(30, ev_13), (31, ev_168), (33, ev_248), (35, ev_251), (38, ev_13), (39, ev_168), (41, ev_248), (43, ev_252), (46, ev_253)]
set_option maxRecDepth 100000 in
theorem xi_w40 : zall cX0_init [zi_40_0, zi_40_1] := zall_w _ _ (by decide +kernel)
noncomputable def xi_40 (pc : Nat) : XIs := cond (Nat.blt pc 30) (zx zi_40_0) (zx zi_40_1)
theorem xi_ok40 (pc : Nat) : xi_ok cX0_init (xi_40 pc) = true := xi_c (zq1 xi_w40) (zq1 (zq2 xi_w40))
noncomputable def zi_41_0 : ZIs := [(0, ev_13), (1, ev_254), (4, ev_21), (5, ev_255), (8, ev_256), (11, ev_13), (12, ev_21), (13, ev_255), (16, ev_246), (19, ev_21), (20, ev_257), (23, ev_13), (24, ev_10), (25, ev_258), (28, ev_13), (29, ev_21)]
noncomputable def zi_41_1 : ZIs := [(30, ev_259), (33, ev_10), (34, ev_21), (35, ev_207), (38, ev_10), (39, ev_260), (42, ev_13), (43, ev_261), (46, ev_81)]
set_option maxRecDepth 100000 in
theorem xi_w41 : zall cX0_greatestClique [zi_41_0, zi_41_1] := zall_w _ _ (by decide +kernel)
noncomputable def xi_41 (pc : Nat) : XIs := cond (Nat.blt pc 30) (zx zi_41_0) (zx zi_41_1)
theorem xi_ok41 (pc : Nat) : xi_ok cX0_greatestClique (xi_41 pc) = true := xi_c (zq1 xi_w41) (zq1 (zq2 xi_w41))
noncomputable def zi_42_0 : ZIs := [(0, ev_189), (1, ev_262), (4, ev_25), (6, ev_191), (8, ev_13), (9, ev_261), (12, ev_262), (15, ev_263), (18, ev_13), (19, ev_189), (20, ev_258), (23, ev_12), (25, ev_168), (27, ev_264), (30, ev_253), (31, ev_190)]
noncomputable def zi_42_1 : ZIs := [(32, ev_28), (34, ev_265), (36, ev_266), (39, ev_191), (41, ev_265), (43, ev_262), (46, ev_22), (47, ev_13), (48, ev_261), (51, ev_262), (54, ev_267), (57, ev_253), (58, ev_265), (60, ev_268), (63, ev_269), (65, ev_13)]
noncomputable def zi_42_2 : ZIs := [(66, ev_21), (67, ev_189), (68, ev_7), (69, ev_270), (71, ev_271), (72, ev_272), (73, ev_265), (75, ev_21), (76, ev_270), (78, ev_18), (79, ev_20), (80, ev_12), (82, ev_7), (83, ev_22), (84, ev_260), (87, ev_265)]
noncomputable def zi_42_3 : ZIs := [(89, ev_265), (91, ev_7), (92, ev_16), (93, ev_20), (94, ev_28), (96, ev_273), (99, ev_253)]
set_option maxRecDepth 100000 in
theorem xi_w42 : zall cX0_growClique [zi_42_0, zi_42_1, zi_42_2, zi_42_3] := zall_w _ _ (by decide +kernel)
noncomputable def xi_42 (pc : Nat) : XIs := cond (Nat.blt pc 66) (cond (Nat.blt pc 32) (zx zi_42_0) (zx zi_42_1)) (cond (Nat.blt pc 89) (zx zi_42_2) (zx zi_42_3))
theorem xi_ok42 (pc : Nat) : xi_ok cX0_growClique (xi_42 pc) = true := xi_c (xi_c (zq1 xi_w42) (zq1 (zq2 xi_w42))) (xi_c (zq1 (zq2 (zq2 xi_w42))) (zq1 (zq2 (zq2 (zq2 xi_w42)))))
noncomputable def zi_43_0 : ZIs := [(0, ev_13), (1, ev_274), (4, ev_21), (5, ev_255), (8, ev_275), (11, ev_13), (12, ev_21), (13, ev_255), (16, ev_247), (19, ev_13), (20, ev_21), (21, ev_276), (24, ev_13), (25, ev_277), (28, ev_189), (29, ev_18)]
noncomputable def zi_43_1 : ZIs := [(30, ev_81)]
set_option maxRecDepth 100000 in
theorem xi_w43 : zall cX0_colourOf [zi_43_0, zi_43_1] := zall_w _ _ (by decide +kernel)
noncomputable def xi_43 (pc : Nat) : XIs := cond (Nat.blt pc 30) (zx zi_43_0) (zx zi_43_1)
theorem xi_ok43 (pc : Nat) : xi_ok cX0_colourOf (xi_43 pc) = true := xi_c (zq1 xi_w43) (zq1 (zq2 xi_w43))
noncomputable def zi_44_0 : ZIs := [(0, ev_21), (1, ev_257), (4, ev_13), (5, ev_7), (6, ev_13), (7, ev_21), (8, ev_214), (11, ev_262), (14, ev_278), (17, ev_279), (20, ev_13), (21, ev_10), (22, ev_280), (25, ev_13), (26, ev_281), (29, ev_10)]
noncomputable def zi_44_1 : ZIs := [(30, ev_282), (33, ev_13), (34, ev_283), (37, ev_168), (39, ev_284), (42, ev_13), (43, ev_21), (44, ev_259), (47, ev_21), (48, ev_207), (51, ev_10), (52, ev_285), (55, ev_286), (58, ev_13), (59, ev_1), (60, ev_283)]
noncomputable def zi_44_2 : ZIs := [(63, ev_7), (64, ev_22), (65, ev_279), (68, ev_287), (71, ev_10), (72, ev_288), (73, ev_10), (74, ev_289), (75, ev_190), (76, ev_21), (77, ev_290), (80, ev_291), (83, ev_13), (84, ev_277), (87, ev_190), (88, ev_13)]
noncomputable def zi_44_3 : ZIs := [(89, ev_21), (90, ev_190), (91, ev_189), (92, ev_292), (95, ev_293), (96, ev_189), (97, ev_13), (98, ev_277), (101, ev_190), (102, ev_18), (103, ev_7), (104, ev_22), (105, ev_278), (108, ev_288), (109, ev_294), (112, ev_295)]
noncomputable def zi_44_4 : ZIs := [(115, ev_253)]
set_option maxRecDepth 100000 in
theorem xi_w44 : zall cX0_makeColours [zi_44_0, zi_44_1, zi_44_2, zi_44_3, zi_44_4] := zall_w _ _ (by decide +kernel)
noncomputable def xi_44 (pc : Nat) : XIs := cond (Nat.blt pc 63) (cond (Nat.blt pc 30) (zx zi_44_0) (zx zi_44_1)) (cond (Nat.blt pc 89) (zx zi_44_2) (cond (Nat.blt pc 115) (zx zi_44_3) (zx zi_44_4)))
theorem xi_ok44 (pc : Nat) : xi_ok cX0_makeColours (xi_44 pc) = true := xi_c (xi_c (zq1 xi_w44) (zq1 (zq2 xi_w44))) (xi_c (zq1 (zq2 (zq2 xi_w44))) (xi_c (zq1 (zq2 (zq2 (zq2 xi_w44)))) (zq1 (zq2 (zq2 (zq2 (zq2 xi_w44)))))))
noncomputable def zi_45_0 : ZIs := [(0, ev_10), (1, ev_288), (2, ev_189), (3, ev_168), (5, ev_296), (8, ev_13), (9, ev_281), (12, ev_189), (13, ev_18), (14, ev_184), (15, ev_297), (16, ev_7), (17, ev_20), (18, ev_298), (21, ev_189), (22, ev_81)]
noncomputable def zi_45_1 : ZIs := [(23, ev_299), (26, ev_300), (29, ev_10), (30, ev_81)]
set_option maxRecDepth 100000 in
theorem xi_w45 : zall cX0_classOf [zi_45_0, zi_45_1] := zall_w _ _ (by decide +kernel)
noncomputable def xi_45 (pc : Nat) : XIs := cond (Nat.blt pc 23) (zx zi_45_0) (zx zi_45_1)
theorem xi_ok45 (pc : Nat) : xi_ok cX0_classOf (xi_45 pc) = true := xi_c (zq1 xi_w45) (zq1 (zq2 xi_w45))
noncomputable def zi_46_0 : ZIs := [(0, ev_190), (1, ev_168), (3, ev_301), (6, ev_10), (7, ev_81), (8, ev_13), (9, ev_302), (12, ev_11), (14, ev_13), (15, ev_21), (16, ev_189), (17, ev_230), (20, ev_25), (22, ev_10), (23, ev_28), (25, ev_265)]
noncomputable def zi_46_1 : ZIs := [(27, ev_168), (29, ev_303), (32, ev_191), (34, ev_304), (37, ev_21), (38, ev_191), (40, ev_191), (42, ev_305), (43, ev_20), (44, ev_191), (46, ev_306), (49, ev_269), (51, ev_13), (52, ev_21), (53, ev_270), (55, ev_190)]
noncomputable def zi_46_2 : ZIs := [(56, ev_232), (59, ev_307), (62, ev_10), (63, ev_308), (65, ev_309), (67, ev_13), (68, ev_283), (71, ev_310), (74, ev_13), (75, ev_281), (78, ev_309), (80, ev_311), (81, ev_18), (82, ev_189), (83, ev_245), (84, ev_312)]
noncomputable def zi_46_3 : ZIs := [(85, ev_20), (86, ev_293), (87, ev_313), (90, ev_314), (93, ev_13), (94, ev_12), (96, ev_280), (99, ev_10), (100, ev_81), (101, ev_191), (103, ev_270), (105, ev_245), (106, ev_312), (107, ev_20), (108, ev_25), (110, ev_315)]
noncomputable def zi_46_4 : ZIs := [(113, ev_316), (116, ev_13), (117, ev_21), (118, ev_12), (120, ev_317), (123, ev_7), (124, ev_81)]
set_option maxRecDepth 100000 in
theorem xi_w46 : zall cX0_fill [zi_46_0, zi_46_1, zi_46_2, zi_46_3, zi_46_4] := zall_w _ _ (by decide +kernel)
noncomputable def xi_46 (pc : Nat) : XIs := cond (Nat.blt pc 56) (cond (Nat.blt pc 27) (zx zi_46_0) (zx zi_46_1)) (cond (Nat.blt pc 85) (zx zi_46_2) (cond (Nat.blt pc 113) (zx zi_46_3) (zx zi_46_4)))
theorem xi_ok46 (pc : Nat) : xi_ok cX0_fill (xi_46 pc) = true := xi_c (xi_c (zq1 xi_w46) (zq1 (zq2 xi_w46))) (xi_c (zq1 (zq2 (zq2 xi_w46))) (xi_c (zq1 (zq2 (zq2 (zq2 xi_w46)))) (zq1 (zq2 (zq2 (zq2 (zq2 xi_w46)))))))
noncomputable def zi_47_0 : ZIs := [(0, ev_13), (1, ev_21), (2, ev_189), (3, ev_318), (6, ev_11), (8, ev_7), (9, ev_12), (11, ev_271), (12, ev_25), (14, ev_21), (15, ev_189), (16, ev_319), (19, ev_28), (21, ev_10), (22, ev_269), (24, ev_10)]
noncomputable def zi_47_1 : ZIs := [(25, ev_308), (27, ev_309), (29, ev_13), (30, ev_283), (33, ev_320), (36, ev_13), (37, ev_281), (40, ev_309), (42, ev_18), (43, ev_265), (45, ev_20), (46, ev_321), (49, ev_7), (50, ev_222), (53, ev_10), (54, ev_322)]
noncomputable def zi_47_2 : ZIs := [(56, ev_13), (57, ev_281), (60, ev_309), (62, ev_18), (63, ev_21), (64, ev_12), (66, ev_18), (67, ev_20), (68, ev_323), (71, ev_324), (73, ev_325), (76, ev_270), (78, ev_326), (81, ev_270), (83, ev_324), (85, ev_272)]
noncomputable def zi_47_3 : ZIs := [(86, ev_269), (88, ev_13), (89, ev_281), (92, ev_309), (94, ev_311), (95, ev_18), (96, ev_191), (98, ev_272), (99, ev_293), (100, ev_13), (101, ev_21), (102, ev_189), (103, ev_191), (105, ev_245), (106, ev_312), (107, ev_20)]
noncomputable def zi_47_4 : ZIs := [(108, ev_190), (109, ev_7), (110, ev_22), (111, ev_285), (114, ev_298), (117, ev_7), (118, ev_81), (119, ev_13), (120, ev_281), (123, ev_309), (125, ev_311), (126, ev_18), (127, ev_191), (129, ev_245), (130, ev_312), (131, ev_20)]
noncomputable def zi_47_5 : ZIs := [(132, ev_293), (133, ev_313), (136, ev_327), (139, ev_10), (140, ev_81)]
set_option maxRecDepth 100000 in
theorem xi_w47 : zall cX0_fillPiece [zi_47_0, zi_47_1, zi_47_2, zi_47_3, zi_47_4, zi_47_5] := zall_w _ _ (by decide +kernel)
noncomputable def xi_47 (pc : Nat) : XIs := cond (Nat.blt pc 86) (cond (Nat.blt pc 25) (zx zi_47_0) (cond (Nat.blt pc 56) (zx zi_47_1) (zx zi_47_2))) (cond (Nat.blt pc 108) (zx zi_47_3) (cond (Nat.blt pc 132) (zx zi_47_4) (zx zi_47_5)))
theorem xi_ok47 (pc : Nat) : xi_ok cX0_fillPiece (xi_47 pc) = true := xi_c (xi_c (zq1 xi_w47) (xi_c (zq1 (zq2 xi_w47)) (zq1 (zq2 (zq2 xi_w47))))) (xi_c (zq1 (zq2 (zq2 (zq2 xi_w47)))) (xi_c (zq1 (zq2 (zq2 (zq2 (zq2 xi_w47))))) (zq1 (zq2 (zq2 (zq2 (zq2 (zq2 xi_w47))))))))
noncomputable def zi_48_0 : ZIs := [(0, ev_10), (1, ev_288), (2, ev_184), (3, ev_289), (4, ev_190), (5, ev_328), (8, ev_189), (9, ev_13), (10, ev_190), (11, ev_268), (14, ev_18), (15, ev_272), (16, ev_288), (17, ev_190), (18, ev_190), (19, ev_7)]
noncomputable def zi_48_1 : ZIs := [(20, ev_16), (21, ev_20), (22, ev_289), (23, ev_329), (26, ev_189), (27, ev_81)]
set_option maxRecDepth 100000 in
theorem xi_w48 : zall cX0_besides [zi_48_0, zi_48_1] := zall_w _ _ (by decide +kernel)
noncomputable def xi_48 (pc : Nat) : XIs := cond (Nat.blt pc 20) (zx zi_48_0) (zx zi_48_1)
theorem xi_ok48 (pc : Nat) : xi_ok cX0_besides (xi_48 pc) = true := xi_c (zq1 xi_w48) (zq1 (zq2 xi_w48))
noncomputable def zi_49_0 : ZIs := [(0, ev_189), (1, ev_289), (2, ev_10), (3, ev_11), (5, ev_10), (6, ev_25), (8, ev_191), (10, ev_168), (12, ev_330), (15, ev_190), (16, ev_12), (18, ev_331), (21, ev_190), (22, ev_11), (24, ev_190), (25, ev_28)]
noncomputable def zi_49_1 : ZIs := [(27, ev_265), (29, ev_332), (32, ev_265), (34, ev_268), (37, ev_269), (39, ev_13), (40, ev_21), (41, ev_270), (43, ev_18), (44, ev_333), (47, ev_21), (48, ev_270), (50, ev_18), (51, ev_190), (52, ev_20), (53, ev_262)]
noncomputable def zi_49_2 : ZIs := [(56, ev_334), (59, ev_13), (60, ev_302), (63, ev_168), (65, ev_335), (68, ev_13), (69, ev_336), (72, ev_13), (73, ev_302), (76, ev_270), (78, ev_293), (79, ev_13), (80, ev_1), (81, ev_302), (84, ev_7), (85, ev_22)]
noncomputable def zi_49_3 : ZIs := [(86, ev_280), (89, ev_190), (90, ev_7), (91, ev_270), (93, ev_271), (94, ev_245), (95, ev_312), (96, ev_20), (97, ev_289), (98, ev_265), (100, ev_265), (102, ev_7), (103, ev_16), (104, ev_20), (105, ev_28), (107, ev_337)]
noncomputable def zi_49_4 : ZIs := [(110, ev_338), (113, ev_339), (116, ev_190), (117, ev_81)]
set_option maxRecDepth 100000 in
theorem xi_w49 : zall cX0_setAside [zi_49_0, zi_49_1, zi_49_2, zi_49_3, zi_49_4] := zall_w _ _ (by decide +kernel)
noncomputable def xi_49 (pc : Nat) : XIs := cond (Nat.blt pc 56) (cond (Nat.blt pc 27) (zx zi_49_0) (zx zi_49_1)) (cond (Nat.blt pc 86) (zx zi_49_2) (cond (Nat.blt pc 110) (zx zi_49_3) (zx zi_49_4)))
theorem xi_ok49 (pc : Nat) : xi_ok cX0_setAside (xi_49 pc) = true := xi_c (xi_c (zq1 xi_w49) (zq1 (zq2 xi_w49))) (xi_c (zq1 (zq2 (zq2 xi_w49))) (xi_c (zq1 (zq2 (zq2 (zq2 xi_w49)))) (zq1 (zq2 (zq2 (zq2 (zq2 xi_w49)))))))
noncomputable def zi_50_0 : ZIs := [(0, ev_13), (1, ev_302), (4, ev_189), (5, ev_340), (8, ev_13), (9, ev_336), (12, ev_13), (13, ev_302), (16, ev_7), (17, ev_16), (18, ev_18), (19, ev_289), (20, ev_10), (21, ev_11), (23, ev_12), (25, ev_13)]
noncomputable def zi_50_1 : ZIs := [(26, ev_283), (29, ev_7), (30, ev_16), (31, ev_341), (34, ev_13), (35, ev_281), (38, ev_12), (40, ev_18), (41, ev_21), (42, ev_190), (43, ev_18), (44, ev_20), (45, ev_342), (48, ev_343), (51, ev_344), (54, ev_13)]
noncomputable def zi_50_2 : ZIs := [(55, ev_281), (58, ev_12), (60, ev_311), (61, ev_18), (62, ev_7), (63, ev_190), (64, ev_271), (65, ev_272), (66, ev_293), (67, ev_13), (68, ev_1), (69, ev_302), (72, ev_7), (73, ev_16), (74, ev_280), (77, ev_345)]
noncomputable def zi_50_3 : ZIs := [(80, ev_253)]
set_option maxRecDepth 100000 in
theorem xi_w50 : zall cX0_takeBack [zi_50_0, zi_50_1, zi_50_2, zi_50_3] := zall_w _ _ (by decide +kernel)
noncomputable def xi_50 (pc : Nat) : XIs := cond (Nat.blt pc 55) (cond (Nat.blt pc 26) (zx zi_50_0) (zx zi_50_1)) (cond (Nat.blt pc 80) (zx zi_50_2) (zx zi_50_3))
theorem xi_ok50 (pc : Nat) : xi_ok cX0_takeBack (xi_50 pc) = true := xi_c (xi_c (zq1 xi_w50) (zq1 (zq2 xi_w50))) (xi_c (zq1 (zq2 (zq2 xi_w50))) (zq1 (zq2 (zq2 (zq2 xi_w50)))))
noncomputable def zi_51_0 : ZIs := [(0, ev_10), (1, ev_288), (2, ev_10), (3, ev_289), (4, ev_190), (5, ev_13), (6, ev_283), (9, ev_341), (12, ev_13), (13, ev_281), (16, ev_190), (17, ev_18), (18, ev_184), (19, ev_20), (20, ev_346), (23, ev_299)]
noncomputable def zi_51_1 : ZIs := [(26, ev_294), (29, ev_314), (32, ev_189), (33, ev_81)]
set_option maxRecDepth 100000 in
theorem xi_w51 : zall cX0_freeColours [zi_51_0, zi_51_1] := zall_w _ _ (by decide +kernel)
noncomputable def xi_51 (pc : Nat) : XIs := cond (Nat.blt pc 26) (zx zi_51_0) (zx zi_51_1)
theorem xi_ok51 (pc : Nat) : xi_ok cX0_freeColours (xi_51 pc) = true := xi_c (zq1 xi_w51) (zq1 (zq2 xi_w51))
noncomputable def zi_52_0 : ZIs := [(0, ev_189), (1, ev_268), (4, ev_289), (5, ev_347), (7, ev_11), (9, ev_189), (10, ev_25), (12, ev_191), (14, ev_348), (17, ev_191), (19, ev_268), (22, ev_28), (24, ev_13), (25, ev_21), (26, ev_265), (28, ev_18)]
noncomputable def zi_52_1 : ZIs := [(29, ev_333), (32, ev_349), (34, ev_350), (35, ev_21), (36, ev_265), (38, ev_18), (39, ev_189), (40, ev_20), (41, ev_262), (44, ev_16), (45, ev_269), (47, ev_270), (49, ev_12), (51, ev_351), (54, ev_270), (56, ev_11)]
noncomputable def zi_52_2 : ZIs := [(58, ev_265), (60, ev_289), (61, ev_191), (63, ev_191), (65, ev_7), (66, ev_16), (67, ev_20), (68, ev_25), (70, ev_352), (73, ev_190), (74, ev_81)]
set_option maxRecDepth 100000 in
theorem xi_w52 : zall cX0_tightest [zi_52_0, zi_52_1, zi_52_2] := zall_w _ _ (by decide +kernel)
noncomputable def xi_52 (pc : Nat) : XIs := cond (Nat.blt pc 29) (zx zi_52_0) (cond (Nat.blt pc 58) (zx zi_52_1) (zx zi_52_2))
theorem xi_ok52 (pc : Nat) : xi_ok cX0_tightest (xi_52 pc) = true := xi_c (zq1 xi_w52) (xi_c (zq1 (zq2 xi_w52)) (zq1 (zq2 (zq2 xi_w52))))
noncomputable def zi_53_0 : ZIs := [(0, ev_13), (1, ev_189), (2, ev_237), (5, ev_11), (7, ev_12), (9, ev_190), (10, ev_353), (13, ev_13), (14, ev_281), (17, ev_12), (19, ev_18), (20, ev_25), (22, ev_13), (23, ev_281), (26, ev_12), (28, ev_13)]
noncomputable def zi_53_1 : ZIs := [(29, ev_281), (32, ev_190), (33, ev_18), (34, ev_293), (35, ev_13), (36, ev_281), (39, ev_190), (40, ev_191), (42, ev_293), (43, ev_190), (44, ev_11), (46, ev_10), (47, ev_25), (49, ev_191), (51, ev_12), (53, ev_354)]
noncomputable def zi_53_2 : ZIs := [(56, ev_13), (57, ev_21), (58, ev_189), (59, ev_191), (61, ev_12), (63, ev_238), (66, ev_220), (69, ev_191), (71, ev_11), (73, ev_338), (76, ev_355), (79, ev_12), (81, ev_81)]
set_option maxRecDepth 100000 in
theorem xi_w53 : zall cX0_lessen [zi_53_0, zi_53_1, zi_53_2] := zall_w _ _ (by decide +kernel)
noncomputable def xi_53 (pc : Nat) : XIs := cond (Nat.blt pc 29) (zx zi_53_0) (cond (Nat.blt pc 56) (zx zi_53_1) (zx zi_53_2))
theorem xi_ok53 (pc : Nat) : xi_ok cX0_lessen (xi_53 pc) = true := xi_c (zq1 xi_w53) (xi_c (zq1 (zq2 xi_w53)) (zq1 (zq2 (zq2 xi_w53))))
noncomputable def zi_54_0 : ZIs := [(0, ev_7), (1, ev_189), (2, ev_271), (3, ev_25), (5, ev_191), (7, ev_7), (8, ev_16), (9, ev_28), (11, ev_13), (12, ev_281), (15, ev_190), (16, ev_18), (17, ev_21), (18, ev_259), (21, ev_189), (22, ev_18)]
noncomputable def zi_54_1 : ZIs := [(23, ev_20), (24, ev_265), (26, ev_20), (27, ev_298), (30, ev_10), (31, ev_81), (32, ev_21), (33, ev_259), (36, ev_191), (38, ev_13), (39, ev_281), (42, ev_190), (43, ev_18), (44, ev_13), (45, ev_281), (48, ev_12)]
noncomputable def zi_54_2 : ZIs := [(50, ev_18), (51, ev_272), (52, ev_306), (55, ev_269), (57, ev_270), (59, ev_265), (61, ev_20), (62, ev_356), (65, ev_13), (66, ev_281), (69, ev_190), (70, ev_311), (71, ev_18), (72, ev_270), (74, ev_312), (75, ev_293)]
noncomputable def zi_54_3 : ZIs := [(76, ev_13), (77, ev_281), (80, ev_12), (82, ev_311), (83, ev_18), (84, ev_270), (86, ev_312), (87, ev_293), (88, ev_7), (89, ev_81), (90, ev_13), (91, ev_281), (94, ev_10), (95, ev_13), (96, ev_357), (99, ev_10)]
noncomputable def zi_54_4 : ZIs := [(100, ev_168), (102, ev_358), (105, ev_10), (106, ev_308), (108, ev_309), (110, ev_13), (111, ev_283), (114, ev_359), (117, ev_13), (118, ev_281), (121, ev_309), (123, ev_311), (124, ev_18), (125, ev_265), (127, ev_20), (128, ev_293)]
noncomputable def zi_54_5 : ZIs := [(129, ev_313), (132, ev_300), (135, ev_13), (136, ev_281), (139, ev_190), (140, ev_311), (141, ev_18), (142, ev_191), (144, ev_272), (145, ev_293), (146, ev_13), (147, ev_21), (148, ev_259), (151, ev_21), (152, ev_207), (155, ev_265)]
noncomputable def zi_54_6 : ZIs := [(157, ev_245), (158, ev_312), (159, ev_20), (160, ev_191), (162, ev_245), (163, ev_312), (164, ev_20), (165, ev_10), (166, ev_285), (169, ev_298), (172, ev_7), (173, ev_81), (174, ev_13), (175, ev_357), (178, ev_10), (179, ev_13)]
noncomputable def zi_54_7 : ZIs := [(180, ev_281), (183, ev_10), (184, ev_168), (186, ev_358), (189, ev_10), (190, ev_81)]
set_option maxRecDepth 100000 in
theorem xi_w54 : zall cX0_canLower [zi_54_0, zi_54_1, zi_54_2, zi_54_3, zi_54_4, zi_54_5, zi_54_6, zi_54_7] := zall_w _ _ (by decide +kernel)
noncomputable def xi_54 (pc : Nat) : XIs := cond (Nat.blt pc 100) (cond (Nat.blt pc 50) (cond (Nat.blt pc 23) (zx zi_54_0) (zx zi_54_1)) (cond (Nat.blt pc 76) (zx zi_54_2) (zx zi_54_3))) (cond (Nat.blt pc 157) (cond (Nat.blt pc 129) (zx zi_54_4) (zx zi_54_5)) (cond (Nat.blt pc 180) (zx zi_54_6) (zx zi_54_7)))
theorem xi_ok54 (pc : Nat) : xi_ok cX0_canLower (xi_54 pc) = true := xi_c (xi_c (xi_c (zq1 xi_w54) (zq1 (zq2 xi_w54))) (xi_c (zq1 (zq2 (zq2 xi_w54))) (zq1 (zq2 (zq2 (zq2 xi_w54)))))) (xi_c (xi_c (zq1 (zq2 (zq2 (zq2 (zq2 xi_w54))))) (zq1 (zq2 (zq2 (zq2 (zq2 (zq2 xi_w54))))))) (xi_c (zq1 (zq2 (zq2 (zq2 (zq2 (zq2 (zq2 xi_w54))))))) (zq1 (zq2 (zq2 (zq2 (zq2 (zq2 (zq2 (zq2 xi_w54))))))))))
noncomputable def zi_55_0 : ZIs := [(0, ev_13), (1, ev_360), (4, ev_13), (5, ev_361), (7, ev_248), (9, ev_362), (12, ev_13), (13, ev_7), (14, ev_247), (17, ev_13), (18, ev_30), (19, ev_363), (22, ev_13), (23, ev_361), (25, ev_248), (27, ev_250)]
noncomputable def zi_55_1 : ZIs := [(30, ev_13), (31, ev_361), (33, ev_8), (35, ev_251), (38, ev_13), (39, ev_364), (41, ev_8), (43, ev_365), (46, ev_13), (47, ev_168), (49, ev_8), (51, ev_366), (54, ev_13), (55, ev_168), (57, ev_8), (59, ev_367)]
noncomputable def zi_55_2 : ZIs := [(62, ev_253)]
set_option maxRecDepth 100000 in
theorem xi_w55 : zall cX1_init [zi_55_0, zi_55_1, zi_55_2] := zall_w _ _ (by decide +kernel)
noncomputable def xi_55 (pc : Nat) : XIs := cond (Nat.blt pc 30) (zx zi_55_0) (cond (Nat.blt pc 62) (zx zi_55_1) (zx zi_55_2))
theorem xi_ok55 (pc : Nat) : xi_ok cX1_init (xi_55 pc) = true := xi_c (zq1 xi_w55) (xi_c (zq1 (zq2 xi_w55)) (zq1 (zq2 (zq2 xi_w55))))
noncomputable def zi_56_0 : ZIs := [(0, ev_21), (1, ev_204), (4, ev_21), (5, ev_368), (8, ev_361), (10, ev_369), (13, ev_21), (14, ev_30), (15, ev_361), (17, ev_370), (20, ev_81), (21, ev_13), (22, ev_10), (23, ev_371), (26, ev_21), (27, ev_15)]
noncomputable def zi_56_1 : ZIs := [(29, ev_10), (30, ev_372), (33, ev_13), (34, ev_21), (35, ev_10), (36, ev_211), (39, ev_373), (42, ev_10), (43, ev_81), (44, ev_21), (45, ev_374), (47, ev_375), (50, ev_376), (53, ev_21), (54, ev_30), (55, ev_32)]
noncomputable def zi_56_2 : ZIs := [(56, ev_377), (59, ev_81), (60, ev_13), (61, ev_378), (64, ev_288), (65, ev_21), (66, ev_15), (68, ev_10), (69, ev_372), (72, ev_13), (73, ev_21), (74, ev_10), (75, ev_211), (78, ev_373), (81, ev_10), (82, ev_81)]
noncomputable def zi_56_3 : ZIs := [(83, ev_21), (84, ev_379), (87, ev_380), (90, ev_21), (91, ev_30), (92, ev_32), (93, ev_377), (96, ev_81), (97, ev_13), (98, ev_189), (99, ev_247), (102, ev_13), (103, ev_13), (104, ev_378), (107, ev_363), (110, ev_13)]
noncomputable def zi_56_4 : ZIs := [(111, ev_357), (114, ev_10), (115, ev_13), (116, ev_381), (119, ev_10), (120, ev_13), (121, ev_378), (124, ev_382), (127, ev_7), (128, ev_81)]
set_option maxRecDepth 100000 in
theorem xi_w56 : zall cX1_adopt [zi_56_0, zi_56_1, zi_56_2, zi_56_3, zi_56_4] := zall_w _ _ (by decide +kernel)
noncomputable def xi_56 (pc : Nat) : XIs := cond (Nat.blt pc 56) (cond (Nat.blt pc 29) (zx zi_56_0) (zx zi_56_1)) (cond (Nat.blt pc 83) (zx zi_56_2) (cond (Nat.blt pc 111) (zx zi_56_3) (zx zi_56_4)))
theorem xi_ok56 (pc : Nat) : xi_ok cX1_adopt (xi_56 pc) = true := xi_c (xi_c (zq1 xi_w56) (zq1 (zq2 xi_w56))) (xi_c (zq1 (zq2 (zq2 xi_w56))) (xi_c (zq1 (zq2 (zq2 (zq2 xi_w56)))) (zq1 (zq2 (zq2 (zq2 (zq2 xi_w56)))))))
noncomputable def zi_57_0 : ZIs := [(0, ev_13), (1, ev_378), (4, ev_361), (6, ev_341), (9, ev_13), (10, ev_357), (13, ev_13), (14, ev_378), (17, ev_184), (18, ev_293), (19, ev_13), (20, ev_1), (21, ev_378), (24, ev_7), (25, ev_22), (26, ev_371)]
noncomputable def zi_57_1 : ZIs := [(29, ev_7), (30, ev_81)]
set_option maxRecDepth 100000 in
theorem xi_w57 : zall cX1_emit [zi_57_0, zi_57_1] := zall_w _ _ (by decide +kernel)
noncomputable def xi_57 (pc : Nat) : XIs := cond (Nat.blt pc 29) (zx zi_57_0) (zx zi_57_1)
theorem xi_ok57 (pc : Nat) : xi_ok cX1_emit (xi_57 pc) = true := xi_c (zq1 xi_w57) (zq1 (zq2 xi_w57))
noncomputable def zi_58_0 : ZIs := [(0, ev_13), (1, ev_21), (2, ev_189), (3, ev_383), (6, ev_373), (9, ev_10), (10, ev_81), (11, ev_21), (12, ev_384), (14, ev_375), (17, ev_385), (20, ev_21), (21, ev_386), (23, ev_375), (26, ev_373), (29, ev_7)]
noncomputable def zi_58_1 : ZIs := [(30, ev_81), (31, ev_21), (32, ev_387), (35, ev_289), (36, ev_21), (37, ev_15), (39, ev_10), (40, ev_372), (43, ev_13), (44, ev_21), (45, ev_189), (46, ev_383), (49, ev_388), (52, ev_13), (53, ev_389), (55, ev_190)]
noncomputable def zi_58_2 : ZIs := [(56, ev_22), (57, ev_390), (60, ev_220), (63, ev_7), (64, ev_222), (67, ev_10), (68, ev_81)]
set_option maxRecDepth 100000 in
theorem xi_w58 : zall cX1_readExpression [zi_58_0, zi_58_1, zi_58_2] := zall_w _ _ (by decide +kernel)
noncomputable def xi_58 (pc : Nat) : XIs := cond (Nat.blt pc 30) (zx zi_58_0) (cond (Nat.blt pc 56) (zx zi_58_1) (zx zi_58_2))
theorem xi_ok58 (pc : Nat) : xi_ok cX1_readExpression (xi_58 pc) = true := xi_c (zq1 xi_w58) (xi_c (zq1 (zq2 xi_w58)) (zq1 (zq2 (zq2 xi_w58))))
noncomputable def zi_59_0 : ZIs := [(0, ev_13), (1, ev_21), (2, ev_189), (3, ev_391), (6, ev_373), (9, ev_10), (10, ev_81), (11, ev_10), (12, ev_289), (13, ev_190), (14, ev_361), (16, ev_392), (19, ev_21), (20, ev_393), (22, ev_375), (25, ev_394)]
noncomputable def zi_59_1 : ZIs := [(28, ev_21), (29, ev_395), (31, ev_375), (34, ev_396), (37, ev_21), (38, ev_387), (41, ev_11), (43, ev_21), (44, ev_15), (46, ev_10), (47, ev_372), (50, ev_13), (51, ev_21), (52, ev_189), (53, ev_391), (56, ev_373)]
noncomputable def zi_59_2 : ZIs := [(59, ev_10), (60, ev_81), (61, ev_13), (62, ev_389), (64, ev_12), (66, ev_22), (67, ev_390), (70, ev_50), (71, ev_294), (74, ev_397), (77, ev_7), (78, ev_81)]
set_option maxRecDepth 100000 in
theorem xi_w59 : zall cX1_readSum [zi_59_0, zi_59_1, zi_59_2] := zall_w _ _ (by decide +kernel)
noncomputable def xi_59 (pc : Nat) : XIs := cond (Nat.blt pc 28) (zx zi_59_0) (cond (Nat.blt pc 59) (zx zi_59_1) (zx zi_59_2))
theorem xi_ok59 (pc : Nat) : xi_ok cX1_readSum (xi_59 pc) = true := xi_c (zq1 xi_w59) (xi_c (zq1 (zq2 xi_w59)) (zq1 (zq2 (zq2 xi_w59))))
noncomputable def zi_60_0 : ZIs := [(0, ev_13), (1, ev_21), (2, ev_189), (3, ev_398), (6, ev_373), (9, ev_10), (10, ev_81), (11, ev_10), (12, ev_289), (13, ev_190), (14, ev_361), (16, ev_399), (19, ev_21), (20, ev_400), (22, ev_375), (25, ev_401)]
noncomputable def zi_60_1 : ZIs := [(28, ev_21), (29, ev_15), (31, ev_10), (32, ev_372), (35, ev_13), (36, ev_21), (37, ev_189), (38, ev_398), (41, ev_373), (44, ev_10), (45, ev_81), (46, ev_13), (47, ev_402), (49, ev_390), (52, ev_50), (53, ev_294)]
noncomputable def zi_60_2 : ZIs := [(56, ev_403), (59, ev_7), (60, ev_81)]
set_option maxRecDepth 100000 in
theorem xi_w60 : zall cX1_readProduct [zi_60_0, zi_60_1, zi_60_2] := zall_w _ _ (by decide +kernel)
noncomputable def xi_60 (pc : Nat) : XIs := cond (Nat.blt pc 28) (zx zi_60_0) (cond (Nat.blt pc 56) (zx zi_60_1) (zx zi_60_2))
theorem xi_ok60 (pc : Nat) : xi_ok cX1_readProduct (xi_60 pc) = true := xi_c (zq1 xi_w60) (xi_c (zq1 (zq2 xi_w60)) (zq1 (zq2 (zq2 xi_w60))))
noncomputable def zi_61_0 : ZIs := [(0, ev_21), (1, ev_379), (4, ev_30), (5, ev_404), (8, ev_21), (9, ev_379), (12, ev_7), (13, ev_405), (16, ev_13), (17, ev_21), (18, ev_292), (21, ev_81), (22, ev_21), (23, ev_395), (25, ev_375), (28, ev_289)]
noncomputable def zi_61_1 : ZIs := [(29, ev_190), (30, ev_406), (33, ev_21), (34, ev_407), (36, ev_375), (39, ev_376), (42, ev_21), (43, ev_30), (44, ev_32), (45, ev_377), (48, ev_81), (49, ev_189), (50, ev_408), (52, ev_409), (55, ev_21), (56, ev_31)]
noncomputable def zi_61_2 : ZIs := [(57, ev_21), (58, ev_410), (61, ev_370), (64, ev_81), (65, ev_21), (66, ev_15), (68, ev_10), (69, ev_372), (72, ev_190), (73, ev_411), (76, ev_13), (77, ev_21), (78, ev_189), (79, ev_7), (80, ev_22), (81, ev_398)]
noncomputable def zi_61_3 : ZIs := [(84, ev_412), (87, ev_13), (88, ev_413), (90, ev_390), (93, ev_220), (96, ev_7), (97, ev_222), (100, ev_10), (101, ev_81), (102, ev_13), (103, ev_21), (104, ev_189), (105, ev_7), (106, ev_22), (107, ev_211), (110, ev_373)]
noncomputable def zi_61_4 : ZIs := [(113, ev_10), (114, ev_81), (115, ev_21), (116, ev_414), (118, ev_375), (121, ev_376), (124, ev_21), (125, ev_30), (126, ev_32), (127, ev_377), (130, ev_81), (131, ev_21), (132, ev_15), (134, ev_10), (135, ev_372), (138, ev_7)]
noncomputable def zi_61_5 : ZIs := [(139, ev_81)]
set_option maxRecDepth 100000 in
theorem xi_w61 : zall cX1_readFactor [zi_61_0, zi_61_1, zi_61_2, zi_61_3, zi_61_4, zi_61_5] := zall_w _ _ (by decide +kernel)
noncomputable def xi_61 (pc : Nat) : XIs := cond (Nat.blt pc 84) (cond (Nat.blt pc 29) (zx zi_61_0) (cond (Nat.blt pc 57) (zx zi_61_1) (zx zi_61_2))) (cond (Nat.blt pc 113) (zx zi_61_3) (cond (Nat.blt pc 139) (zx zi_61_4) (zx zi_61_5)))
theorem xi_ok61 (pc : Nat) : xi_ok cX1_readFactor (xi_61 pc) = true := xi_c (xi_c (zq1 xi_w61) (xi_c (zq1 (zq2 xi_w61)) (zq1 (zq2 (zq2 xi_w61))))) (xi_c (zq1 (zq2 (zq2 (zq2 xi_w61)))) (xi_c (zq1 (zq2 (zq2 (zq2 (zq2 xi_w61))))) (zq1 (zq2 (zq2 (zq2 (zq2 (zq2 xi_w61))))))))
noncomputable def zi_62_0 : ZIs := [(0, ev_21), (1, ev_387), (4, ev_288), (5, ev_21), (6, ev_379), (9, ev_7), (10, ev_415), (13, ev_416), (15, ev_417), (17, ev_21), (18, ev_387), (21, ev_22), (22, ev_418), (23, ev_419), (26, ev_289), (27, ev_190)]
noncomputable def zi_62_1 : ZIs := [(28, ev_420), (31, ev_21), (32, ev_33), (33, ev_21), (34, ev_410), (37, ev_370), (40, ev_81), (41, ev_421), (43, ev_190), (44, ev_22), (45, ev_288), (46, ev_13), (47, ev_189), (48, ev_390), (51, ev_50), (52, ev_21)]
noncomputable def zi_62_2 : ZIs := [(53, ev_15), (55, ev_10), (56, ev_372), (59, ev_7), (60, ev_81)]
set_option maxRecDepth 100000 in
theorem xi_w62 : zall cX1_readAtom [zi_62_0, zi_62_1, zi_62_2] := zall_w _ _ (by decide +kernel)
noncomputable def xi_62 (pc : Nat) : XIs := cond (Nat.blt pc 28) (zx zi_62_0) (cond (Nat.blt pc 53) (zx zi_62_1) (zx zi_62_2))
theorem xi_ok62 (pc : Nat) : xi_ok cX1_readAtom (xi_62 pc) = true := xi_c (zq1 xi_w62) (xi_c (zq1 (zq2 xi_w62)) (zq1 (zq2 (zq2 xi_w62))))
noncomputable def zi_63_0 : ZIs := [(0, ev_21), (1, ev_422), (4, ev_13), (5, ev_21), (6, ev_423), (9, ev_424), (12, ev_13), (13, ev_425), (16, ev_223), (17, ev_426), (20, ev_13), (21, ev_21), (22, ev_10), (23, ev_427), (26, ev_50), (27, ev_7)]
noncomputable def zi_63_1 : ZIs := [(28, ev_289), (29, ev_190), (30, ev_189), (31, ev_428), (34, ev_13), (35, ev_429), (38, ev_10), (39, ev_13), (40, ev_425), (43, ev_10), (44, ev_168), (46, ev_382), (49, ev_13), (50, ev_21), (51, ev_190), (52, ev_427)]
noncomputable def zi_63_2 : ZIs := [(55, ev_373), (58, ev_190), (59, ev_81), (60, ev_294), (63, ev_430), (66, ev_189), (67, ev_81)]
set_option maxRecDepth 100000 in
theorem xi_w63 : zall cX1_work [zi_63_0, zi_63_1, zi_63_2] := zall_w _ _ (by decide +kernel)
noncomputable def xi_63 (pc : Nat) : XIs := cond (Nat.blt pc 28) (zx zi_63_0) (cond (Nat.blt pc 55) (zx zi_63_1) (zx zi_63_2))
theorem xi_ok63 (pc : Nat) : xi_ok cX1_work (xi_63 pc) = true := xi_c (zq1 xi_w63) (xi_c (zq1 (zq2 xi_w63)) (zq1 (zq2 (zq2 xi_w63))))
noncomputable def zi_64_0 : ZIs := [(0, ev_10), (1, ev_289), (2, ev_10), (3, ev_11), (5, ev_12), (7, ev_21), (8, ev_423), (11, ev_431), (14, ev_13), (15, ev_21), (16, ev_12), (18, ev_189), (19, ev_432), (22, ev_13), (23, ev_429), (26, ev_12)]
noncomputable def zi_64_1 : ZIs := [(28, ev_189), (29, ev_433), (32, ev_13), (33, ev_10), (34, ev_13), (35, ev_274), (38, ev_434), (41, ev_435), (44, ev_13), (45, ev_13), (46, ev_274), (49, ev_13), (50, ev_436), (53, ev_434), (56, ev_186), (57, ev_190)]
noncomputable def zi_64_2 : ZIs := [(58, ev_13), (59, ev_429), (62, ev_12), (64, ev_437), (65, ev_13), (66, ev_425), (69, ev_12), (71, ev_437), (72, ev_438), (73, ev_220), (76, ev_7), (77, ev_222), (80, ev_10), (81, ev_272), (82, ev_289), (83, ev_343)]
noncomputable def zi_64_3 : ZIs := [(86, ev_439), (89, ev_190), (90, ev_81)]
set_option maxRecDepth 100000 in
theorem xi_w64 : zall cX1_doRound [zi_64_0, zi_64_1, zi_64_2, zi_64_3] := zall_w _ _ (by decide +kernel)
noncomputable def xi_64 (pc : Nat) : XIs := cond (Nat.blt pc 58) (cond (Nat.blt pc 28) (zx zi_64_0) (zx zi_64_1)) (cond (Nat.blt pc 86) (zx zi_64_2) (zx zi_64_3))
theorem xi_ok64 (pc : Nat) : xi_ok cX1_doRound (xi_64 pc) = true := xi_c (xi_c (zq1 xi_w64) (zq1 (zq2 xi_w64))) (xi_c (zq1 (zq2 (zq2 xi_w64))) (zq1 (zq2 (zq2 (zq2 xi_w64)))))
noncomputable def zi_65_0 : ZIs := [(0, ev_223), (1, ev_440), (3, ev_441), (6, ev_58), (8, ev_442), (11, ev_443), (13, ev_21), (14, ev_444), (17, ev_189), (18, ev_18), (19, ev_445), (21, ev_446), (23, ev_21), (24, ev_444), (27, ev_189), (28, ev_7)]
noncomputable def zi_65_1 : ZIs := [(29, ev_22), (30, ev_18), (31, ev_447), (34, ev_21), (35, ev_448), (38, ev_446), (40, ev_18), (41, ev_449), (43, ev_13), (44, ev_425), (47, ev_21), (48, ev_450), (51, ev_451), (53, ev_18), (54, ev_437), (55, ev_452)]
noncomputable def zi_65_2 : ZIs := [(57, ev_453), (59, ev_21), (60, ev_454), (63, ev_451), (65, ev_18), (66, ev_167), (67, ev_455), (68, ev_456), (71, ev_457), (73, ev_240), (75, ev_453), (77, ev_455), (78, ev_440), (80, ev_458), (82, ev_459), (84, ev_40)]
noncomputable def zi_65_3 : ZIs := [(87, ev_58), (89, ev_460), (91, ev_459), (93, ev_461), (96, ev_443), (98, ev_462), (101, ev_337), (104, ev_13), (105, ev_463), (108, ev_10), (109, ev_13), (110, ev_425), (113, ev_189), (114, ev_437), (115, ev_186), (116, ev_13)]
noncomputable def zi_65_4 : ZIs := [(117, ev_463), (120, ev_7), (121, ev_189), (122, ev_167), (123, ev_186), (124, ev_13), (125, ev_463), (128, ev_30), (129, ev_21), (130, ev_464), (133, ev_189), (134, ev_18), (135, ev_167), (136, ev_186), (137, ev_13), (138, ev_463)]
noncomputable def zi_65_5 : ZIs := [(141, ev_31), (142, ev_21), (143, ev_189), (144, ev_465), (147, ev_167), (148, ev_186), (149, ev_13), (150, ev_463), (153, ev_32), (154, ev_21), (155, ev_189), (156, ev_51), (159, ev_167), (160, ev_186), (161, ev_13), (162, ev_463)]
noncomputable def zi_65_6 : ZIs := [(165, ev_33), (166, ev_190), (167, ev_167), (168, ev_186), (169, ev_13), (170, ev_463), (173, ev_15), (175, ev_240), (177, ev_456), (180, ev_186), (181, ev_13), (182, ev_463), (185, ev_466), (187, ev_458), (189, ev_186), (190, ev_13)]
noncomputable def zi_65_7 : ZIs := [(191, ev_463), (194, ev_467), (196, ev_460), (198, ev_186), (199, ev_253)]
set_option maxRecDepth 100000 in
theorem xi_w65 : zall cX1_look [zi_65_0, zi_65_1, zi_65_2, zi_65_3, zi_65_4, zi_65_5, zi_65_6, zi_65_7] := zall_w _ _ (by decide +kernel)
noncomputable def xi_65 (pc : Nat) : XIs := cond (Nat.blt pc 117) (cond (Nat.blt pc 57) (cond (Nat.blt pc 29) (zx zi_65_0) (zx zi_65_1)) (cond (Nat.blt pc 87) (zx zi_65_2) (zx zi_65_3))) (cond (Nat.blt pc 165) (cond (Nat.blt pc 141) (zx zi_65_4) (zx zi_65_5)) (cond (Nat.blt pc 191) (zx zi_65_6) (zx zi_65_7)))
theorem xi_ok65 (pc : Nat) : xi_ok cX1_look (xi_65 pc) = true := xi_c (xi_c (xi_c (zq1 xi_w65) (zq1 (zq2 xi_w65))) (xi_c (zq1 (zq2 (zq2 xi_w65))) (zq1 (zq2 (zq2 (zq2 xi_w65)))))) (xi_c (xi_c (zq1 (zq2 (zq2 (zq2 (zq2 xi_w65))))) (zq1 (zq2 (zq2 (zq2 (zq2 (zq2 xi_w65))))))) (xi_c (zq1 (zq2 (zq2 (zq2 (zq2 (zq2 (zq2 xi_w65))))))) (zq1 (zq2 (zq2 (zq2 (zq2 (zq2 (zq2 (zq2 xi_w65))))))))))
noncomputable def zi_66_0 : ZIs := [(0, ev_10), (1, ev_289), (2, ev_184), (3, ev_11), (5, ev_12), (7, ev_189), (8, ev_468), (11, ev_13), (12, ev_381), (15, ev_12), (17, ev_18), (18, ev_25), (20, ev_191), (22, ev_389), (24, ev_469), (27, ev_13)]
noncomputable def zi_66_1 : ZIs := [(28, ev_336), (31, ev_190), (32, ev_191), (34, ev_421), (36, ev_470), (39, ev_191), (41, ev_167), (42, ev_471), (45, ev_13), (46, ev_463), (49, ev_191), (51, ev_421), (53, ev_16), (54, ev_437), (55, ev_186), (56, ev_294)]
noncomputable def zi_66_2 : ZIs := [(59, ev_472), (62, ev_191), (64, ev_413), (66, ev_473), (69, ev_13), (70, ev_336), (73, ev_190), (74, ev_7), (75, ev_16), (76, ev_13), (77, ev_336), (80, ev_190), (81, ev_7), (82, ev_16), (83, ev_437), (84, ev_474)]
noncomputable def zi_66_3 : ZIs := [(85, ev_186), (86, ev_475), (89, ev_476), (92, ev_13), (93, ev_336), (96, ev_190), (97, ev_7), (98, ev_16), (99, ev_191), (101, ev_389), (103, ev_16), (104, ev_13), (105, ev_336), (108, ev_190), (109, ev_7), (110, ev_16)]
noncomputable def zi_66_4 : ZIs := [(111, ev_437), (112, ev_13), (113, ev_336), (116, ev_190), (117, ev_437), (118, ev_477), (121, ev_186), (122, ev_343), (125, ev_478), (128, ev_13), (129, ev_336), (132, ev_10), (133, ev_437), (134, ev_479)]
set_option maxRecDepth 100000 in
theorem xi_w66 : zall cX1_compute [zi_66_0, zi_66_1, zi_66_2, zi_66_3, zi_66_4] := zall_w _ _ (by decide +kernel)
noncomputable def xi_66 (pc : Nat) : XIs := cond (Nat.blt pc 59) (cond (Nat.blt pc 28) (zx zi_66_0) (zx zi_66_1)) (cond (Nat.blt pc 85) (zx zi_66_2) (cond (Nat.blt pc 111) (zx zi_66_3) (zx zi_66_4)))
theorem xi_ok66 (pc : Nat) : xi_ok cX1_compute (xi_66 pc) = true := xi_c (xi_c (zq1 xi_w66) (zq1 (zq2 xi_w66))) (xi_c (zq1 (zq2 (zq2 xi_w66))) (xi_c (zq1 (zq2 (zq2 (zq2 xi_w66)))) (zq1 (zq2 (zq2 (zq2 (zq2 xi_w66)))))))
noncomputable def zi_67_0 : ZIs := [(0, ev_480)]
noncomputable def xi_67_1 : XIs := [(1, .lookupswitch 75 #[(42, 57), (43, 43), (45, 50), (60, 63)], 43)]
set_option maxRecDepth 100000 in
theorem xi_ok67_1 : xi_ok cX1_combine xi_67_1 = true := by decide +kernel
noncomputable def zi_67_2 : ZIs := [(44, ev_481), (45, ev_482), (46, ev_455), (47, ev_456), (50, ev_479), (51, ev_481), (52, ev_482), (53, ev_483), (54, ev_456), (57, ev_479), (58, ev_481), (59, ev_482), (60, ev_60), (63, ev_479), (64, ev_481), (65, ev_482)]
noncomputable def zi_67_3 : ZIs := [(66, ev_438), (67, ev_484), (70, ev_221), (71, ev_222), (74, ev_223), (75, ev_479), (76, ev_481), (77, ev_482), (78, ev_438), (79, ev_321), (82, ev_221), (83, ev_222), (86, ev_223), (87, ev_479)]
set_option maxRecDepth 100000 in
theorem xi_w67 : zall cX1_combine [zi_67_0, zi_67_2, zi_67_3] := zall_w _ _ (by decide +kernel)
noncomputable def xi_67 (pc : Nat) : XIs := cond (Nat.blt pc 44) (cond (Nat.blt pc 1) (zx zi_67_0) (xi_67_1)) (cond (Nat.blt pc 66) (zx zi_67_2) (zx zi_67_3))
theorem xi_ok67 (pc : Nat) : xi_ok cX1_combine (xi_67 pc) = true := xi_c (xi_c (zq1 xi_w67) (xi_ok67_1)) (xi_c (zq1 (zq2 xi_w67)) (zq1 (zq2 (zq2 xi_w67))))
noncomputable def zi_68_0 : ZIs := [(0, ev_485), (1, ev_223), (2, ev_438), (3, ev_486), (6, ev_487), (7, ev_63), (10, ev_441), (13, ev_485), (14, ev_63), (17, ev_488), (18, ev_438), (19, ev_489), (22, ev_485), (23, ev_487), (24, ev_490), (25, ev_479)]
noncomputable def zi_68_1 : ZIs := [(26, ev_485), (27, ev_223), (28, ev_438), (29, ev_491), (32, ev_7), (33, ev_222), (36, ev_10), (37, ev_487), (38, ev_223), (39, ev_438), (40, ev_491), (43, ev_7), (44, ev_222), (47, ev_10), (48, ev_405), (51, ev_441)]
noncomputable def zi_68_2 : ZIs := [(54, ev_202), (57, ev_442), (60, ev_479)]
set_option maxRecDepth 100000 in
theorem xi_w68 : zall cX1_times [zi_68_0, zi_68_1, zi_68_2] := zall_w _ _ (by decide +kernel)
noncomputable def xi_68 (pc : Nat) : XIs := cond (Nat.blt pc 26) (zx zi_68_0) (cond (Nat.blt pc 54) (zx zi_68_1) (zx zi_68_2))
theorem xi_ok68 (pc : Nat) : xi_ok cX1_times (xi_68 pc) = true := xi_c (zq1 xi_w68) (xi_c (zq1 (zq2 xi_w68)) (zq1 (zq2 (zq2 xi_w68))))
noncomputable def zi_69_0 : ZIs := [(0, ev_442), (3, ev_441), (6, ev_485), (7, ev_40), (10, ev_461), (13, ev_479)]
set_option maxRecDepth 100000 in
theorem xi_w69 : zall cX1_clip [zi_69_0] := zall_w _ _ (by decide +kernel)
noncomputable def xi_69 (pc : Nat) : XIs := zx zi_69_0
theorem xi_ok69 (pc : Nat) : xi_ok cX1_clip (xi_69 pc) = true := zq1 xi_w69
noncomputable def zi_70_0 : ZIs := [(0, ev_13), (1, ev_10), (2, ev_492), (5, ev_13), (6, ev_10), (7, ev_493), (10, ev_13), (11, ev_10), (12, ev_494), (15, ev_21), (16, ev_190), (17, ev_495), (20, ev_269), (22, ev_10), (23, ev_308), (25, ev_309)]
noncomputable def zi_70_1 : ZIs := [(27, ev_189), (28, ev_496), (31, ev_270), (33, ev_322), (35, ev_10), (36, ev_445), (38, ev_446), (40, ev_421), (42, ev_497), (45, ev_324), (47, ev_498), (50, ev_13), (51, ev_324), (53, ev_12), (55, ev_499), (57, ev_76)]
noncomputable def zi_70_2 : ZIs := [(60, ev_322), (62, ev_13), (63, ev_1), (64, ev_500), (67, ev_7), (68, ev_22), (69, ev_494), (72, ev_462), (75, ev_295), (78, ev_313), (81, ev_501), (84, ev_253)]
set_option maxRecDepth 100000 in
theorem xi_w70 : zall cX1_post [zi_70_0, zi_70_1, zi_70_2] := zall_w _ _ (by decide +kernel)
noncomputable def xi_70 (pc : Nat) : XIs := cond (Nat.blt pc 27) (zx zi_70_0) (cond (Nat.blt pc 60) (zx zi_70_1) (zx zi_70_2))
theorem xi_ok70 (pc : Nat) : xi_ok cX1_post (xi_70 pc) = true := xi_c (zq1 xi_w70) (xi_c (zq1 (zq2 xi_w70)) (zq1 (zq2 (zq2 xi_w70))))
noncomputable def zi_71_0 : ZIs := [(0, ev_184), (1, ev_7), (2, ev_502), (5, ev_10), (6, ev_81), (7, ev_10), (8, ev_288), (9, ev_10), (10, ev_289), (11, ev_190), (12, ev_13), (13, ev_423), (16, ev_503), (19, ev_10), (20, ev_11), (22, ev_13)]
noncomputable def zi_71_1 : ZIs := [(23, ev_504), (26, ev_190), (27, ev_18), (28, ev_25), (30, ev_191), (32, ev_411), (35, ev_12), (37, ev_7), (38, ev_191), (40, ev_505), (43, ev_184), (44, ev_506), (45, ev_271), (46, ev_272), (47, ev_11), (49, ev_191)]
noncomputable def zi_71_2 : ZIs := [(51, ev_191), (53, ev_7), (54, ev_16), (55, ev_20), (56, ev_25), (58, ev_344), (61, ev_189), (62, ev_12), (64, ev_7), (65, ev_190), (66, ev_184), (67, ev_506), (68, ev_271), (69, ev_245), (70, ev_312), (71, ev_20)]
noncomputable def zi_71_3 : ZIs := [(72, ev_507), (75, ev_22), (76, ev_288), (77, ev_294), (80, ev_508), (83, ev_189), (84, ev_81)]
set_option maxRecDepth 100000 in
theorem xi_w71 : zall cX1_lettersOf [zi_71_0, zi_71_1, zi_71_2, zi_71_3] := zall_w _ _ (by decide +kernel)
noncomputable def xi_71 (pc : Nat) : XIs := cond (Nat.blt pc 51) (cond (Nat.blt pc 23) (zx zi_71_0) (zx zi_71_1)) (cond (Nat.blt pc 72) (zx zi_71_2) (zx zi_71_3))
theorem xi_ok71 (pc : Nat) : xi_ok cX1_lettersOf (xi_71 pc) = true := xi_c (xi_c (zq1 xi_w71) (zq1 (zq2 xi_w71))) (xi_c (zq1 (zq2 (zq2 xi_w71))) (zq1 (zq2 (zq2 (zq2 xi_w71)))))
noncomputable def zi_72_0 : ZIs := [(0, ev_10), (1, ev_25), (3, ev_10), (4, ev_28), (6, ev_265), (8, ev_184), (9, ev_509), (12, ev_13), (13, ev_1), (14, ev_510), (17, ev_7), (18, ev_22), (19, ev_492), (22, ev_482), (23, ev_511), (26, ev_13)]
noncomputable def zi_72_1 : ZIs := [(27, ev_510), (30, ev_167), (31, ev_490), (32, ev_455), (33, ev_94), (36, ev_189), (37, ev_167), (38, ev_438), (39, ev_512), (42, ev_338), (45, ev_315), (48, ev_513), (51, ev_13), (52, ev_1), (53, ev_514), (56, ev_191)]
noncomputable def zi_72_2 : ZIs := [(58, ev_22), (59, ev_493), (62, ev_191), (64, ev_81)]
set_option maxRecDepth 100000 in
theorem xi_w72 : zall cX1_sendAll [zi_72_0, zi_72_1, zi_72_2] := zall_w _ _ (by decide +kernel)
noncomputable def xi_72 (pc : Nat) : XIs := cond (Nat.blt pc 27) (zx zi_72_0) (cond (Nat.blt pc 58) (zx zi_72_1) (zx zi_72_2))
theorem xi_ok72 (pc : Nat) : xi_ok cX1_sendAll (xi_72 pc) = true := xi_c (zq1 xi_w72) (xi_c (zq1 (zq2 xi_w72)) (zq1 (zq2 (zq2 xi_w72))))
noncomputable def zi_73_0 : ZIs := [(0, ev_485), (1, ev_515), (2, ev_487), (3, ev_487), (4, ev_516), (6, ev_517), (7, ev_518), (8, ev_519), (11, ev_490), (12, ev_515), (13, ev_487), (14, ev_487), (15, ev_520), (17, ev_517), (18, ev_518), (19, ev_521)]
noncomputable def zi_73_1 : ZIs := [(22, ev_490), (23, ev_515), (24, ev_487), (25, ev_487), (26, ev_522), (28, ev_517), (29, ev_518), (30, ev_515), (31, ev_487), (32, ev_523), (34, ev_517), (35, ev_524), (38, ev_525), (39, ev_479)]
set_option maxRecDepth 100000 in
theorem xi_w73 : zall cX1_draw [zi_73_0, zi_73_1] := zall_w _ _ (by decide +kernel)
noncomputable def xi_73 (pc : Nat) : XIs := cond (Nat.blt pc 22) (zx zi_73_0) (zx zi_73_1)
theorem xi_ok73 (pc : Nat) : xi_ok cX1_draw (xi_73 pc) = true := xi_c (zq1 xi_w73) (zq1 (zq2 xi_w73))
noncomputable def zi_74_0 : ZIs := [(0, ev_13), (1, ev_244), (4, ev_13), (5, ev_245), (6, ev_246), (9, ev_13), (10, ev_526), (13, ev_248), (15, ev_247), (18, ev_13), (19, ev_168), (21, ev_248), (23, ev_363), (26, ev_13), (27, ev_168), (29, ev_248)]
noncomputable def zi_74_1 : ZIs := [(31, ev_250), (34, ev_13), (35, ev_527), (38, ev_248), (40, ev_251), (43, ev_13), (44, ev_527), (47, ev_248), (49, ev_252), (52, ev_13), (53, ev_527), (56, ev_248), (58, ev_528), (61, ev_13), (62, ev_527), (65, ev_248)]
noncomputable def zi_74_2 : ZIs := [(67, ev_529), (70, ev_13), (71, ev_527), (74, ev_248), (76, ev_530), (79, ev_13), (80, ev_168), (82, ev_248), (84, ev_531), (87, ev_13), (88, ev_168), (90, ev_8), (92, ev_532), (95, ev_13), (96, ev_245), (97, ev_533)]
noncomputable def zi_74_3 : ZIs := [(100, ev_253)]
set_option maxRecDepth 100000 in
theorem xi_w74 : zall cX2_init [zi_74_0, zi_74_1, zi_74_2, zi_74_3] := zall_w _ _ (by decide +kernel)
noncomputable def xi_74 (pc : Nat) : XIs := cond (Nat.blt pc 67) (cond (Nat.blt pc 31) (zx zi_74_0) (zx zi_74_1)) (cond (Nat.blt pc 100) (zx zi_74_2) (zx zi_74_3))
theorem xi_ok74 (pc : Nat) : xi_ok cX2_init (xi_74 pc) = true := xi_c (xi_c (zq1 xi_w74) (zq1 (zq2 xi_w74))) (xi_c (zq1 (zq2 (zq2 xi_w74))) (zq1 (zq2 (zq2 (zq2 xi_w74)))))
noncomputable def zi_75_0 : ZIs := [(0, ev_13), (1, ev_254), (4, ev_21), (5, ev_378), (8, ev_534), (11, ev_13), (12, ev_535), (15, ev_189), (16, ev_536), (19, ev_13), (20, ev_537), (23, ev_190), (24, ev_538), (27, ev_13), (28, ev_539), (31, ev_479)]
noncomputable def zi_75_1 : ZIs := [(32, ev_13), (33, ev_21), (34, ev_378), (37, ev_246), (40, ev_13), (41, ev_189), (42, ev_540), (45, ev_13), (46, ev_190), (47, ev_541), (50, ev_13), (51, ev_223), (52, ev_542), (55, ev_13), (56, ev_21), (57, ev_377)]
noncomputable def zi_75_2 : ZIs := [(60, ev_10), (61, ev_11), (63, ev_12), (65, ev_543), (67, ev_544), (70, ev_13), (71, ev_189), (72, ev_190), (73, ev_545), (76, ev_546), (79, ev_13), (80, ev_1), (81, ev_539), (84, ev_13), (85, ev_189), (86, ev_190)]
noncomputable def zi_75_3 : ZIs := [(87, ev_547), (90, ev_167), (91, ev_455), (92, ev_542), (95, ev_343), (98, ev_287), (101, ev_13), (102, ev_539), (105, ev_479)]
set_option maxRecDepth 100000 in
theorem xi_w75 : zall cX2_greatest [zi_75_0, zi_75_1, zi_75_2, zi_75_3] := zall_w _ _ (by decide +kernel)
noncomputable def xi_75 (pc : Nat) : XIs := cond (Nat.blt pc 60) (cond (Nat.blt pc 32) (zx zi_75_0) (zx zi_75_1)) (cond (Nat.blt pc 87) (zx zi_75_2) (zx zi_75_3))
theorem xi_ok75 (pc : Nat) : xi_ok cX2_greatest (xi_75 pc) = true := xi_c (xi_c (zq1 xi_w75) (zq1 (zq2 xi_w75))) (xi_c (zq1 (zq2 (zq2 xi_w75))) (zq1 (zq2 (zq2 (zq2 xi_w75)))))
noncomputable def zi_76_0 : ZIs := [(0, ev_13), (1, ev_274), (4, ev_10), (5, ev_548), (8, ev_13), (9, ev_436), (12, ev_10), (13, ev_548), (16, ev_10), (17, ev_288), (18, ev_189), (19, ev_21), (20, ev_549), (23, ev_431), (26, ev_21), (27, ev_189)]
noncomputable def zi_76_1 : ZIs := [(28, ev_391), (31, ev_550), (34, ev_21), (35, ev_290), (38, ev_189), (39, ev_18), (40, ev_551), (43, ev_13), (44, ev_274), (47, ev_21), (48, ev_552), (51, ev_189), (52, ev_18), (53, ev_168), (55, ev_350), (56, ev_21)]
noncomputable def zi_76_2 : ZIs := [(57, ev_553), (60, ev_189), (61, ev_18), (62, ev_22), (63, ev_311), (64, ev_18), (65, ev_21), (66, ev_290), (69, ev_189), (70, ev_18), (71, ev_22), (72, ev_293), (73, ev_13), (74, ev_436), (77, ev_21), (78, ev_552)]
noncomputable def zi_76_3 : ZIs := [(81, ev_189), (82, ev_18), (83, ev_311), (84, ev_18), (85, ev_7), (86, ev_21), (87, ev_553), (90, ev_189), (91, ev_18), (92, ev_271), (93, ev_272), (94, ev_293), (95, ev_299), (98, ev_337), (101, ev_253)]
set_option maxRecDepth 100000 in
theorem xi_w76 : zall cX2_openAll [zi_76_0, zi_76_1, zi_76_2, zi_76_3] := zall_w _ _ (by decide +kernel)
noncomputable def xi_76 (pc : Nat) : XIs := cond (Nat.blt pc 57) (cond (Nat.blt pc 28) (zx zi_76_0) (zx zi_76_1)) (cond (Nat.blt pc 81) (zx zi_76_2) (zx zi_76_3))
theorem xi_ok76 (pc : Nat) : xi_ok cX2_openAll (xi_76 pc) = true := xi_c (xi_c (zq1 xi_w76) (zq1 (zq2 xi_w76))) (xi_c (zq1 (zq2 (zq2 xi_w76))) (zq1 (zq2 (zq2 (zq2 xi_w76)))))
noncomputable def zi_77_0 : ZIs := [(0, ev_7), (1, ev_184), (2, ev_271), (3, ev_289), (4, ev_190), (5, ev_11), (7, ev_10), (8, ev_25), (10, ev_191), (12, ev_168), (14, ev_554), (17, ev_12), (19, ev_555), (22, ev_190), (23, ev_189), (24, ev_297)]
noncomputable def zi_77_1 : ZIs := [(25, ev_7), (26, ev_20), (27, ev_556), (30, ev_10), (31, ev_28), (33, ev_12), (35, ev_269), (37, ev_270), (39, ev_557), (42, ev_270), (44, ev_558), (47, ev_308), (49, ev_13), (50, ev_436), (53, ev_309), (55, ev_18)]
noncomputable def zi_77_2 : ZIs := [(56, ev_190), (57, ev_245), (58, ev_312), (59, ev_20), (60, ev_322), (62, ev_324), (64, ev_445), (66, ev_446), (68, ev_559), (71, ev_13), (72, ev_357), (75, ev_446), (77, ev_558), (80, ev_309), (82, ev_293), (83, ev_446)]
noncomputable def zi_77_3 : ZIs := [(85, ev_446), (87, ev_7), (88, ev_16), (89, ev_20), (90, ev_445), (92, ev_560), (95, ev_190), (96, ev_324), (98, ev_272), (99, ev_289), (100, ev_265), (102, ev_324), (104, ev_272), (105, ev_28), (107, ev_270), (109, ev_270)]
noncomputable def zi_77_4 : ZIs := [(111, ev_7), (112, ev_16), (113, ev_20), (114, ev_269), (116, ev_561), (119, ev_265), (121, ev_11), (123, ev_338), (126, ev_562), (129, ev_13), (130, ev_190), (131, ev_563), (134, ev_190), (135, ev_189), (136, ev_297), (137, ev_7)]
noncomputable def zi_77_5 : ZIs := [(138, ev_20), (139, ev_220), (142, ev_7), (143, ev_222), (146, ev_10), (147, ev_81)]
set_option maxRecDepth 100000 in
theorem xi_w77 : zall cX2_reach [zi_77_0, zi_77_1, zi_77_2, zi_77_3, zi_77_4, zi_77_5] := zall_w _ _ (by decide +kernel)
noncomputable def xi_77 (pc : Nat) : XIs := cond (Nat.blt pc 85) (cond (Nat.blt pc 25) (zx zi_77_0) (cond (Nat.blt pc 56) (zx zi_77_1) (zx zi_77_2))) (cond (Nat.blt pc 111) (zx zi_77_3) (cond (Nat.blt pc 138) (zx zi_77_4) (zx zi_77_5)))
theorem xi_ok77 (pc : Nat) : xi_ok cX2_reach (xi_77 pc) = true := xi_c (xi_c (zq1 xi_w77) (xi_c (zq1 (zq2 xi_w77)) (zq1 (zq2 (zq2 xi_w77))))) (xi_c (zq1 (zq2 (zq2 (zq2 xi_w77)))) (xi_c (zq1 (zq2 (zq2 (zq2 (zq2 xi_w77))))) (zq1 (zq2 (zq2 (zq2 (zq2 (zq2 xi_w77))))))))
noncomputable def zi_78_0 : ZIs := [(0, ev_564), (2, ev_289), (3, ev_189), (4, ev_11), (6, ev_10), (7, ev_25), (9, ev_191), (11, ev_168), (13, ev_565), (16, ev_12), (18, ev_184), (19, ev_566), (22, ev_190), (23, ev_13), (24, ev_274), (27, ev_13)]
noncomputable def zi_78_1 : ZIs := [(28, ev_357), (31, ev_12), (33, ev_18), (34, ev_168), (36, ev_350), (37, ev_12), (39, ev_22), (40, ev_18), (41, ev_567), (44, ev_289), (45, ev_13), (46, ev_357), (49, ev_12), (51, ev_18), (52, ev_11), (54, ev_338)]
noncomputable def zi_78_2 : ZIs := [(57, ev_568), (60, ev_189), (61, ev_11), (63, ev_10), (64, ev_25), (66, ev_191), (68, ev_168), (70, ev_569), (73, ev_12), (75, ev_184), (76, ev_570), (79, ev_13), (80, ev_357), (83, ev_12), (85, ev_18), (86, ev_28)]
noncomputable def zi_78_3 : ZIs := [(88, ev_13), (89, ev_274), (92, ev_265), (94, ev_168), (96, ev_350), (97, ev_12), (99, ev_22), (100, ev_311), (101, ev_18), (102, ev_190), (103, ev_16), (104, ev_293), (105, ev_13), (106, ev_274), (109, ev_265), (111, ev_168)]
noncomputable def zi_78_4 : ZIs := [(113, ev_350), (114, ev_12), (116, ev_22), (117, ev_18), (118, ev_406), (121, ev_13), (122, ev_436), (125, ev_265), (127, ev_311), (128, ev_18), (129, ev_7), (130, ev_12), (132, ev_271), (133, ev_245), (134, ev_312), (135, ev_20)]
noncomputable def zi_78_5 : ZIs := [(136, ev_293), (137, ev_13), (138, ev_274), (141, ev_12), (143, ev_168), (145, ev_350), (146, ev_265), (148, ev_22), (149, ev_311), (150, ev_18), (151, ev_190), (152, ev_22), (153, ev_293), (154, ev_13), (155, ev_436), (158, ev_12)]
noncomputable def zi_78_6 : ZIs := [(160, ev_311), (161, ev_18), (162, ev_7), (163, ev_265), (165, ev_271), (166, ev_272), (167, ev_293), (168, ev_265), (170, ev_11), (172, ev_338), (175, ev_327), (178, ev_190), (179, ev_81)]
set_option maxRecDepth 100000 in
theorem xi_w78 : zall cX2_push [zi_78_0, zi_78_1, zi_78_2, zi_78_3, zi_78_4, zi_78_5, zi_78_6] := zall_w _ _ (by decide +kernel)
noncomputable def xi_78 (pc : Nat) : XIs := cond (Nat.blt pc 88) (cond (Nat.blt pc 28) (zx zi_78_0) (cond (Nat.blt pc 57) (zx zi_78_1) (zx zi_78_2))) (cond (Nat.blt pc 136) (cond (Nat.blt pc 113) (zx zi_78_3) (zx zi_78_4)) (cond (Nat.blt pc 160) (zx zi_78_5) (zx zi_78_6)))
theorem xi_ok78 (pc : Nat) : xi_ok cX2_push (xi_78 pc) = true := xi_c (xi_c (zq1 xi_w78) (xi_c (zq1 (zq2 xi_w78)) (zq1 (zq2 (zq2 xi_w78))))) (xi_c (xi_c (zq1 (zq2 (zq2 (zq2 xi_w78)))) (zq1 (zq2 (zq2 (zq2 (zq2 xi_w78)))))) (xi_c (zq1 (zq2 (zq2 (zq2 (zq2 (zq2 xi_w78)))))) (zq1 (zq2 (zq2 (zq2 (zq2 (zq2 (zq2 xi_w78)))))))))
noncomputable def zi_79_0 : ZIs := [(0, ev_12), (2, ev_167), (3, ev_13), (4, ev_21), (5, ev_189), (6, ev_190), (7, ev_234), (10, ev_438), (11, ev_491), (14, ev_571), (17, ev_479), (18, ev_13), (19, ev_21), (20, ev_236), (23, ev_572), (25, ev_13)]
noncomputable def zi_79_1 : ZIs := [(26, ev_573), (29, ev_189), (30, ev_12), (32, ev_293), (33, ev_13), (34, ev_573), (37, ev_190), (38, ev_12), (40, ev_305), (41, ev_293), (42, ev_574), (44, ev_269), (46, ev_575), (48, ev_308), (50, ev_309), (52, ev_576)]
noncomputable def zi_79_2 : ZIs := [(55, ev_13), (56, ev_21), (57, ev_577), (60, ev_270), (62, ev_309), (64, ev_239), (67, ev_13), (68, ev_21), (69, ev_577), (72, ev_309), (74, ev_578), (77, ev_309), (79, ev_269), (81, ev_309), (83, ev_579), (85, ev_580)]
noncomputable def zi_79_3 : ZIs := [(86, ev_308), (88, ev_581), (91, ev_10), (92, ev_308), (94, ev_309), (96, ev_13), (97, ev_582), (100, ev_583), (103, ev_499), (105, ev_13), (106, ev_255), (109, ev_309), (111, ev_18), (112, ev_167), (113, ev_13), (114, ev_584)]
noncomputable def zi_79_4 : ZIs := [(117, ev_309), (119, ev_18), (120, ev_167), (121, ev_490), (122, ev_455), (123, ev_572), (125, ev_313), (128, ev_430), (131, ev_499), (133, ev_479)]
set_option maxRecDepth 100000 in
theorem xi_w79 : zall cX2_cheapest [zi_79_0, zi_79_1, zi_79_2, zi_79_3, zi_79_4] := zall_w _ _ (by decide +kernel)
noncomputable def xi_79 (pc : Nat) : XIs := cond (Nat.blt pc 55) (cond (Nat.blt pc 26) (zx zi_79_0) (zx zi_79_1)) (cond (Nat.blt pc 86) (zx zi_79_2) (cond (Nat.blt pc 117) (zx zi_79_3) (zx zi_79_4)))
theorem xi_ok79 (pc : Nat) : xi_ok cX2_cheapest (xi_79 pc) = true := xi_c (xi_c (zq1 xi_w79) (zq1 (zq2 xi_w79))) (xi_c (zq1 (zq2 (zq2 xi_w79))) (xi_c (zq1 (zq2 (zq2 (zq2 xi_w79)))) (zq1 (zq2 (zq2 (zq2 (zq2 xi_w79)))))))
noncomputable def zi_80_0 : ZIs := [(0, ev_13), (1, ev_573), (4, ev_10), (5, ev_548), (8, ev_13), (9, ev_10), (10, ev_585), (13, ev_223), (14, ev_515), (15, ev_10), (16, ev_11), (18, ev_12), (20, ev_21), (21, ev_549), (24, ev_586), (27, ev_21)]
noncomputable def zi_80_1 : ZIs := [(28, ev_12), (30, ev_391), (33, ev_587), (36, ev_13), (37, ev_21), (38, ev_552), (41, ev_12), (43, ev_18), (44, ev_21), (45, ev_553), (48, ev_12), (50, ev_18), (51, ev_21), (52, ev_588), (55, ev_12), (57, ev_18)]
noncomputable def zi_80_2 : ZIs := [(58, ev_21), (59, ev_290), (62, ev_12), (64, ev_18), (65, ev_589), (68, ev_590), (71, ev_21), (72, ev_552), (75, ev_12), (77, ev_18), (78, ev_245), (79, ev_591), (82, ev_21), (83, ev_588), (86, ev_12), (88, ev_18)]
noncomputable def zi_80_3 : ZIs := [(89, ev_592), (92, ev_487), (93, ev_21), (94, ev_588), (97, ev_12), (99, ev_18), (100, ev_167), (101, ev_21), (102, ev_290), (105, ev_12), (107, ev_18), (108, ev_167), (109, ev_490), (110, ev_455), (111, ev_515), (112, ev_343)]
noncomputable def zi_80_4 : ZIs := [(115, ev_593), (118, ev_487), (119, ev_479)]
set_option maxRecDepth 100000 in
theorem xi_w80 : zall cX2_layArcs [zi_80_0, zi_80_1, zi_80_2, zi_80_3, zi_80_4] := zall_w _ _ (by decide +kernel)
noncomputable def xi_80 (pc : Nat) : XIs := cond (Nat.blt pc 58) (cond (Nat.blt pc 28) (zx zi_80_0) (zx zi_80_1)) (cond (Nat.blt pc 89) (zx zi_80_2) (cond (Nat.blt pc 115) (zx zi_80_3) (zx zi_80_4)))
theorem xi_ok80 (pc : Nat) : xi_ok cX2_layArcs (xi_80 pc) = true := xi_c (xi_c (zq1 xi_w80) (zq1 (zq2 xi_w80))) (xi_c (zq1 (zq2 (zq2 xi_w80))) (xi_c (zq1 (zq2 (zq2 (zq2 xi_w80)))) (zq1 (zq2 (zq2 (zq2 (zq2 xi_w80)))))))
noncomputable def zi_81_0 : ZIs := [(0, ev_13), (1, ev_368), (4, ev_223), (5, ev_594), (8, ev_13), (9, ev_184), (10, ev_189), (11, ev_595), (14, ev_10), (15, ev_11), (17, ev_12), (19, ev_13), (20, ev_582), (23, ev_596), (26, ev_13), (27, ev_368)]
noncomputable def zi_81_1 : ZIs := [(30, ev_13), (31, ev_336), (34, ev_12), (36, ev_18), (37, ev_437), (38, ev_13), (39, ev_255), (42, ev_12), (44, ev_18), (45, ev_167), (46, ev_455), (47, ev_13), (48, ev_368), (51, ev_13), (52, ev_277), (55, ev_12)]
noncomputable def zi_81_2 : ZIs := [(57, ev_18), (58, ev_437), (59, ev_483), (60, ev_572), (62, ev_13), (63, ev_597), (66, ev_12), (68, ev_18), (69, ev_13), (70, ev_584), (73, ev_12), (75, ev_18), (76, ev_16), (77, ev_269), (79, ev_499), (81, ev_223)]
noncomputable def zi_81_3 : ZIs := [(82, ev_438), (83, ev_598), (86, ev_270), (88, ev_190), (89, ev_599), (92, ev_13), (93, ev_12), (95, ev_270), (97, ev_600), (100, ev_601), (103, ev_499), (105, ev_223), (106, ev_438), (107, ev_602), (110, ev_13), (111, ev_584)]
noncomputable def zi_81_4 : ZIs := [(114, ev_12), (116, ev_18), (117, ev_190), (118, ev_603), (121, ev_13), (122, ev_12), (124, ev_13), (125, ev_584), (128, ev_12), (130, ev_18), (131, ev_305), (132, ev_600), (135, ev_343), (138, ev_604), (141, ev_253)]
set_option maxRecDepth 100000 in
theorem xi_w81 : zall cX2_turnEarners [zi_81_0, zi_81_1, zi_81_2, zi_81_3, zi_81_4] := zall_w _ _ (by decide +kernel)
noncomputable def xi_81 (pc : Nat) : XIs := cond (Nat.blt pc 57) (cond (Nat.blt pc 30) (zx zi_81_0) (zx zi_81_1)) (cond (Nat.blt pc 82) (zx zi_81_2) (cond (Nat.blt pc 114) (zx zi_81_3) (zx zi_81_4)))
theorem xi_ok81 (pc : Nat) : xi_ok cX2_turnEarners (xi_81 pc) = true := xi_c (xi_c (zq1 xi_w81) (zq1 (zq2 xi_w81))) (xi_c (zq1 (zq2 (zq2 xi_w81))) (xi_c (zq1 (zq2 (zq2 (zq2 xi_w81)))) (zq1 (zq2 (zq2 (zq2 (zq2 xi_w81)))))))
noncomputable def zi_82_0 : ZIs := [(0, ev_13), (1, ev_584), (4, ev_184), (5, ev_311), (6, ev_18), (7, ev_189), (8, ev_22), (9, ev_293), (10, ev_13), (11, ev_573), (14, ev_13), (15, ev_277), (18, ev_184), (19, ev_18), (20, ev_311), (21, ev_18)]
noncomputable def zi_82_1 : ZIs := [(22, ev_189), (23, ev_22), (24, ev_293), (25, ev_13), (26, ev_573), (29, ev_13), (30, ev_336), (33, ev_184), (34, ev_18), (35, ev_311), (36, ev_18), (37, ev_189), (38, ev_16), (39, ev_293), (40, ev_253)]
set_option maxRecDepth 100000 in
theorem xi_w82 : zall cX2_turn [zi_82_0, zi_82_1] := zall_w _ _ (by decide +kernel)
noncomputable def xi_82 (pc : Nat) : XIs := cond (Nat.blt pc 22) (zx zi_82_0) (zx zi_82_1)
theorem xi_ok82 (pc : Nat) : xi_ok cX2_turn (xi_82 pc) = true := xi_c (zq1 xi_w82) (zq1 (zq2 xi_w82))
noncomputable def zi_83_0 : ZIs := [(0, ev_10), (1, ev_289), (2, ev_190), (3, ev_543), (5, ev_583), (8, ev_13), (9, ev_184), (10, ev_189), (11, ev_605), (14, ev_11), (16, ev_12), (18, ev_245), (19, ev_606), (22, ev_253), (23, ev_13), (24, ev_12)]
noncomputable def zi_83_1 : ZIs := [(26, ev_607), (29, ev_152), (30, ev_294), (33, ev_608), (36, ev_253)]
set_option maxRecDepth 100000 in
theorem xi_w83 : zall cX2_carryAll [zi_83_0, zi_83_1] := zall_w _ _ (by decide +kernel)
noncomputable def xi_83 (pc : Nat) : XIs := cond (Nat.blt pc 26) (zx zi_83_0) (zx zi_83_1)
theorem xi_ok83 (pc : Nat) : xi_ok cX2_carryAll (xi_83 pc) = true := xi_c (zq1 xi_w83) (zq1 (zq2 xi_w83))
noncomputable def zi_84_0 : ZIs := [(0, ev_13), (1, ev_582), (4, ev_527), (7, ev_609), (10, ev_13), (11, ev_336), (14, ev_13), (15, ev_582), (18, ev_184), (19, ev_293), (20, ev_13), (21, ev_277), (24, ev_13), (25, ev_582), (28, ev_189), (29, ev_293)]
noncomputable def zi_84_1 : ZIs := [(30, ev_13), (31, ev_255), (34, ev_13), (35, ev_582), (38, ev_190), (39, ev_293), (40, ev_13), (41, ev_597), (44, ev_13), (45, ev_582), (48, ev_12), (50, ev_293), (51, ev_13), (52, ev_584), (55, ev_13), (56, ev_582)]
noncomputable def zi_84_2 : ZIs := [(59, ev_10), (60, ev_293), (61, ev_13), (62, ev_1), (63, ev_582), (66, ev_7), (67, ev_22), (68, ev_585), (71, ev_253)]
set_option maxRecDepth 100000 in
theorem xi_w84 : zall cX2_lay [zi_84_0, zi_84_1, zi_84_2] := zall_w _ _ (by decide +kernel)
noncomputable def xi_84 (pc : Nat) : XIs := cond (Nat.blt pc 30) (zx zi_84_0) (cond (Nat.blt pc 59) (zx zi_84_1) (zx zi_84_2))
theorem xi_ok84 (pc : Nat) : xi_ok cX2_lay (xi_84 pc) = true := xi_c (zq1 xi_w84) (xi_c (zq1 (zq2 xi_w84)) (zq1 (zq2 (zq2 xi_w84))))
noncomputable def zi_85_0 : ZIs := [(0, ev_10), (1, ev_289), (2, ev_190), (3, ev_184), (4, ev_610), (7, ev_13), (8, ev_368), (11, ev_190), (12, ev_13), (13, ev_573), (16, ev_190), (17, ev_18), (18, ev_189), (19, ev_611), (22, ev_223), (23, ev_202)]
noncomputable def zi_85_1 : ZIs := [(26, ev_612), (29, ev_186), (30, ev_13), (31, ev_357), (34, ev_190), (35, ev_245), (36, ev_293), (37, ev_294), (40, ev_581), (43, ev_13), (44, ev_184), (45, ev_189), (46, ev_595), (49, ev_245), (50, ev_289), (51, ev_10)]
noncomputable def zi_85_2 : ZIs := [(52, ev_11), (54, ev_12), (56, ev_184), (57, ev_613), (60, ev_13), (61, ev_573), (64, ev_12), (66, ev_18), (67, ev_189), (68, ev_305), (69, ev_614), (72, ev_13), (73, ev_368), (76, ev_12), (78, ev_437), (79, ev_612)]
noncomputable def zi_85_3 : ZIs := [(82, ev_438), (83, ev_615), (86, ev_190), (87, ev_245), (88, ev_616), (91, ev_13), (92, ev_368), (95, ev_12), (97, ev_437), (98, ev_13), (99, ev_368), (102, ev_190), (103, ev_437), (104, ev_438), (105, ev_512), (108, ev_12)]
noncomputable def zi_85_4 : ZIs := [(110, ev_289), (111, ev_343), (114, ev_617), (117, ev_190), (118, ev_81)]
set_option maxRecDepth 100000 in
theorem xi_w85 : zall cX2_nearestLack [zi_85_0, zi_85_1, zi_85_2, zi_85_3, zi_85_4] := zall_w _ _ (by decide +kernel)
noncomputable def xi_85 (pc : Nat) : XIs := cond (Nat.blt pc 52) (cond (Nat.blt pc 26) (zx zi_85_0) (zx zi_85_1)) (cond (Nat.blt pc 82) (zx zi_85_2) (cond (Nat.blt pc 110) (zx zi_85_3) (zx zi_85_4)))
theorem xi_ok85 (pc : Nat) : xi_ok cX2_nearestLack (xi_85 pc) = true := xi_c (xi_c (zq1 xi_w85) (zq1 (zq2 xi_w85))) (xi_c (zq1 (zq2 (zq2 xi_w85))) (xi_c (zq1 (zq2 (zq2 (zq2 xi_w85)))) (zq1 (zq2 (zq2 (zq2 (zq2 xi_w85)))))))
noncomputable def zi_86_0 : ZIs := [(0, ev_7), (1, ev_289), (2, ev_10), (3, ev_11), (5, ev_12), (7, ev_184), (8, ev_618), (11, ev_190), (12, ev_619), (15, ev_10), (16, ev_289), (17, ev_10), (18, ev_25), (20, ev_191), (22, ev_13), (23, ev_582)]
noncomputable def zi_86_1 : ZIs := [(26, ev_620), (29, ev_190), (30, ev_13), (31, ev_191), (33, ev_189), (34, ev_621), (37, ev_272), (38, ev_289), (39, ev_338), (42, ev_622), (45, ev_343), (48, ev_403), (51, ev_253)]
set_option maxRecDepth 100000 in
theorem xi_w86 : zall cX2_relaxAll [zi_86_0, zi_86_1] := zall_w _ _ (by decide +kernel)
noncomputable def xi_86 (pc : Nat) : XIs := cond (Nat.blt pc 26) (zx zi_86_0) (zx zi_86_1)
theorem xi_ok86 (pc : Nat) : xi_ok cX2_relaxAll (xi_86 pc) = true := xi_c (zq1 xi_w86) (zq1 (zq2 xi_w86))
noncomputable def zi_87_0 : ZIs := [(0, ev_13), (1, ev_336), (4, ev_184), (5, ev_18), (6, ev_289), (7, ev_13), (8, ev_277), (11, ev_184), (12, ev_18), (13, ev_11), (15, ev_13), (16, ev_597), (19, ev_184), (20, ev_18), (21, ev_13), (22, ev_584)]
noncomputable def zi_87_1 : ZIs := [(25, ev_184), (26, ev_18), (27, ev_16), (28, ev_189), (29, ev_623), (32, ev_13), (33, ev_368), (36, ev_190), (37, ev_437), (38, ev_612), (41, ev_438), (42, ev_624), (45, ev_13), (46, ev_368), (49, ev_190), (50, ev_437)]
noncomputable def zi_87_2 : ZIs := [(51, ev_13), (52, ev_255), (55, ev_184), (56, ev_18), (57, ev_167), (58, ev_455), (59, ev_13), (60, ev_368), (63, ev_12), (65, ev_437), (66, ev_438), (67, ev_625), (70, ev_13), (71, ev_368), (74, ev_12), (76, ev_13)]
noncomputable def zi_87_3 : ZIs := [(77, ev_368), (80, ev_190), (81, ev_437), (82, ev_13), (83, ev_255), (86, ev_184), (87, ev_18), (88, ev_167), (89, ev_455), (90, ev_186), (91, ev_13), (92, ev_357), (95, ev_12), (97, ev_30), (98, ev_184), (99, ev_350)]
noncomputable def zi_87_4 : ZIs := [(100, ev_293), (101, ev_7), (102, ev_81), (103, ev_13), (104, ev_584), (107, ev_184), (108, ev_18), (109, ev_189), (110, ev_626), (113, ev_13), (114, ev_368), (117, ev_12), (119, ev_437), (120, ev_612), (123, ev_438), (124, ev_627)]
noncomputable def zi_87_5 : ZIs := [(127, ev_13), (128, ev_368), (131, ev_12), (133, ev_437), (134, ev_13), (135, ev_255), (138, ev_184), (139, ev_18), (140, ev_167), (141, ev_483), (142, ev_13), (143, ev_368), (146, ev_190), (147, ev_437), (148, ev_438), (149, ev_628)]
noncomputable def zi_87_6 : ZIs := [(152, ev_13), (153, ev_368), (156, ev_190), (157, ev_13), (158, ev_368), (161, ev_12), (163, ev_437), (164, ev_13), (165, ev_255), (168, ev_184), (169, ev_18), (170, ev_167), (171, ev_483), (172, ev_186), (173, ev_13), (174, ev_357)]
noncomputable def zi_87_7 : ZIs := [(177, ev_190), (178, ev_30), (179, ev_184), (180, ev_350), (181, ev_7), (182, ev_22), (183, ev_293), (184, ev_7), (185, ev_81), (186, ev_10), (187, ev_81)]
set_option maxRecDepth 100000 in
theorem xi_w87 : zall cX2_relaxPipe [zi_87_0, zi_87_1, zi_87_2, zi_87_3, zi_87_4, zi_87_5, zi_87_6, zi_87_7] := zall_w _ _ (by decide +kernel)
noncomputable def xi_87 (pc : Nat) : XIs := cond (Nat.blt pc 100) (cond (Nat.blt pc 51) (cond (Nat.blt pc 25) (zx zi_87_0) (zx zi_87_1)) (cond (Nat.blt pc 77) (zx zi_87_2) (zx zi_87_3))) (cond (Nat.blt pc 152) (cond (Nat.blt pc 127) (zx zi_87_4) (zx zi_87_5)) (cond (Nat.blt pc 177) (zx zi_87_6) (zx zi_87_7)))
theorem xi_ok87 (pc : Nat) : xi_ok cX2_relaxPipe (xi_87 pc) = true := xi_c (xi_c (xi_c (zq1 xi_w87) (zq1 (zq2 xi_w87))) (xi_c (zq1 (zq2 (zq2 xi_w87))) (zq1 (zq2 (zq2 (zq2 xi_w87)))))) (xi_c (xi_c (zq1 (zq2 (zq2 (zq2 (zq2 xi_w87))))) (zq1 (zq2 (zq2 (zq2 (zq2 (zq2 xi_w87))))))) (xi_c (zq1 (zq2 (zq2 (zq2 (zq2 (zq2 (zq2 xi_w87))))))) (zq1 (zq2 (zq2 (zq2 (zq2 (zq2 (zq2 (zq2 xi_w87))))))))))
noncomputable def zi_88_0 : ZIs := [(0, ev_13), (1, ev_573), (4, ev_184), (5, ev_18), (6, ev_305), (7, ev_288), (8, ev_184), (9, ev_289), (10, ev_10), (11, ev_11), (13, ev_12), (15, ev_168), (17, ev_629), (20, ev_13), (21, ev_357), (24, ev_190)]
noncomputable def zi_88_1 : ZIs := [(25, ev_18), (26, ev_245), (27, ev_630), (30, ev_13), (31, ev_357), (34, ev_190), (35, ev_18), (36, ev_7), (37, ev_297), (38, ev_25), (40, ev_13), (41, ev_357), (44, ev_190), (45, ev_18), (46, ev_7), (47, ev_20)]
noncomputable def zi_88_2 : ZIs := [(48, ev_321), (51, ev_7), (52, ev_222), (55, ev_10), (56, ev_28), (58, ev_189), (59, ev_265), (61, ev_328), (64, ev_13), (65, ev_597), (68, ev_191), (70, ev_18), (71, ev_13), (72, ev_584), (75, ev_191), (77, ev_18)]
noncomputable def zi_88_3 : ZIs := [(78, ev_16), (79, ev_631), (82, ev_13), (83, ev_584), (86, ev_191), (88, ev_18), (89, ev_567), (92, ev_288), (93, ev_265), (95, ev_632), (98, ev_13), (99, ev_336), (102, ev_191), (104, ev_18), (105, ev_631), (108, ev_13)]
noncomputable def zi_88_4 : ZIs := [(109, ev_277), (112, ev_191), (114, ev_18), (115, ev_289), (116, ev_343), (119, ev_633), (122, ev_189), (123, ev_13), (124, ev_573), (127, ev_190), (128, ev_18), (129, ev_567), (132, ev_288), (133, ev_13), (134, ev_573), (137, ev_190)]
noncomputable def zi_88_5 : ZIs := [(138, ev_311), (139, ev_18), (140, ev_189), (141, ev_16), (142, ev_293), (143, ev_13), (144, ev_573), (147, ev_184), (148, ev_311), (149, ev_18), (150, ev_189), (151, ev_22), (152, ev_293), (153, ev_184), (154, ev_289), (155, ev_10)]
noncomputable def zi_88_6 : ZIs := [(156, ev_11), (158, ev_12), (160, ev_168), (162, ev_634), (165, ev_13), (166, ev_357), (169, ev_190), (170, ev_18), (171, ev_245), (172, ev_635), (175, ev_13), (176, ev_357), (179, ev_190), (180, ev_18), (181, ev_7), (182, ev_297)]
noncomputable def zi_88_7 : ZIs := [(183, ev_25), (185, ev_13), (186, ev_357), (189, ev_190), (190, ev_18), (191, ev_7), (192, ev_20), (193, ev_321), (196, ev_7), (197, ev_222), (200, ev_10), (201, ev_28), (203, ev_13), (204, ev_584), (207, ev_191), (209, ev_311)]
noncomputable def zi_88_8 : ZIs := [(210, ev_18), (211, ev_265), (213, ev_220), (216, ev_189), (217, ev_636), (220, ev_189), (221, ev_305), (222, ev_22), (223, ev_293), (224, ev_265), (226, ev_632), (229, ev_13), (230, ev_336), (233, ev_191), (235, ev_18), (236, ev_631)]
noncomputable def zi_88_9 : ZIs := [(239, ev_13), (240, ev_277), (243, ev_191), (245, ev_18), (246, ev_289), (247, ev_343), (250, ev_637), (253, ev_13), (254, ev_368), (257, ev_184), (258, ev_437), (259, ev_189), (260, ev_167), (261, ev_490), (262, ev_479)]
set_option maxRecDepth 100000 in
theorem xi_w88 : zall cX2_carryTo [zi_88_0, zi_88_1, zi_88_2, zi_88_3, zi_88_4, zi_88_5, zi_88_6, zi_88_7, zi_88_8, zi_88_9] := zall_w _ _ (by decide +kernel)
noncomputable def xi_88 (pc : Nat) : XIs := cond (Nat.blt pc 138) (cond (Nat.blt pc 48) (cond (Nat.blt pc 25) (zx zi_88_0) (zx zi_88_1)) (cond (Nat.blt pc 78) (zx zi_88_2) (cond (Nat.blt pc 109) (zx zi_88_3) (zx zi_88_4)))) (cond (Nat.blt pc 183) (cond (Nat.blt pc 156) (zx zi_88_5) (zx zi_88_6)) (cond (Nat.blt pc 210) (zx zi_88_7) (cond (Nat.blt pc 239) (zx zi_88_8) (zx zi_88_9))))
theorem xi_ok88 (pc : Nat) : xi_ok cX2_carryTo (xi_88 pc) = true := xi_c (xi_c (xi_c (zq1 xi_w88) (zq1 (zq2 xi_w88))) (xi_c (zq1 (zq2 (zq2 xi_w88))) (xi_c (zq1 (zq2 (zq2 (zq2 xi_w88)))) (zq1 (zq2 (zq2 (zq2 (zq2 xi_w88)))))))) (xi_c (xi_c (zq1 (zq2 (zq2 (zq2 (zq2 (zq2 xi_w88)))))) (zq1 (zq2 (zq2 (zq2 (zq2 (zq2 (zq2 xi_w88)))))))) (xi_c (zq1 (zq2 (zq2 (zq2 (zq2 (zq2 (zq2 (zq2 xi_w88)))))))) (xi_c (zq1 (zq2 (zq2 (zq2 (zq2 (zq2 (zq2 (zq2 (zq2 xi_w88))))))))) (zq1 (zq2 (zq2 (zq2 (zq2 (zq2 (zq2 (zq2 (zq2 (zq2 xi_w88)))))))))))))
noncomputable def zi_89_0 : ZIs := [(0, ev_13), (1, ev_638), (4, ev_21), (5, ev_378), (8, ev_606), (11, ev_253), (12, ev_13), (13, ev_21), (14, ev_378), (17, ev_533), (20, ev_13), (21, ev_10), (22, ev_639), (25, ev_13), (26, ev_223), (27, ev_640)]
noncomputable def zi_89_1 : ZIs := [(30, ev_13), (31, ev_10), (32, ev_585), (35, ev_10), (36, ev_288), (37, ev_189), (38, ev_21), (39, ev_577), (42, ev_641), (45, ev_13), (46, ev_573), (49, ev_189), (50, ev_21), (51, ev_189), (52, ev_642), (55, ev_220)]
noncomputable def zi_89_2 : ZIs := [(58, ev_7), (59, ev_222), (62, ev_245), (63, ev_293), (64, ev_299), (67, ev_643), (70, ev_10), (71, ev_288), (72, ev_189), (73, ev_21), (74, ev_549), (77, ev_644), (80, ev_21), (81, ev_189), (82, ev_391), (85, ev_645)]
noncomputable def zi_89_3 : ZIs := [(88, ev_21), (89, ev_21), (90, ev_552), (93, ev_189), (94, ev_18), (95, ev_642), (98, ev_21), (99, ev_21), (100, ev_553), (103, ev_189), (104, ev_18), (105, ev_642), (108, ev_646), (111, ev_21), (112, ev_21), (113, ev_552)]
noncomputable def zi_89_4 : ZIs := [(116, ev_189), (117, ev_18), (118, ev_642), (121, ev_289), (122, ev_13), (123, ev_190), (124, ev_647), (127, ev_21), (128, ev_552), (131, ev_189), (132, ev_18), (133, ev_187), (136, ev_21), (137, ev_553), (140, ev_189), (141, ev_18)]
noncomputable def zi_89_5 : ZIs := [(142, ev_190), (143, ev_647), (146, ev_21), (147, ev_553), (150, ev_189), (151, ev_18), (152, ev_187), (155, ev_21), (156, ev_552), (159, ev_189), (160, ev_18), (161, ev_21), (162, ev_588), (165, ev_189), (166, ev_18), (167, ev_7)]
noncomputable def zi_89_6 : ZIs := [(168, ev_589), (171, ev_299), (174, ev_648), (177, ev_10), (178, ev_288), (179, ev_189), (180, ev_168), (182, ev_649), (185, ev_13), (186, ev_21), (187, ev_577), (190, ev_7), (191, ev_605), (194, ev_289), (195, ev_190), (196, ev_245)]
noncomputable def zi_89_7 : ZIs := [(197, ev_606), (200, ev_253), (201, ev_13), (202, ev_1), (203, ev_650), (206, ev_13), (207, ev_190), (208, ev_607), (211, ev_455), (212, ev_640), (215, ev_13), (216, ev_1), (217, ev_464), (220, ev_7), (221, ev_22), (222, ev_639)]
noncomputable def zi_89_8 : ZIs := [(225, ev_299), (228, ev_651), (231, ev_253)]
set_option maxRecDepth 100000 in
theorem xi_w89 : zall cX2_pair [zi_89_0, zi_89_1, zi_89_2, zi_89_3, zi_89_4, zi_89_5, zi_89_6, zi_89_7, zi_89_8] := zall_w _ _ (by decide +kernel)
noncomputable def xi_89 (pc : Nat) : XIs := cond (Nat.blt pc 116) (cond (Nat.blt pc 58) (cond (Nat.blt pc 30) (zx zi_89_0) (zx zi_89_1)) (cond (Nat.blt pc 88) (zx zi_89_2) (zx zi_89_3))) (cond (Nat.blt pc 168) (cond (Nat.blt pc 142) (zx zi_89_4) (zx zi_89_5)) (cond (Nat.blt pc 197) (zx zi_89_6) (cond (Nat.blt pc 225) (zx zi_89_7) (zx zi_89_8))))
theorem xi_ok89 (pc : Nat) : xi_ok cX2_pair (xi_89 pc) = true := xi_c (xi_c (xi_c (zq1 xi_w89) (zq1 (zq2 xi_w89))) (xi_c (zq1 (zq2 (zq2 xi_w89))) (zq1 (zq2 (zq2 (zq2 xi_w89)))))) (xi_c (xi_c (zq1 (zq2 (zq2 (zq2 (zq2 xi_w89))))) (zq1 (zq2 (zq2 (zq2 (zq2 (zq2 xi_w89))))))) (xi_c (zq1 (zq2 (zq2 (zq2 (zq2 (zq2 (zq2 xi_w89))))))) (xi_c (zq1 (zq2 (zq2 (zq2 (zq2 (zq2 (zq2 (zq2 xi_w89)))))))) (zq1 (zq2 (zq2 (zq2 (zq2 (zq2 (zq2 (zq2 (zq2 xi_w89))))))))))))
noncomputable def zi_90_0 : ZIs := [(0, ev_13), (1, ev_652), (4, ev_184), (5, ev_18), (6, ev_653), (8, ev_654), (11, ev_7), (12, ev_222), (15, ev_10), (16, ev_81)]
set_option maxRecDepth 100000 in
theorem xi_w90 : zall cX2_isLow [zi_90_0] := zall_w _ _ (by decide +kernel)
noncomputable def xi_90 (pc : Nat) : XIs := zx zi_90_0
theorem xi_ok90 (pc : Nat) : xi_ok cX2_isLow (xi_90 pc) = true := zq1 xi_w90
noncomputable def zi_91_0 : ZIs := [(0, ev_13), (1, ev_244), (4, ev_13), (5, ev_168), (7, ev_248), (9, ev_246), (12, ev_13), (13, ev_527), (16, ev_248), (18, ev_247), (21, ev_13), (22, ev_527), (25, ev_248), (27, ev_249), (30, ev_13), (31, ev_527)]
noncomputable def zi_91_1 : ZIs := [(34, ev_248), (36, ev_655), (39, ev_13), (40, ev_527), (43, ev_248), (45, ev_656), (48, ev_13), (49, ev_527), (52, ev_248), (54, ev_657), (57, ev_13), (58, ev_168), (60, ev_248), (62, ev_658), (65, ev_13), (66, ev_168)]
noncomputable def zi_91_2 : ZIs := [(68, ev_248), (70, ev_659), (73, ev_13), (74, ev_168), (76, ev_248), (78, ev_660), (81, ev_13), (82, ev_523), (84, ev_248), (86, ev_258), (89, ev_13), (90, ev_527), (93, ev_248), (95, ev_661), (98, ev_13), (99, ev_523)]
noncomputable def zi_91_3 : ZIs := [(101, ev_248), (103, ev_662), (106, ev_13), (107, ev_527), (110, ev_248), (112, ev_663), (115, ev_13), (116, ev_245), (117, ev_664), (120, ev_13), (121, ev_274), (124, ev_245), (125, ev_665), (128, ev_253)]
set_option maxRecDepth 100000 in
theorem xi_w91 : zall cX3_init [zi_91_0, zi_91_1, zi_91_2, zi_91_3] := zall_w _ _ (by decide +kernel)
noncomputable def xi_91 (pc : Nat) : XIs := cond (Nat.blt pc 68) (cond (Nat.blt pc 34) (zx zi_91_0) (zx zi_91_1)) (cond (Nat.blt pc 101) (zx zi_91_2) (zx zi_91_3))
theorem xi_ok91 (pc : Nat) : xi_ok cX3_init (xi_91 pc) = true := xi_c (xi_c (zq1 xi_w91) (zq1 (zq2 xi_w91))) (xi_c (zq1 (zq2 (zq2 xi_w91))) (zq1 (zq2 (zq2 (zq2 xi_w91)))))
noncomputable def zi_92_0 : ZIs := [(0, ev_13), (1, ev_10), (2, ev_542), (5, ev_13), (6, ev_10), (7, ev_666), (10, ev_13), (11, ev_10), (12, ev_667), (15, ev_13), (16, ev_10), (17, ev_668), (20, ev_13), (21, ev_245), (22, ev_664), (25, ev_13)]
noncomputable def zi_92_1 : ZIs := [(26, ev_274), (29, ev_245), (30, ev_665), (33, ev_253)]
set_option maxRecDepth 100000 in
theorem xi_w92 : zall cX3_clear [zi_92_0, zi_92_1] := zall_w _ _ (by decide +kernel)
noncomputable def xi_92 (pc : Nat) : XIs := cond (Nat.blt pc 26) (zx zi_92_0) (zx zi_92_1)
theorem xi_ok92 (pc : Nat) : xi_ok cX3_clear (xi_92 pc) = true := xi_c (zq1 xi_w92) (zq1 (zq2 xi_w92))
noncomputable def zi_93_0 : ZIs := [(0, ev_13), (1, ev_21), (2, ev_539), (5, ev_542), (8, ev_13), (9, ev_21), (10, ev_669), (13, ev_666), (16, ev_13), (17, ev_21), (18, ev_670), (21, ev_667), (24, ev_13), (25, ev_21), (26, ev_671), (29, ev_668)]
noncomputable def zi_93_1 : ZIs := [(32, ev_13), (33, ev_245), (34, ev_664), (37, ev_21), (38, ev_254), (41, ev_10), (42, ev_13), (43, ev_254), (46, ev_10), (47, ev_168), (49, ev_672), (52, ev_21), (53, ev_274), (56, ev_10), (57, ev_13), (58, ev_274)]
noncomputable def zi_93_2 : ZIs := [(61, ev_10), (62, ev_527), (65, ev_672), (68, ev_21), (69, ev_281), (72, ev_10), (73, ev_13), (74, ev_281), (77, ev_10), (78, ev_527), (81, ev_672), (84, ev_21), (85, ev_673), (88, ev_10), (89, ev_13), (90, ev_673)]
noncomputable def zi_93_3 : ZIs := [(93, ev_10), (94, ev_527), (97, ev_672), (100, ev_21), (101, ev_674), (104, ev_10), (105, ev_13), (106, ev_674), (109, ev_10), (110, ev_527), (113, ev_672), (116, ev_21), (117, ev_675), (120, ev_10), (121, ev_13), (122, ev_675)]
noncomputable def zi_93_4 : ZIs := [(125, ev_10), (126, ev_527), (129, ev_672), (132, ev_253)]
set_option maxRecDepth 100000 in
theorem xi_w93 : zall cX3_copyOf [zi_93_0, zi_93_1, zi_93_2, zi_93_3, zi_93_4] := zall_w _ _ (by decide +kernel)
noncomputable def xi_93 (pc : Nat) : XIs := cond (Nat.blt pc 61) (cond (Nat.blt pc 32) (zx zi_93_0) (zx zi_93_1)) (cond (Nat.blt pc 93) (zx zi_93_2) (cond (Nat.blt pc 125) (zx zi_93_3) (zx zi_93_4)))
theorem xi_ok93 (pc : Nat) : xi_ok cX3_copyOf (xi_93 pc) = true := xi_c (xi_c (zq1 xi_w93) (zq1 (zq2 xi_w93))) (xi_c (zq1 (zq2 (zq2 xi_w93))) (xi_c (zq1 (zq2 (zq2 (zq2 xi_w93)))) (zq1 (zq2 (zq2 (zq2 (zq2 xi_w93)))))))
noncomputable def zi_94_0 : ZIs := [(0, ev_184), (1, ev_676), (4, ev_184), (5, ev_13), (6, ev_669), (9, ev_654), (12, ev_7), (13, ev_222), (16, ev_10), (17, ev_81)]
set_option maxRecDepth 100000 in
theorem xi_w94 : zall cX3_hasNode [zi_94_0] := zall_w _ _ (by decide +kernel)
noncomputable def xi_94 (pc : Nat) : XIs := zx zi_94_0
theorem xi_ok94 (pc : Nat) : xi_ok cX3_hasNode (xi_94 pc) = true := zq1 xi_w94
noncomputable def zi_95_0 : ZIs := [(0, ev_13), (1, ev_184), (2, ev_677), (5, ev_678), (8, ev_13), (9, ev_189), (10, ev_677), (13, ev_647), (16, ev_184), (17, ev_189), (18, ev_679), (21, ev_7), (22, ev_222), (25, ev_10), (26, ev_81)]
set_option maxRecDepth 100000 in
theorem xi_w95 : zall cX3_hasTwo [zi_95_0] := zall_w _ _ (by decide +kernel)
noncomputable def xi_95 (pc : Nat) : XIs := zx zi_95_0
theorem xi_ok95 (pc : Nat) : xi_ok cX3_hasTwo (xi_95 pc) = true := zq1 xi_w95
noncomputable def zi_96_0 : ZIs := [(0, ev_184), (1, ev_680), (4, ev_184), (5, ev_13), (6, ev_671), (9, ev_681), (12, ev_13), (13, ev_274), (16, ev_184), (17, ev_18), (18, ev_245), (19, ev_679), (22, ev_7), (23, ev_222), (26, ev_10), (27, ev_81)]
set_option maxRecDepth 100000 in
theorem xi_w96 : zall cX3_hasArc [zi_96_0] := zall_w _ _ (by decide +kernel)
noncomputable def xi_96 (pc : Nat) : XIs := zx zi_96_0
theorem xi_ok96 (pc : Nat) : xi_ok cX3_hasArc (xi_96 pc) = true := zq1 xi_w96
noncomputable def zi_97_0 : ZIs := [(0, ev_13), (1, ev_274), (4, ev_184), (5, ev_18), (6, ev_245), (7, ev_682), (10, ev_13), (11, ev_274), (14, ev_184), (15, ev_18), (16, ev_13), (17, ev_281), (20, ev_184), (21, ev_18), (22, ev_679), (25, ev_7)]
noncomputable def zi_97_1 : ZIs := [(26, ev_222), (29, ev_10), (30, ev_81)]
set_option maxRecDepth 100000 in
theorem xi_w97 : zall cX3_isJoint [zi_97_0, zi_97_1] := zall_w _ _ (by decide +kernel)
noncomputable def xi_97 (pc : Nat) : XIs := cond (Nat.blt pc 26) (zx zi_97_0) (zx zi_97_1)
theorem xi_ok97 (pc : Nat) : xi_ok cX3_isJoint (xi_97 pc) = true := xi_c (zq1 xi_w97) (zq1 (zq2 xi_w97))
noncomputable def zi_98_0 : ZIs := [(0, ev_10), (1, ev_683), (2, ev_10), (3, ev_288), (4, ev_189), (5, ev_13), (6, ev_671), (9, ev_684), (12, ev_13), (13, ev_189), (14, ev_225), (17, ev_685), (20, ev_686), (23, ev_299), (26, ev_622), (29, ev_184)]
noncomputable def zi_98_1 : ZIs := [(30, ev_81)]
set_option maxRecDepth 100000 in
theorem xi_w98 : zall cX3_joints [zi_98_0, zi_98_1] := zall_w _ _ (by decide +kernel)
noncomputable def xi_98 (pc : Nat) : XIs := cond (Nat.blt pc 30) (zx zi_98_0) (zx zi_98_1)
theorem xi_ok98 (pc : Nat) : xi_ok cX3_joints (xi_98 pc) = true := xi_c (zq1 xi_w98) (zq1 (zq2 xi_w98))
noncomputable def zi_99_0 : ZIs := [(0, ev_21), (1, ev_10), (2, ev_665), (5, ev_10), (6, ev_288), (7, ev_189), (8, ev_13), (9, ev_671), (12, ev_687), (15, ev_13), (16, ev_189), (17, ev_225), (20, ev_559), (23, ev_21), (24, ev_13), (25, ev_274)]
noncomputable def zi_99_1 : ZIs := [(28, ev_189), (29, ev_18), (30, ev_311), (31, ev_18), (32, ev_7), (33, ev_22), (34, ev_293), (35, ev_21), (36, ev_13), (37, ev_281), (40, ev_189), (41, ev_18), (42, ev_311), (43, ev_18), (44, ev_7), (45, ev_22)]
noncomputable def zi_99_2 : ZIs := [(46, ev_293), (47, ev_299), (50, ev_403), (53, ev_253)]
set_option maxRecDepth 100000 in
theorem xi_w99 : zall cX3_countJoints [zi_99_0, zi_99_1, zi_99_2] := zall_w _ _ (by decide +kernel)
noncomputable def xi_99 (pc : Nat) : XIs := cond (Nat.blt pc 28) (zx zi_99_0) (cond (Nat.blt pc 46) (zx zi_99_1) (zx zi_99_2))
theorem xi_ok99 (pc : Nat) : xi_ok cX3_countJoints (xi_99 pc) = true := xi_c (zq1 xi_w99) (xi_c (zq1 (zq2 xi_w99)) (zq1 (zq2 (zq2 xi_w99))))
noncomputable def zi_100_0 : ZIs := [(0, ev_189), (1, ev_376), (4, ev_13), (5, ev_673), (8, ev_184), (9, ev_18), (10, ev_81), (11, ev_189), (12, ev_7), (13, ev_688), (16, ev_13), (17, ev_674), (20, ev_184), (21, ev_18), (22, ev_187), (25, ev_13)]
noncomputable def zi_100_1 : ZIs := [(26, ev_675), (29, ev_184), (30, ev_18), (31, ev_81)]
set_option maxRecDepth 100000 in
theorem xi_w100 : zall cX3_valueOf [zi_100_0, zi_100_1] := zall_w _ _ (by decide +kernel)
noncomputable def xi_100 (pc : Nat) : XIs := cond (Nat.blt pc 26) (zx zi_100_0) (zx zi_100_1)
theorem xi_ok100 (pc : Nat) : xi_ok cX3_valueOf (xi_100 pc) = true := xi_c (zq1 xi_w100) (zq1 (zq2 xi_w100))
noncomputable def zi_101_0 : ZIs := [(0, ev_10), (1, ev_683), (2, ev_184), (3, ev_527), (6, ev_359), (9, ev_13), (10, ev_274), (13, ev_184), (14, ev_18), (15, ev_245), (16, ev_689), (19, ev_184), (20, ev_81), (21, ev_686), (24, ev_622), (27, ev_245)]
noncomputable def zi_101_1 : ZIs := [(28, ev_81)]
set_option maxRecDepth 100000 in
theorem xi_w101 : zall cX3_freePlace [zi_101_0, zi_101_1] := zall_w _ _ (by decide +kernel)
noncomputable def xi_101 (pc : Nat) : XIs := cond (Nat.blt pc 28) (zx zi_101_0) (zx zi_101_1)
theorem xi_ok101 (pc : Nat) : xi_ok cX3_freePlace (xi_101 pc) = true := xi_c (zq1 xi_w101) (zq1 (zq2 xi_w101))
noncomputable def zi_102_0 : ZIs := [(0, ev_13), (1, ev_669), (4, ev_168), (6, ev_611), (9, ev_245), (10, ev_193), (13, ev_7), (14, ev_13), (15, ev_669), (18, ev_271), (19, ev_7), (20, ev_16), (21, ev_81)]
set_option maxRecDepth 100000 in
theorem xi_w102 : zall cX3_allNodes [zi_102_0] := zall_w _ _ (by decide +kernel)
noncomputable def xi_102 (pc : Nat) : XIs := zx zi_102_0
theorem xi_ok102 (pc : Nat) : xi_ok cX3_allNodes (xi_102 pc) = true := zq1 xi_w102
noncomputable def zi_103_0 : ZIs := [(0, ev_13), (1, ev_261), (4, ev_184), (5, ev_7), (6, ev_22), (7, ev_18), (8, ev_13), (9, ev_261), (12, ev_184), (13, ev_18), (14, ev_16), (15, ev_81)]
set_option maxRecDepth 100000 in
theorem xi_w103 : zall cX3_outCount [zi_103_0] := zall_w _ _ (by decide +kernel)
noncomputable def xi_103 (pc : Nat) : XIs := zx zi_103_0
theorem xi_ok103 (pc : Nat) : xi_ok cX3_outCount (xi_103 pc) = true := zq1 xi_w103
noncomputable def zi_104_0 : ZIs := [(0, ev_13), (1, ev_690), (4, ev_184), (5, ev_7), (6, ev_22), (7, ev_18), (8, ev_13), (9, ev_690), (12, ev_184), (13, ev_18), (14, ev_16), (15, ev_81)]
set_option maxRecDepth 100000 in
theorem xi_w104 : zall cX3_inCount [zi_104_0] := zall_w _ _ (by decide +kernel)
noncomputable def xi_104 (pc : Nat) : XIs := zx zi_104_0
theorem xi_ok104 (pc : Nat) : xi_ok cX3_inCount (xi_104 pc) = true := zq1 xi_w104
noncomputable def zi_105_0 : ZIs := [(0, ev_13), (1, ev_274), (4, ev_184), (5, ev_245), (6, ev_293), (7, ev_13), (8, ev_1), (9, ev_670), (12, ev_7), (13, ev_16), (14, ev_667), (17, ev_13), (18, ev_671), (21, ev_498), (24, ev_13), (25, ev_274)]
noncomputable def zi_105_1 : ZIs := [(28, ev_13), (29, ev_671), (32, ev_7), (33, ev_16), (34, ev_18), (35, ev_245), (36, ev_536), (39, ev_13), (40, ev_1), (41, ev_671), (44, ev_7), (45, ev_16), (46, ev_668), (49, ev_691), (52, ev_253)]
set_option maxRecDepth 100000 in
theorem xi_w105 : zall cX3_dropAt [zi_105_0, zi_105_1] := zall_w _ _ (by decide +kernel)
noncomputable def xi_105 (pc : Nat) : XIs := cond (Nat.blt pc 28) (zx zi_105_0) (zx zi_105_1)
theorem xi_ok105 (pc : Nat) : xi_ok cX3_dropAt (xi_105 pc) = true := xi_c (zq1 xi_w105) (zq1 (zq2 xi_w105))
noncomputable def zi_106_0 : ZIs := [(0, ev_13), (1, ev_692), (4, ev_13), (5, ev_539), (8, ev_606), (11, ev_253), (12, ev_13), (13, ev_13), (14, ev_539), (17, ev_664), (20, ev_13), (21, ev_693), (24, ev_10), (25, ev_665), (28, ev_13), (29, ev_694)]
noncomputable def zi_106_1 : ZIs := [(32, ev_10), (33, ev_665), (36, ev_13), (37, ev_695), (40, ev_10), (41, ev_665), (44, ev_13), (45, ev_261), (48, ev_10), (49, ev_665), (52, ev_13), (53, ev_690), (56, ev_10), (57, ev_665), (60, ev_10), (61, ev_683)]
noncomputable def zi_106_2 : ZIs := [(62, ev_184), (63, ev_13), (64, ev_671), (67, ev_291), (70, ev_13), (71, ev_274), (74, ev_184), (75, ev_18), (76, ev_245), (77, ev_696), (80, ev_13), (81, ev_13), (82, ev_274), (85, ev_184), (86, ev_18), (87, ev_13)]
noncomputable def zi_106_3 : ZIs := [(88, ev_281), (91, ev_184), (92, ev_18), (93, ev_226), (96, ev_686), (99, ev_295), (102, ev_7), (103, ev_683), (104, ev_184), (105, ev_168), (107, ev_618), (110, ev_13), (111, ev_261), (114, ev_184), (115, ev_311), (116, ev_18)]
noncomputable def zi_106_4 : ZIs := [(117, ev_13), (118, ev_261), (121, ev_184), (122, ev_7), (123, ev_16), (124, ev_18), (125, ev_22), (126, ev_293), (127, ev_13), (128, ev_690), (131, ev_184), (132, ev_311), (133, ev_18), (134, ev_13), (135, ev_690), (138, ev_184)]
noncomputable def zi_106_5 : ZIs := [(139, ev_7), (140, ev_16), (141, ev_18), (142, ev_22), (143, ev_293), (144, ev_686), (147, ev_403), (150, ev_13), (151, ev_671), (154, ev_7), (155, ev_16), (156, ev_683), (157, ev_184), (158, ev_697), (161, ev_13), (162, ev_274)]
noncomputable def zi_106_6 : ZIs := [(165, ev_184), (166, ev_18), (167, ev_245), (168, ev_698), (171, ev_13), (172, ev_261), (175, ev_13), (176, ev_274), (179, ev_184), (180, ev_18), (181, ev_311), (182, ev_18), (183, ev_7), (184, ev_16), (185, ev_293), (186, ev_13)]
noncomputable def zi_106_7 : ZIs := [(187, ev_259), (190, ev_13), (191, ev_261), (194, ev_13), (195, ev_274), (198, ev_184), (199, ev_18), (200, ev_18), (201, ev_184), (202, ev_293), (203, ev_13), (204, ev_690), (207, ev_13), (208, ev_281), (211, ev_184), (212, ev_18)]
noncomputable def zi_106_8 : ZIs := [(213, ev_311), (214, ev_18), (215, ev_7), (216, ev_16), (217, ev_293), (218, ev_13), (219, ev_699), (222, ev_13), (223, ev_690), (226, ev_13), (227, ev_281), (230, ev_184), (231, ev_18), (232, ev_18), (233, ev_184), (234, ev_293)]
noncomputable def zi_106_9 : ZIs := [(235, ev_700), (238, ev_439), (241, ev_253)]
set_option maxRecDepth 100000 in
theorem xi_w106 : zall cX3_tie [zi_106_0, zi_106_1, zi_106_2, zi_106_3, zi_106_4, zi_106_5, zi_106_6, zi_106_7, zi_106_8, zi_106_9] := zall_w _ _ (by decide +kernel)
noncomputable def xi_106 (pc : Nat) : XIs := cond (Nat.blt pc 139) (cond (Nat.blt pc 62) (cond (Nat.blt pc 32) (zx zi_106_0) (zx zi_106_1)) (cond (Nat.blt pc 88) (zx zi_106_2) (cond (Nat.blt pc 117) (zx zi_106_3) (zx zi_106_4)))) (cond (Nat.blt pc 187) (cond (Nat.blt pc 165) (zx zi_106_5) (zx zi_106_6)) (cond (Nat.blt pc 213) (zx zi_106_7) (cond (Nat.blt pc 235) (zx zi_106_8) (zx zi_106_9))))
theorem xi_ok106 (pc : Nat) : xi_ok cX3_tie (xi_106 pc) = true := xi_c (xi_c (xi_c (zq1 xi_w106) (zq1 (zq2 xi_w106))) (xi_c (zq1 (zq2 (zq2 xi_w106))) (xi_c (zq1 (zq2 (zq2 (zq2 xi_w106)))) (zq1 (zq2 (zq2 (zq2 (zq2 xi_w106)))))))) (xi_c (xi_c (zq1 (zq2 (zq2 (zq2 (zq2 (zq2 xi_w106)))))) (zq1 (zq2 (zq2 (zq2 (zq2 (zq2 (zq2 xi_w106)))))))) (xi_c (zq1 (zq2 (zq2 (zq2 (zq2 (zq2 (zq2 (zq2 xi_w106)))))))) (xi_c (zq1 (zq2 (zq2 (zq2 (zq2 (zq2 (zq2 (zq2 (zq2 xi_w106))))))))) (zq1 (zq2 (zq2 (zq2 (zq2 (zq2 (zq2 (zq2 (zq2 (zq2 xi_w106)))))))))))))
noncomputable def zi_107_0 : ZIs := [(0, ev_13), (1, ev_261), (4, ev_184), (5, ev_311), (6, ev_18), (7, ev_7), (8, ev_22), (9, ev_293), (10, ev_13), (11, ev_690), (14, ev_189), (15, ev_311), (16, ev_18), (17, ev_7), (18, ev_22), (19, ev_293)]
noncomputable def zi_107_1 : ZIs := [(20, ev_13), (21, ev_694), (24, ev_184), (25, ev_311), (26, ev_18), (27, ev_7), (28, ev_189), (29, ev_271), (30, ev_272), (31, ev_293), (32, ev_13), (33, ev_695), (36, ev_189), (37, ev_311), (38, ev_18), (39, ev_7)]
noncomputable def zi_107_2 : ZIs := [(40, ev_184), (41, ev_271), (42, ev_272), (43, ev_293), (44, ev_184), (45, ev_189), (46, ev_701), (49, ev_13), (50, ev_693), (53, ev_184), (54, ev_311), (55, ev_18), (56, ev_7), (57, ev_189), (58, ev_271), (59, ev_272)]
noncomputable def zi_107_3 : ZIs := [(60, ev_293), (61, ev_13), (62, ev_693), (65, ev_189), (66, ev_311), (67, ev_18), (68, ev_7), (69, ev_184), (70, ev_271), (71, ev_272), (72, ev_293), (73, ev_253)]
set_option maxRecDepth 100000 in
theorem xi_w107 : zall cX3_tieEnds [zi_107_0, zi_107_1, zi_107_2, zi_107_3] := zall_w _ _ (by decide +kernel)
noncomputable def xi_107 (pc : Nat) : XIs := cond (Nat.blt pc 40) (cond (Nat.blt pc 20) (zx zi_107_0) (zx zi_107_1)) (cond (Nat.blt pc 60) (zx zi_107_2) (zx zi_107_3))
theorem xi_ok107 (pc : Nat) : xi_ok cX3_tieEnds (xi_107 pc) = true := xi_c (xi_c (zq1 xi_w107) (zq1 (zq2 xi_w107))) (xi_c (zq1 (zq2 (zq2 xi_w107))) (zq1 (zq2 (zq2 (zq2 xi_w107)))))
noncomputable def zi_108_0 : ZIs := [(0, ev_13), (1, ev_244), (4, ev_13), (5, ev_245), (6, ev_246), (9, ev_13), (10, ev_168), (12, ev_8), (14, ev_247), (17, ev_13), (18, ev_168), (20, ev_8), (22, ev_363), (25, ev_13), (26, ev_245), (27, ev_250)]
noncomputable def zi_108_1 : ZIs := [(30, ev_13), (31, ev_168), (33, ev_248), (35, ev_251), (38, ev_13), (39, ev_168), (41, ev_248), (43, ev_365), (46, ev_13), (47, ev_168), (49, ev_248), (51, ev_366), (54, ev_13), (55, ev_168), (57, ev_248), (59, ev_367)]
noncomputable def zi_108_2 : ZIs := [(62, ev_13), (63, ev_168), (65, ev_248), (67, ev_702), (70, ev_253)]
set_option maxRecDepth 100000 in
theorem xi_w108 : zall cX4_init [zi_108_0, zi_108_1, zi_108_2] := zall_w _ _ (by decide +kernel)
noncomputable def xi_108 (pc : Nat) : XIs := cond (Nat.blt pc 30) (zx zi_108_0) (cond (Nat.blt pc 62) (zx zi_108_1) (zx zi_108_2))
theorem xi_ok108 (pc : Nat) : xi_ok cX4_init (xi_108 pc) = true := xi_c (zq1 xi_w108) (xi_c (zq1 (zq2 xi_w108)) (zq1 (zq2 (zq2 xi_w108))))
noncomputable def zi_109_0 : ZIs := [(0, ev_13), (1, ev_254), (4, ev_21), (5, ev_703), (8, ev_704), (11, ev_190), (12, ev_13), (13, ev_705), (16, ev_354), (19, ev_13), (20, ev_21), (21, ev_703), (24, ev_246), (27, ev_13), (28, ev_10), (29, ev_706)]
noncomputable def zi_109_1 : ZIs := [(32, ev_13), (33, ev_274), (36, ev_707), (39, ev_708), (42, ev_21), (43, ev_211), (46, ev_13), (47, ev_705), (50, ev_190), (51, ev_359), (54, ev_13), (55, ev_21), (56, ev_212), (59, ev_13), (60, ev_1), (61, ev_705)]
noncomputable def zi_109_2 : ZIs := [(64, ev_7), (65, ev_22), (66, ev_706), (69, ev_709), (72, ev_13), (73, ev_274), (76, ev_189), (77, ev_437), (78, ev_479)]
set_option maxRecDepth 100000 in
theorem xi_w109 : zall cX4_unitsOf [zi_109_0, zi_109_1, zi_109_2] := zall_w _ _ (by decide +kernel)
noncomputable def xi_109 (pc : Nat) : XIs := cond (Nat.blt pc 32) (zx zi_109_0) (cond (Nat.blt pc 64) (zx zi_109_1) (zx zi_109_2))
theorem xi_ok109 (pc : Nat) : xi_ok cX4_unitsOf (xi_109 pc) = true := xi_c (zq1 xi_w109) (xi_c (zq1 (zq2 xi_w109)) (zq1 (zq2 (zq2 xi_w109))))
noncomputable def zi_110_0 : ZIs := [(0, ev_223), (1, ev_515), (2, ev_13), (3, ev_436), (6, ev_223), (7, ev_708), (10, ev_10), (11, ev_11), (13, ev_12), (15, ev_21), (16, ev_669), (19, ev_554), (22, ev_21), (23, ev_12), (25, ev_710), (28, ev_25)]
noncomputable def zi_110_1 : ZIs := [(30, ev_191), (32, ev_321), (35, ev_223), (36, ev_711), (39, ev_13), (40, ev_274), (43, ev_12), (45, ev_437), (46, ev_712), (49, ev_490), (50, ev_713), (53, ev_191), (55, ev_167), (56, ev_490), (57, ev_488), (58, ev_58)]
noncomputable def zi_110_2 : ZIs := [(60, ev_21), (61, ev_714), (64, ev_12), (66, ev_18), (67, ev_308), (69, ev_309), (71, ev_21), (72, ev_714), (75, ev_12), (77, ev_7), (78, ev_22), (79, ev_18), (80, ev_583), (83, ev_13), (84, ev_436), (87, ev_21)]
noncomputable def zi_110_3 : ZIs := [(88, ev_715), (91, ev_21), (92, ev_716), (95, ev_309), (97, ev_18), (98, ev_18), (99, ev_311), (100, ev_437), (101, ev_458), (103, ev_455), (104, ev_186), (105, ev_313), (108, ev_717), (111, ev_487), (112, ev_13), (113, ev_274)]
noncomputable def zi_110_4 : ZIs := [(116, ev_12), (118, ev_437), (119, ev_458), (121, ev_191), (123, ev_167), (124, ev_490), (125, ev_483), (126, ev_455), (127, ev_515), (128, ev_343), (131, ev_718), (134, ev_10), (135, ev_11), (137, ev_12), (139, ev_21), (140, ev_669)]
noncomputable def zi_110_5 : ZIs := [(143, ev_719), (146, ev_13), (147, ev_436), (150, ev_12), (152, ev_311), (153, ev_437), (154, ev_487), (155, ev_21), (156, ev_669), (159, ev_167), (160, ev_488), (161, ev_12), (163, ev_167), (164, ev_487), (165, ev_21), (166, ev_669)]
noncomputable def zi_110_6 : ZIs := [(169, ev_167), (170, ev_525), (171, ev_438), (172, ev_484), (175, ev_221), (176, ev_222), (179, ev_223), (180, ev_455), (181, ev_455), (182, ev_186), (183, ev_343), (186, ev_651), (189, ev_13), (190, ev_274), (193, ev_200), (195, ev_13)]
noncomputable def zi_110_7 : ZIs := [(196, ev_13), (197, ev_436), (200, ev_247), (203, ev_13), (204, ev_196), (206, ev_363), (209, ev_253)]
set_option maxRecDepth 100000 in
theorem xi_w110 : zall cX4_shareOut [zi_110_0, zi_110_1, zi_110_2, zi_110_3, zi_110_4, zi_110_5, zi_110_6, zi_110_7] := zall_w _ _ (by decide +kernel)
noncomputable def xi_110 (pc : Nat) : XIs := cond (Nat.blt pc 116) (cond (Nat.blt pc 60) (cond (Nat.blt pc 30) (zx zi_110_0) (zx zi_110_1)) (cond (Nat.blt pc 88) (zx zi_110_2) (zx zi_110_3))) (cond (Nat.blt pc 169) (cond (Nat.blt pc 143) (zx zi_110_4) (zx zi_110_5)) (cond (Nat.blt pc 196) (zx zi_110_6) (zx zi_110_7)))
theorem xi_ok110 (pc : Nat) : xi_ok cX4_shareOut (xi_110 pc) = true := xi_c (xi_c (xi_c (zq1 xi_w110) (zq1 (zq2 xi_w110))) (xi_c (zq1 (zq2 (zq2 xi_w110))) (zq1 (zq2 (zq2 (zq2 xi_w110)))))) (xi_c (xi_c (zq1 (zq2 (zq2 (zq2 (zq2 xi_w110))))) (zq1 (zq2 (zq2 (zq2 (zq2 (zq2 xi_w110))))))) (xi_c (zq1 (zq2 (zq2 (zq2 (zq2 (zq2 (zq2 xi_w110))))))) (zq1 (zq2 (zq2 (zq2 (zq2 (zq2 (zq2 (zq2 xi_w110))))))))))
noncomputable def zi_111_0 : ZIs := [(0, ev_13), (1, ev_21), (2, ev_390), (5, ev_13), (6, ev_463), (9, ev_13), (10, ev_336), (13, ev_189), (14, ev_18), (15, ev_18), (16, ev_720), (19, ev_81)]
set_option maxRecDepth 100000 in
theorem xi_w111 : zall cX4_groupOf [zi_111_0] := zall_w _ _ (by decide +kernel)
noncomputable def xi_111 (pc : Nat) : XIs := zx zi_111_0
theorem xi_ok111 (pc : Nat) : xi_ok cX4_groupOf (xi_111 pc) = true := zq1 xi_w111
noncomputable def zi_112_0 : ZIs := [(0, ev_13), (1, ev_21), (2, ev_390), (5, ev_223), (6, ev_515), (7, ev_10), (8, ev_11), (10, ev_12), (12, ev_21), (13, ev_721), (16, ev_722), (19, ev_21), (20, ev_12), (22, ev_723), (25, ev_724), (28, ev_13)]
noncomputable def zi_112_1 : ZIs := [(29, ev_336), (32, ev_21), (33, ev_553), (36, ev_12), (38, ev_18), (39, ev_18), (40, ev_13), (41, ev_336), (44, ev_21), (45, ev_715), (48, ev_12), (50, ev_18), (51, ev_18), (52, ev_725), (55, ev_487), (56, ev_726)]
noncomputable def zi_112_2 : ZIs := [(59, ev_13), (60, ev_727), (63, ev_167), (64, ev_490), (65, ev_455), (66, ev_515), (67, ev_343), (70, ev_617), (73, ev_10), (74, ev_11), (76, ev_12), (78, ev_21), (79, ev_669), (82, ev_509), (85, ev_487), (86, ev_13)]
noncomputable def zi_112_3 : ZIs := [(87, ev_429), (90, ev_12), (92, ev_18), (93, ev_167), (94, ev_13), (95, ev_425), (98, ev_13), (99, ev_336), (102, ev_12), (104, ev_18), (105, ev_18), (106, ev_13), (107, ev_429), (110, ev_12), (112, ev_18), (113, ev_16)]
noncomputable def zi_112_4 : ZIs := [(114, ev_167), (115, ev_490), (116, ev_483), (117, ev_515), (118, ev_343), (121, ev_728), (124, ev_487), (125, ev_479)]
set_option maxRecDepth 100000 in
theorem xi_w112 : zall cX4_totalGain [zi_112_0, zi_112_1, zi_112_2, zi_112_3, zi_112_4] := zall_w _ _ (by decide +kernel)
noncomputable def xi_112 (pc : Nat) : XIs := cond (Nat.blt pc 59) (cond (Nat.blt pc 29) (zx zi_112_0) (zx zi_112_1)) (cond (Nat.blt pc 87) (zx zi_112_2) (cond (Nat.blt pc 114) (zx zi_112_3) (zx zi_112_4)))
theorem xi_ok112 (pc : Nat) : xi_ok cX4_totalGain (xi_112 pc) = true := xi_c (xi_c (zq1 xi_w112) (zq1 (zq2 xi_w112))) (xi_c (zq1 (zq2 (zq2 xi_w112))) (xi_c (zq1 (zq2 (zq2 (zq2 xi_w112)))) (zq1 (zq2 (zq2 (zq2 (zq2 xi_w112)))))))
noncomputable def zi_113_0 : ZIs := [(0, ev_13), (1, ev_357), (4, ev_21), (5, ev_703), (8, ev_606), (11, ev_253), (12, ev_13), (13, ev_21), (14, ev_703), (17, ev_250), (20, ev_13), (21, ev_21), (22, ev_729), (25, ev_7), (26, ev_288), (27, ev_10)]
noncomputable def zi_113_1 : ZIs := [(28, ev_289), (29, ev_190), (30, ev_730), (32, ev_399), (35, ev_189), (36, ev_619), (39, ev_10), (40, ev_288), (41, ev_10), (42, ev_11), (44, ev_12), (46, ev_21), (47, ev_669), (50, ev_620), (53, ev_189), (54, ev_13)]
noncomputable def zi_113_2 : ZIs := [(55, ev_21), (56, ev_12), (58, ev_731), (61, ev_272), (62, ev_288), (63, ev_343), (66, ev_622), (69, ev_294), (72, ev_403), (75, ev_253)]
set_option maxRecDepth 100000 in
theorem xi_w113 : zall cX4_settle [zi_113_0, zi_113_1, zi_113_2] := zall_w _ _ (by decide +kernel)
noncomputable def xi_113 (pc : Nat) : XIs := cond (Nat.blt pc 28) (zx zi_113_0) (cond (Nat.blt pc 55) (zx zi_113_1) (zx zi_113_2))
theorem xi_ok113 (pc : Nat) : xi_ok cX4_settle (xi_113 pc) = true := xi_c (zq1 xi_w113) (xi_c (zq1 (zq2 xi_w113)) (zq1 (zq2 (zq2 xi_w113))))
noncomputable def zi_114_0 : ZIs := [(0, ev_21), (1, ev_211), (4, ev_13), (5, ev_21), (6, ev_318), (9, ev_732), (12, ev_21), (13, ev_13), (14, ev_429), (17, ev_733), (20, ev_13), (21, ev_463), (24, ev_10), (25, ev_734), (28, ev_10), (29, ev_288)]
noncomputable def zi_114_1 : ZIs := [(30, ev_189), (31, ev_21), (32, ev_669), (35, ev_735), (38, ev_13), (39, ev_336), (42, ev_189), (43, ev_189), (44, ev_293), (45, ev_13), (46, ev_463), (49, ev_189), (50, ev_7), (51, ev_189), (52, ev_271), (53, ev_293)]
noncomputable def zi_114_2 : ZIs := [(54, ev_13), (55, ev_425), (58, ev_189), (59, ev_13), (60, ev_429), (63, ev_189), (64, ev_18), (65, ev_293), (66, ev_299), (69, ev_717), (72, ev_253)]
set_option maxRecDepth 100000 in
theorem xi_w114 : zall cX4_begin [zi_114_0, zi_114_1, zi_114_2] := zall_w _ _ (by decide +kernel)
noncomputable def xi_114 (pc : Nat) : XIs := cond (Nat.blt pc 30) (zx zi_114_0) (cond (Nat.blt pc 54) (zx zi_114_1) (zx zi_114_2))
theorem xi_ok114 (pc : Nat) : xi_ok cX4_begin (xi_114 pc) = true := xi_c (zq1 xi_w114) (xi_c (zq1 (zq2 xi_w114)) (zq1 (zq2 (zq2 xi_w114))))
noncomputable def zi_115_0 : ZIs := [(0, ev_13), (1, ev_21), (2, ev_189), (3, ev_237), (6, ev_13), (7, ev_336), (10, ev_189), (11, ev_18), (12, ev_289), (13, ev_13), (14, ev_189), (15, ev_190), (16, ev_427), (19, ev_440), (21, ev_245), (22, ev_28)]
noncomputable def zi_115_1 : ZIs := [(24, ev_10), (25, ev_269), (27, ev_21), (28, ev_736), (31, ev_189), (32, ev_18), (33, ev_308), (35, ev_309), (37, ev_737), (40, ev_13), (41, ev_336), (44, ev_309), (46, ev_720), (49, ev_18), (50, ev_322), (52, ev_324)]
noncomputable def zi_115_2 : ZIs := [(54, ev_190), (55, ev_738), (58, ev_270), (60, ev_324), (62, ev_297), (63, ev_7), (64, ev_20), (65, ev_739), (68, ev_270), (70, ev_7), (71, ev_324), (73, ev_271), (74, ev_272), (75, ev_269), (77, ev_265), (79, ev_245)]
noncomputable def zi_115_3 : ZIs := [(80, ev_740), (83, ev_13), (84, ev_189), (85, ev_324), (87, ev_265), (89, ev_741), (92, ev_325), (95, ev_324), (97, ev_636), (100, ev_265), (102, ev_28), (104, ev_309), (106, ev_309), (108, ev_7), (109, ev_16), (110, ev_20)]
noncomputable def zi_115_4 : ZIs := [(111, ev_308), (113, ev_742), (116, ev_265), (118, ev_245), (119, ev_740), (122, ev_13), (123, ev_189), (124, ev_265), (126, ev_427), (129, ev_223), (130, ev_438), (131, ev_743), (134, ev_223), (135, ev_240), (137, ev_438), (138, ev_744)]
noncomputable def zi_115_5 : ZIs := [(141, ev_13), (142, ev_189), (143, ev_13), (144, ev_745), (147, ev_746), (150, ev_220), (153, ev_7), (154, ev_222), (157, ev_10), (158, ev_81), (159, ev_13), (160, ev_189), (161, ev_265), (163, ev_427), (166, ev_240), (168, ev_438)]
noncomputable def zi_115_6 : ZIs := [(169, ev_747), (172, ev_13), (173, ev_189), (174, ev_265), (176, ev_746), (179, ev_220), (182, ev_7), (183, ev_222), (186, ev_10), (187, ev_81)]
set_option maxRecDepth 100000 in
theorem xi_w115 : zall cX4_settleNode [zi_115_0, zi_115_1, zi_115_2, zi_115_3, zi_115_4, zi_115_5, zi_115_6] := zall_w _ _ (by decide +kernel)
noncomputable def xi_115 (pc : Nat) : XIs := cond (Nat.blt pc 80) (cond (Nat.blt pc 24) (zx zi_115_0) (cond (Nat.blt pc 54) (zx zi_115_1) (zx zi_115_2))) (cond (Nat.blt pc 141) (cond (Nat.blt pc 111) (zx zi_115_3) (zx zi_115_4)) (cond (Nat.blt pc 169) (zx zi_115_5) (zx zi_115_6)))
theorem xi_ok115 (pc : Nat) : xi_ok cX4_settleNode (xi_115 pc) = true := xi_c (xi_c (zq1 xi_w115) (xi_c (zq1 (zq2 xi_w115)) (zq1 (zq2 (zq2 xi_w115))))) (xi_c (xi_c (zq1 (zq2 (zq2 (zq2 xi_w115)))) (zq1 (zq2 (zq2 (zq2 (zq2 xi_w115)))))) (xi_c (zq1 (zq2 (zq2 (zq2 (zq2 (zq2 xi_w115)))))) (zq1 (zq2 (zq2 (zq2 (zq2 (zq2 (zq2 xi_w115)))))))))
noncomputable def zi_116_0 : ZIs := [(0, ev_13), (1, ev_184), (2, ev_189), (3, ev_427), (6, ev_13), (7, ev_184), (8, ev_190), (9, ev_427), (12, ev_483), (13, ev_440), (15, ev_240), (17, ev_223), (18, ev_438), (19, ev_748), (22, ev_240), (24, ev_223)]
noncomputable def zi_116_1 : ZIs := [(25, ev_438), (26, ev_356), (29, ev_13), (30, ev_463), (33, ev_189), (34, ev_18), (35, ev_720), (38, ev_13), (39, ev_463), (42, ev_190), (43, ev_18), (44, ev_720), (47, ev_654), (50, ev_7), (51, ev_222), (54, ev_10)]
noncomputable def zi_116_2 : ZIs := [(55, ev_81)]
set_option maxRecDepth 100000 in
theorem xi_w116 : zall cX4_isBetter [zi_116_0, zi_116_1, zi_116_2] := zall_w _ _ (by decide +kernel)
noncomputable def xi_116 (pc : Nat) : XIs := cond (Nat.blt pc 25) (zx zi_116_0) (cond (Nat.blt pc 55) (zx zi_116_1) (zx zi_116_2))
theorem xi_ok116 (pc : Nat) : xi_ok cX4_isBetter (xi_116 pc) = true := xi_c (zq1 xi_w116) (xi_c (zq1 (zq2 xi_w116)) (zq1 (zq2 (zq2 xi_w116))))
noncomputable def zi_117_0 : ZIs := [(0, ev_13), (1, ev_749), (4, ev_10), (5, ev_734), (8, ev_21), (9, ev_714), (12, ev_189), (13, ev_18), (14, ev_289), (15, ev_190), (16, ev_21), (17, ev_714), (20, ev_189), (21, ev_7), (22, ev_22), (23, ev_18)]
noncomputable def zi_117_1 : ZIs := [(24, ev_544), (27, ev_13), (28, ev_749), (31, ev_13), (32, ev_336), (35, ev_21), (36, ev_715), (39, ev_21), (40, ev_716), (43, ev_190), (44, ev_18), (45, ev_18), (46, ev_18), (47, ev_311), (48, ev_18), (49, ev_7)]
noncomputable def zi_117_2 : ZIs := [(50, ev_22), (51, ev_293), (52, ev_294), (55, ev_750), (58, ev_21), (59, ev_751), (62, ev_189), (63, ev_18), (64, ev_289), (65, ev_190), (66, ev_21), (67, ev_751), (70, ev_189), (71, ev_7), (72, ev_22), (73, ev_18)]
noncomputable def zi_117_3 : ZIs := [(74, ev_544), (77, ev_13), (78, ev_749), (81, ev_13), (82, ev_336), (85, ev_21), (86, ev_553), (89, ev_21), (90, ev_752), (93, ev_190), (94, ev_18), (95, ev_18), (96, ev_18), (97, ev_311), (98, ev_18), (99, ev_7)]
noncomputable def zi_117_4 : ZIs := [(100, ev_22), (101, ev_293), (102, ev_294), (105, ev_750), (108, ev_21), (109, ev_714), (112, ev_189), (113, ev_18), (114, ev_289), (115, ev_190), (116, ev_21), (117, ev_714), (120, ev_189), (121, ev_7), (122, ev_22), (123, ev_18)]
noncomputable def zi_117_5 : ZIs := [(124, ev_610), (127, ev_21), (128, ev_715), (131, ev_21), (132, ev_716), (135, ev_190), (136, ev_18), (137, ev_18), (138, ev_189), (139, ev_753), (142, ev_13), (143, ev_749), (146, ev_13), (147, ev_336), (150, ev_189), (151, ev_18)]
noncomputable def zi_117_6 : ZIs := [(152, ev_311), (153, ev_18), (154, ev_30), (155, ev_16), (156, ev_293), (157, ev_294), (160, ev_728), (163, ev_253)]
set_option maxRecDepth 100000 in
theorem xi_w117 : zall cX4_countLinks [zi_117_0, zi_117_1, zi_117_2, zi_117_3, zi_117_4, zi_117_5, zi_117_6] := zall_w _ _ (by decide +kernel)
noncomputable def xi_117 (pc : Nat) : XIs := cond (Nat.blt pc 74) (cond (Nat.blt pc 24) (zx zi_117_0) (cond (Nat.blt pc 50) (zx zi_117_1) (zx zi_117_2))) (cond (Nat.blt pc 124) (cond (Nat.blt pc 100) (zx zi_117_3) (zx zi_117_4)) (cond (Nat.blt pc 152) (zx zi_117_5) (zx zi_117_6)))
theorem xi_ok117 (pc : Nat) : xi_ok cX4_countLinks (xi_117 pc) = true := xi_c (xi_c (zq1 xi_w117) (xi_c (zq1 (zq2 xi_w117)) (zq1 (zq2 (zq2 xi_w117))))) (xi_c (xi_c (zq1 (zq2 (zq2 (zq2 xi_w117)))) (zq1 (zq2 (zq2 (zq2 (zq2 xi_w117)))))) (xi_c (zq1 (zq2 (zq2 (zq2 (zq2 (zq2 xi_w117)))))) (zq1 (zq2 (zq2 (zq2 (zq2 (zq2 (zq2 xi_w117)))))))))
noncomputable def zi_118_0 : ZIs := [(0, ev_13), (1, ev_336), (4, ev_184), (5, ev_18), (6, ev_189), (7, ev_754), (10, ev_13), (11, ev_425), (14, ev_189), (15, ev_18), (16, ev_13), (17, ev_429), (20, ev_184), (21, ev_18), (22, ev_16), (23, ev_187)]
noncomputable def zi_118_1 : ZIs := [(26, ev_13), (27, ev_425), (30, ev_189), (31, ev_18), (32, ev_289), (33, ev_755), (36, ev_13), (37, ev_727), (40, ev_167), (41, ev_490), (42, ev_13), (43, ev_749), (46, ev_189), (47, ev_18), (48, ev_167), (49, ev_490)]
noncomputable def zi_118_2 : ZIs := [(50, ev_13), (51, ev_429), (54, ev_184), (55, ev_18), (56, ev_167), (57, ev_190), (58, ev_167), (59, ev_490), (60, ev_483), (61, ev_479)]
set_option maxRecDepth 100000 in
theorem xi_w118 : zall cX4_score [zi_118_0, zi_118_1, zi_118_2] := zall_w _ _ (by decide +kernel)
noncomputable def xi_118 (pc : Nat) : XIs := cond (Nat.blt pc 26) (zx zi_118_0) (cond (Nat.blt pc 50) (zx zi_118_1) (zx zi_118_2))
theorem xi_ok118 (pc : Nat) : xi_ok cX4_score (xi_118 pc) = true := xi_c (zq1 xi_w118) (xi_c (zq1 (zq2 xi_w118)) (zq1 (zq2 (zq2 xi_w118))))
noncomputable def zi_119_0 : ZIs := [(0, ev_10), (1, ev_683), (2, ev_184), (3, ev_168), (5, ev_684), (8, ev_13), (9, ev_463), (12, ev_184), (13, ev_18), (14, ev_373), (17, ev_184), (18, ev_81), (19, ev_686), (22, ev_756), (25, ev_245), (26, ev_81)]
set_option maxRecDepth 100000 in
theorem xi_w119 : zall cX4_freeGroup [zi_119_0] := zall_w _ _ (by decide +kernel)
noncomputable def xi_119 (pc : Nat) : XIs := zx zi_119_0
theorem xi_ok119 (pc : Nat) : xi_ok cX4_freeGroup (xi_119 pc) = true := zq1 xi_w119
noncomputable def zi_120_0 : ZIs := [(0, ev_189), (1, ev_245), (2, ev_689), (5, ev_10), (6, ev_81), (7, ev_13), (8, ev_336), (11, ev_184), (12, ev_18), (13, ev_289), (14, ev_13), (15, ev_463), (18, ev_190), (19, ev_311), (20, ev_18), (21, ev_7)]
noncomputable def zi_120_1 : ZIs := [(22, ev_184), (23, ev_271), (24, ev_245), (25, ev_312), (26, ev_20), (27, ev_293), (28, ev_13), (29, ev_425), (32, ev_190), (33, ev_311), (34, ev_18), (35, ev_13), (36, ev_429), (39, ev_184), (40, ev_18), (41, ev_16)]
noncomputable def zi_120_2 : ZIs := [(42, ev_293), (43, ev_13), (44, ev_425), (47, ev_189), (48, ev_13), (49, ev_463), (52, ev_189), (53, ev_18), (54, ev_394), (57, ev_13), (58, ev_429), (61, ev_184), (62, ev_18), (63, ev_757), (66, ev_13), (67, ev_425)]
noncomputable def zi_120_3 : ZIs := [(70, ev_189), (71, ev_18), (72, ev_13), (73, ev_429), (76, ev_184), (77, ev_18), (78, ev_22), (79, ev_293), (80, ev_13), (81, ev_463), (84, ev_189), (85, ev_311), (86, ev_18), (87, ev_7), (88, ev_184), (89, ev_271)]
noncomputable def zi_120_4 : ZIs := [(90, ev_272), (91, ev_293), (92, ev_13), (93, ev_336), (96, ev_184), (97, ev_189), (98, ev_293), (99, ev_7), (100, ev_81)]
set_option maxRecDepth 100000 in
theorem xi_w120 : zall cX4_moveTo [zi_120_0, zi_120_1, zi_120_2, zi_120_3, zi_120_4] := zall_w _ _ (by decide +kernel)
noncomputable def xi_120 (pc : Nat) : XIs := cond (Nat.blt pc 42) (cond (Nat.blt pc 22) (zx zi_120_0) (zx zi_120_1)) (cond (Nat.blt pc 70) (zx zi_120_2) (cond (Nat.blt pc 90) (zx zi_120_3) (zx zi_120_4)))
theorem xi_ok120 (pc : Nat) : xi_ok cX4_moveTo (xi_120 pc) = true := xi_c (xi_c (zq1 xi_w120) (zq1 (zq2 xi_w120))) (xi_c (zq1 (zq2 (zq2 xi_w120))) (xi_c (zq1 (zq2 (zq2 (zq2 xi_w120)))) (zq1 (zq2 (zq2 (zq2 (zq2 xi_w120)))))))
noncomputable def zi_121_0 : ZIs := [(0, ev_13), (1, ev_244), (4, ev_13), (5, ev_758), (8, ev_1), (9, ev_759), (12, ev_760), (15, ev_13), (16, ev_758), (19, ev_1), (20, ev_759), (23, ev_249), (26, ev_13), (27, ev_761), (30, ev_248), (32, ev_655)]
noncomputable def zi_121_1 : ZIs := [(35, ev_13), (36, ev_33), (37, ev_248), (39, ev_251), (42, ev_253)]
set_option maxRecDepth 100000 in
theorem xi_w121 : zall cX5_init [zi_121_0, zi_121_1] := zall_w _ _ (by decide +kernel)
noncomputable def xi_121 (pc : Nat) : XIs := cond (Nat.blt pc 35) (zx zi_121_0) (zx zi_121_1)
theorem xi_ok121 (pc : Nat) : xi_ok cX5_init (xi_121 pc) = true := xi_c (zq1 xi_w121) (zq1 (zq2 xi_w121))
noncomputable def zi_122_0 : ZIs := [(0, ev_13), (1, ev_762), (4, ev_277), (7, ev_763), (10, ev_611), (13, ev_7), (14, ev_222), (17, ev_10), (18, ev_81)]
set_option maxRecDepth 100000 in
theorem xi_w122 : zall cX5_isFull [zi_122_0] := zall_w _ _ (by decide +kernel)
noncomputable def xi_122 (pc : Nat) : XIs := zx zi_122_0
theorem xi_ok122 (pc : Nat) : xi_ok cX5_isFull (xi_122 pc) = true := zq1 xi_w122
noncomputable def zi_123_0 : ZIs := [(0, ev_13), (1, ev_762), (4, ev_184), (5, ev_201), (8, ev_764), (11, ev_13), (12, ev_762), (15, ev_189), (16, ev_201), (19, ev_765), (22, ev_190), (23, ev_766), (26, ev_767), (29, ev_12), (31, ev_768), (34, ev_769)]
noncomputable def zi_123_1 : ZIs := [(37, ev_191), (39, ev_770), (42, ev_220), (45, ev_7), (46, ev_222), (49, ev_10), (50, ev_81)]
set_option maxRecDepth 100000 in
theorem xi_w123 : zall cX5_isGoodArc [zi_123_0, zi_123_1] := zall_w _ _ (by decide +kernel)
noncomputable def xi_123 (pc : Nat) : XIs := cond (Nat.blt pc 37) (zx zi_123_0) (zx zi_123_1)
theorem xi_ok123 (pc : Nat) : xi_ok cX5_isGoodArc (xi_123 pc) = true := xi_c (zq1 xi_w123) (zq1 (zq2 xi_w123))
noncomputable def zi_124_0 : ZIs := [(0, ev_13), (1, ev_10), (2, ev_13), (3, ev_762), (6, ev_690), (9, ev_184), (10, ev_10), (11, ev_208), (14, ev_13), (15, ev_762), (18, ev_690), (21, ev_7), (22, ev_16), (23, ev_81)]
set_option maxRecDepth 100000 in
theorem xi_w124 : zall cX5_addNode [zi_124_0] := zall_w _ _ (by decide +kernel)
noncomputable def xi_124 (pc : Nat) : XIs := zx zi_124_0
theorem xi_ok124 (pc : Nat) : xi_ok cX5_addNode (xi_124 pc) = true := zq1 xi_w124
noncomputable def zi_125_0 : ZIs := [(0, ev_13), (1, ev_762), (4, ev_771), (7, ev_28), (9, ev_265), (11, ev_245), (12, ev_772), (15, ev_773), (17, ev_81), (18, ev_13), (19, ev_774), (22, ev_269), (24, ev_13), (25, ev_673), (28, ev_270), (30, ev_7)]
noncomputable def zi_125_1 : ZIs := [(31, ev_293), (32, ev_13), (33, ev_673), (36, ev_270), (38, ev_7), (39, ev_22), (40, ev_265), (42, ev_293), (43, ev_13), (44, ev_673), (47, ev_270), (49, ev_30), (50, ev_22), (51, ev_184), (52, ev_293), (53, ev_13)]
noncomputable def zi_125_2 : ZIs := [(54, ev_673), (57, ev_270), (59, ev_31), (60, ev_22), (61, ev_189), (62, ev_293), (63, ev_13), (64, ev_673), (67, ev_270), (69, ev_32), (70, ev_22), (71, ev_190), (72, ev_293), (73, ev_13), (74, ev_673), (77, ev_270)]
noncomputable def zi_125_3 : ZIs := [(79, ev_33), (80, ev_22), (81, ev_12), (83, ev_293), (84, ev_13), (85, ev_673), (88, ev_270), (90, ev_15), (92, ev_22), (93, ev_191), (95, ev_293), (96, ev_13), (97, ev_13), (98, ev_762), (101, ev_775), (104, ev_265)]
noncomputable def zi_125_4 : ZIs := [(106, ev_81)]
set_option maxRecDepth 100000 in
theorem xi_w125 : zall cX5_addArc [zi_125_0, zi_125_1, zi_125_2, zi_125_3, zi_125_4] := zall_w _ _ (by decide +kernel)
noncomputable def xi_125 (pc : Nat) : XIs := cond (Nat.blt pc 54) (cond (Nat.blt pc 31) (zx zi_125_0) (zx zi_125_1)) (cond (Nat.blt pc 79) (zx zi_125_2) (cond (Nat.blt pc 106) (zx zi_125_3) (zx zi_125_4)))
theorem xi_ok125 (pc : Nat) : xi_ok cX5_addArc (xi_125 pc) = true := xi_c (xi_c (zq1 xi_w125) (zq1 (zq2 xi_w125))) (xi_c (zq1 (zq2 (zq2 xi_w125))) (xi_c (zq1 (zq2 (zq2 (zq2 xi_w125)))) (zq1 (zq2 (zq2 (zq2 (zq2 xi_w125)))))))
noncomputable def zi_126_0 : ZIs := [(0, ev_13), (1, ev_30), (2, ev_184), (3, ev_10), (4, ev_10), (5, ev_208), (8, ev_253)]
set_option maxRecDepth 100000 in
theorem xi_w126 : zall cX5_dropArc [zi_126_0] := zall_w _ _ (by decide +kernel)
noncomputable def xi_126 (pc : Nat) : XIs := zx zi_126_0
theorem xi_ok126 (pc : Nat) : xi_ok cX5_dropArc (xi_126 pc) = true := zq1 xi_w126
noncomputable def zi_127_0 : ZIs := [(0, ev_13), (1, ev_31), (2, ev_184), (3, ev_189), (4, ev_190), (5, ev_208), (8, ev_253)]
set_option maxRecDepth 100000 in
theorem xi_w127 : zall cX5_changeArc [zi_127_0] := zall_w _ _ (by decide +kernel)
noncomputable def xi_127 (pc : Nat) : XIs := zx zi_127_0
theorem xi_ok127 (pc : Nat) : xi_ok cX5_changeArc (xi_127 pc) = true := zq1 xi_w127
noncomputable def zi_128_0 : ZIs := [(0, ev_13), (1, ev_32), (2, ev_184), (3, ev_189), (4, ev_10), (5, ev_208), (8, ev_253)]
set_option maxRecDepth 100000 in
theorem xi_w128 : zall cX5_relabel [zi_128_0] := zall_w _ _ (by decide +kernel)
noncomputable def xi_128 (pc : Nat) : XIs := zx zi_128_0
theorem xi_ok128 (pc : Nat) : xi_ok cX5_relabel (xi_128 pc) = true := zq1 xi_w128
noncomputable def zi_129_0 : ZIs := [(0, ev_13), (1, ev_774), (4, ev_25), (6, ev_13), (7, ev_673), (10, ev_191), (12, ev_184), (13, ev_293), (14, ev_13), (15, ev_673), (18, ev_191), (20, ev_7), (21, ev_22), (22, ev_189), (23, ev_293), (24, ev_13)]
noncomputable def zi_129_1 : ZIs := [(25, ev_673), (28, ev_191), (30, ev_30), (31, ev_22), (32, ev_190), (33, ev_293), (34, ev_13), (35, ev_673), (38, ev_191), (40, ev_31), (41, ev_22), (42, ev_12), (44, ev_293), (45, ev_13), (46, ev_13), (47, ev_762)]
noncomputable def zi_129_2 : ZIs := [(50, ev_775), (53, ev_253)]
set_option maxRecDepth 100000 in
theorem xi_w129 : zall cX5_note [zi_129_0, zi_129_1, zi_129_2] := zall_w _ _ (by decide +kernel)
noncomputable def xi_129 (pc : Nat) : XIs := cond (Nat.blt pc 25) (zx zi_129_0) (cond (Nat.blt pc 50) (zx zi_129_1) (zx zi_129_2))
theorem xi_ok129 (pc : Nat) : xi_ok cX5_note (xi_129 pc) = true := xi_c (zq1 xi_w129) (xi_c (zq1 (zq2 xi_w129)) (zq1 (zq2 (zq2 xi_w129))))
noncomputable def zi_130_0 : ZIs := [(0, ev_13), (1, ev_762), (4, ev_277), (7, ev_466), (9, ev_350), (10, ev_683), (11, ev_184), (12, ev_466), (14, ev_22), (15, ev_13), (16, ev_673), (19, ev_14), (20, ev_776), (23, ev_13), (24, ev_13), (25, ev_673)]
noncomputable def zi_130_1 : ZIs := [(28, ev_184), (29, ev_466), (31, ev_22), (32, ev_30), (33, ev_13), (34, ev_673), (37, ev_14), (38, ev_350), (39, ev_777), (42, ev_778), (45, ev_779), (48, ev_780), (51, ev_655), (54, ev_184), (55, ev_81)]
set_option maxRecDepth 100000 in
theorem xi_w130 : zall cX5_openRow [zi_130_0, zi_130_1] := zall_w _ _ (by decide +kernel)
noncomputable def xi_130 (pc : Nat) : XIs := cond (Nat.blt pc 28) (zx zi_130_0) (zx zi_130_1)
theorem xi_ok130 (pc : Nat) : xi_ok cX5_openRow (xi_130 pc) = true := xi_c (zq1 xi_w130) (zq1 (zq2 xi_w130))
noncomputable def zi_131_0 : ZIs := [(0, ev_21), (1, ev_277), (4, ev_466), (6, ev_350), (7, ev_288), (8, ev_13), (9, ev_673), (12, ev_189), (13, ev_7), (14, ev_22), (15, ev_18), (16, ev_289), (17, ev_21), (18, ev_1), (19, ev_277), (22, ev_7)]
noncomputable def zi_131_1 : ZIs := [(23, ev_22), (24, ev_252), (27, ev_13), (28, ev_673), (31, ev_189), (32, ev_18)]
noncomputable def xi_131_2 : XIs := [(33, .tableswitch 101 0 3 #[31, 58, 68, 76], 31)]
set_option maxRecDepth 100000 in
theorem xi_ok131_2 : xi_ok cX5_apply xi_131_2 = true := by decide +kernel
noncomputable def zi_131_3 : ZIs := [(64, ev_21), (65, ev_715), (68, ev_190), (69, ev_13), (70, ev_673), (73, ev_189), (74, ev_30), (75, ev_22), (76, ev_18), (77, ev_293), (78, ev_21), (79, ev_1), (80, ev_690), (83, ev_7), (84, ev_22), (85, ev_662)]
noncomputable def zi_131_4 : ZIs := [(88, ev_781), (91, ev_13), (92, ev_21), (93, ev_189), (94, ev_190), (95, ev_782), (98, ev_783), (101, ev_21), (102, ev_190), (103, ev_784), (106, ev_785), (109, ev_13), (110, ev_21), (111, ev_190), (112, ev_13), (113, ev_673)]
noncomputable def zi_131_5 : ZIs := [(116, ev_189), (117, ev_30), (118, ev_22), (119, ev_18), (120, ev_13), (121, ev_673), (124, ev_189), (125, ev_31), (126, ev_22), (127, ev_18), (128, ev_227), (131, ev_786), (134, ev_21), (135, ev_715), (138, ev_190), (139, ev_13)]
noncomputable def zi_131_6 : ZIs := [(140, ev_673), (143, ev_189), (144, ev_30), (145, ev_22), (146, ev_18), (147, ev_293), (148, ev_253)]
set_option maxRecDepth 100000 in
theorem xi_w131 : zall cX5_apply [zi_131_0, zi_131_1, zi_131_3, zi_131_4, zi_131_5, zi_131_6] := zall_w _ _ (by decide +kernel)
noncomputable def xi_131 (pc : Nat) : XIs := cond (Nat.blt pc 64) (cond (Nat.blt pc 23) (zx zi_131_0) (cond (Nat.blt pc 33) (zx zi_131_1) (xi_131_2))) (cond (Nat.blt pc 116) (cond (Nat.blt pc 88) (zx zi_131_3) (zx zi_131_4)) (cond (Nat.blt pc 140) (zx zi_131_5) (zx zi_131_6)))
theorem xi_ok131 (pc : Nat) : xi_ok cX5_apply (xi_131 pc) = true := xi_c (xi_c (zq1 xi_w131) (xi_c (zq1 (zq2 xi_w131)) (xi_ok131_2))) (xi_c (xi_c (zq1 (zq2 (zq2 xi_w131))) (zq1 (zq2 (zq2 (zq2 xi_w131))))) (xi_c (zq1 (zq2 (zq2 (zq2 (zq2 xi_w131))))) (zq1 (zq2 (zq2 (zq2 (zq2 (zq2 xi_w131))))))))
noncomputable def zi_132_0 : ZIs := [(0, ev_21), (1, ev_787), (4, ev_190), (5, ev_13), (6, ev_673), (9, ev_189), (10, ev_30), (11, ev_22), (12, ev_18), (13, ev_293), (14, ev_21), (15, ev_788), (18, ev_190), (19, ev_13), (20, ev_673), (23, ev_189)]
noncomputable def zi_132_1 : ZIs := [(24, ev_31), (25, ev_22), (26, ev_18), (27, ev_293), (28, ev_21), (29, ev_789), (32, ev_190), (33, ev_13), (34, ev_673), (37, ev_189), (38, ev_32), (39, ev_22), (40, ev_18), (41, ev_293), (42, ev_21), (43, ev_727)]
noncomputable def zi_132_2 : ZIs := [(46, ev_190), (47, ev_13), (48, ev_673), (51, ev_189), (52, ev_33), (53, ev_22), (54, ev_18), (55, ev_293), (56, ev_21), (57, ev_790), (60, ev_190), (61, ev_13), (62, ev_673), (65, ev_189), (66, ev_15), (68, ev_22)]
noncomputable def zi_132_3 : ZIs := [(69, ev_18), (70, ev_293), (71, ev_21), (72, ev_1), (73, ev_791), (76, ev_7), (77, ev_22), (78, ev_792), (81, ev_21), (82, ev_21), (83, ev_793), (86, ev_190), (87, ev_7), (88, ev_22), (89, ev_779), (92, ev_794)]
noncomputable def zi_132_4 : ZIs := [(95, ev_253)]
set_option maxRecDepth 100000 in
theorem xi_w132 : zall cX5_applyArc [zi_132_0, zi_132_1, zi_132_2, zi_132_3, zi_132_4] := zall_w _ _ (by decide +kernel)
noncomputable def xi_132 (pc : Nat) : XIs := cond (Nat.blt pc 46) (cond (Nat.blt pc 24) (zx zi_132_0) (zx zi_132_1)) (cond (Nat.blt pc 69) (zx zi_132_2) (cond (Nat.blt pc 95) (zx zi_132_3) (zx zi_132_4)))
theorem xi_ok132 (pc : Nat) : xi_ok cX5_applyArc (xi_132 pc) = true := xi_c (xi_c (zq1 xi_w132) (zq1 (zq2 xi_w132))) (xi_c (zq1 (zq2 (zq2 xi_w132))) (xi_c (zq1 (zq2 (zq2 (zq2 xi_w132)))) (zq1 (zq2 (zq2 (zq2 (zq2 xi_w132)))))))
noncomputable def zi_133_0 : ZIs := [(0, ev_190), (1, ev_385), (4, ev_21), (5, ev_789), (8, ev_189), (9, ev_12), (11, ev_293), (12, ev_795), (15, ev_190), (16, ev_7), (17, ev_796), (20, ev_21), (21, ev_727), (24, ev_189), (25, ev_12), (27, ev_293)]
noncomputable def zi_133_1 : ZIs := [(28, ev_193), (31, ev_21), (32, ev_790), (35, ev_189), (36, ev_12), (38, ev_293), (39, ev_253)]
set_option maxRecDepth 100000 in
theorem xi_w133 : zall cX5_applyValue [zi_133_0, zi_133_1] := zall_w _ _ (by decide +kernel)
noncomputable def xi_133 (pc : Nat) : XIs := cond (Nat.blt pc 28) (zx zi_133_0) (zx zi_133_1)
theorem xi_ok133 (pc : Nat) : xi_ok cX5_applyValue (xi_133 pc) = true := xi_c (zq1 xi_w133) (zq1 (zq2 xi_w133))
noncomputable def zi_134_0 : ZIs := [(0, ev_189), (1, ev_21), (2, ev_277), (5, ev_654), (8, ev_21), (9, ev_797), (12, ev_21), (13, ev_277), (16, ev_289), (17, ev_190), (18, ev_189), (19, ev_798), (22, ev_13), (23, ev_21), (24, ev_775), (27, ev_294)]
noncomputable def zi_134_1 : ZIs := [(30, ev_799), (33, ev_253)]
set_option maxRecDepth 100000 in
theorem xi_w134 : zall cX5_replay [zi_134_0, zi_134_1] := zall_w _ _ (by decide +kernel)
noncomputable def xi_134 (pc : Nat) : XIs := cond (Nat.blt pc 30) (zx zi_134_0) (zx zi_134_1)
theorem xi_ok134 (pc : Nat) : xi_ok cX5_replay (xi_134 pc) = true := xi_c (zq1 xi_w134) (zq1 (zq2 xi_w134))
noncomputable def zi_135_0 : ZIs := [(0, ev_13), (1, ev_281), (4, ev_13), (5, ev_762), (8, ev_800), (11, ev_21), (12, ev_236), (15, ev_10), (16, ev_288), (17, ev_189), (18, ev_801), (21, ev_802), (24, ev_21), (25, ev_466), (27, ev_7), (28, ev_803)]
noncomputable def zi_135_1 : ZIs := [(31, ev_21), (32, ev_804), (35, ev_373), (38, ev_189), (39, ev_81), (40, ev_13), (41, ev_21), (42, ev_241), (45, ev_805), (48, ev_13), (49, ev_762), (52, ev_13), (53, ev_281), (56, ev_800), (59, ev_806), (61, ev_81)]
noncomputable def zi_135_2 : ZIs := [(62, ev_299), (65, ev_568), (68, ev_806), (70, ev_81)]
set_option maxRecDepth 100000 in
theorem xi_w135 : zall cX5_carryOut [zi_135_0, zi_135_1, zi_135_2] := zall_w _ _ (by decide +kernel)
noncomputable def xi_135 (pc : Nat) : XIs := cond (Nat.blt pc 31) (zx zi_135_0) (cond (Nat.blt pc 62) (zx zi_135_1) (zx zi_135_2))
theorem xi_ok135 (pc : Nat) : xi_ok cX5_carryOut (xi_135 pc) = true := xi_c (zq1 xi_w135) (xi_c (zq1 (zq2 xi_w135)) (zq1 (zq2 (zq2 xi_w135))))
noncomputable def zi_136_0 : ZIs := [(0, ev_21), (1, ev_807), (4, ev_288), (5, ev_21), (6, ev_804), (9, ev_7), (10, ev_808), (13, ev_21), (14, ev_809), (17, ev_222), (20, ev_245), (21, ev_289), (22, ev_190), (23, ev_810), (26, ev_200), (28, ev_196)]
noncomputable def zi_136_1 : ZIs := [(30, ev_811), (33, ev_380), (36, ev_21), (37, ev_30), (38, ev_31), (39, ev_812), (42, ev_81), (43, ev_10), (44, ev_25), (46, ev_191), (48, ev_196), (50, ev_605), (53, ev_813), (56, ev_191), (58, ev_13), (59, ev_336)]
noncomputable def zi_136_2 : ZIs := [(62, ev_14), (63, ev_814), (66, ev_21), (67, ev_466), (69, ev_7), (70, ev_803), (73, ev_196), (75, ev_191), (77, ev_607), (80, ev_815), (82, ev_816), (85, ev_7), (86, ev_222), (89, ev_30), (90, ev_28), (92, ev_21)]
noncomputable def zi_136_3 : ZIs := [(93, ev_804), (96, ev_265), (98, ev_817), (101, ev_21), (102, ev_30), (103, ev_31), (104, ev_812), (107, ev_81), (108, ev_13), (109, ev_336), (112, ev_191), (114, ev_21), (115, ev_809), (118, ev_293), (119, ev_338), (122, ev_818)]
noncomputable def zi_136_4 : ZIs := [(125, ev_21), (126, ev_466), (128, ev_7), (129, ev_803), (132, ev_21), (133, ev_374), (135, ev_819), (138, ev_376), (141, ev_21), (142, ev_30), (143, ev_31), (144, ev_812), (147, ev_81), (148, ev_13), (149, ev_190), (150, ev_44)]
noncomputable def zi_136_5 : ZIs := [(153, ev_394), (156, ev_21), (157, ev_32), (158, ev_189), (159, ev_47), (162, ev_220), (165, ev_7), (166, ev_222), (169, ev_10), (170, ev_81)]
set_option maxRecDepth 100000 in
theorem xi_w136 : zall cX5_readCommand [zi_136_0, zi_136_1, zi_136_2, zi_136_3, zi_136_4, zi_136_5] := zall_w _ _ (by decide +kernel)
noncomputable def xi_136 (pc : Nat) : XIs := cond (Nat.blt pc 93) (cond (Nat.blt pc 30) (zx zi_136_0) (cond (Nat.blt pc 62) (zx zi_136_1) (zx zi_136_2))) (cond (Nat.blt pc 125) (zx zi_136_3) (cond (Nat.blt pc 153) (zx zi_136_4) (zx zi_136_5)))
theorem xi_ok136 (pc : Nat) : xi_ok cX5_readCommand (xi_136 pc) = true := xi_c (xi_c (zq1 xi_w136) (xi_c (zq1 (zq2 xi_w136)) (zq1 (zq2 (zq2 xi_w136))))) (xi_c (zq1 (zq2 (zq2 (zq2 xi_w136)))) (xi_c (zq1 (zq2 (zq2 (zq2 (zq2 xi_w136))))) (zq1 (zq2 (zq2 (zq2 (zq2 (zq2 xi_w136))))))))
noncomputable def zi_137_0 : ZIs := [(0, ev_480)]
noncomputable def xi_137_1 : XIs := [(1, .lookupswitch 55 #[(0, 46), (13, 43), (19, 49), (22, 52)], 43)]
set_option maxRecDepth 100000 in
theorem xi_ok137_1 : xi_ok cX5_shapeOf xi_137_1 = true := by decide +kernel
noncomputable def zi_137_2 : ZIs := [(44, ev_820), (46, ev_821), (47, ev_822), (49, ev_821), (50, ev_823), (52, ev_821), (53, ev_824), (55, ev_821), (56, ev_825), (58, ev_821)]
set_option maxRecDepth 100000 in
theorem xi_w137 : zall cX5_shapeOf [zi_137_0, zi_137_2] := zall_w _ _ (by decide +kernel)
noncomputable def xi_137 (pc : Nat) : XIs := cond (Nat.blt pc 1) (zx zi_137_0) (cond (Nat.blt pc 44) (xi_137_1) (zx zi_137_2))
theorem xi_ok137 (pc : Nat) : xi_ok cX5_shapeOf (xi_137 pc) = true := xi_c (zq1 xi_w137) (xi_c (xi_ok137_1) (zq1 (zq2 xi_w137)))
noncomputable def zi_138_0 : ZIs := [(0, ev_13), (1, ev_826), (4, ev_298), (7, ev_10), (8, ev_81), (9, ev_184), (10, ev_653), (12, ev_827), (15, ev_13), (16, ev_762), (19, ev_690), (22, ev_168), (24, ev_684), (27, ev_13), (28, ev_13), (29, ev_336)]
noncomputable def zi_138_1 : ZIs := [(32, ev_10), (33, ev_18), (34, ev_828), (37, ev_829), (40, ev_7), (41, ev_222), (44, ev_10), (45, ev_81), (46, ev_184), (47, ev_830), (50, ev_13), (51, ev_13), (52, ev_336), (55, ev_10), (56, ev_18), (57, ev_13)]
noncomputable def zi_138_2 : ZIs := [(58, ev_336), (61, ev_7), (62, ev_18), (63, ev_13), (64, ev_336), (67, ev_30), (68, ev_18), (69, ev_13), (70, ev_336), (73, ev_31), (74, ev_18), (75, ev_13), (76, ev_336), (79, ev_32), (80, ev_18), (81, ev_67)]
noncomputable def zi_138_3 : ZIs := [(84, ev_831), (87, ev_13), (88, ev_13), (89, ev_336), (92, ev_10), (93, ev_18), (94, ev_13), (95, ev_336), (98, ev_7), (99, ev_18), (100, ev_13), (101, ev_336), (104, ev_30), (105, ev_18), (106, ev_13), (107, ev_336)]
noncomputable def zi_138_4 : ZIs := [(110, ev_31), (111, ev_18), (112, ev_13), (113, ev_336), (116, ev_32), (117, ev_18), (118, ev_70), (121, ev_773), (123, ev_679), (126, ev_7), (127, ev_222), (130, ev_10), (131, ev_81), (132, ev_13), (133, ev_762), (136, ev_13)]
noncomputable def zi_138_5 : ZIs := [(137, ev_336), (140, ev_10), (141, ev_18), (142, ev_73), (145, ev_373), (148, ev_10), (149, ev_81), (150, ev_184), (151, ev_832), (153, ev_725), (156, ev_13), (157, ev_13), (158, ev_336), (161, ev_10), (162, ev_18), (163, ev_76)]
noncomputable def zi_138_6 : ZIs := [(166, ev_7), (167, ev_81), (168, ev_13), (169, ev_336), (172, ev_7), (173, ev_18), (174, ev_766), (177, ev_373), (180, ev_10), (181, ev_81), (182, ev_13), (183, ev_13), (184, ev_336), (187, ev_10), (188, ev_18), (189, ev_10)]
noncomputable def zi_138_7 : ZIs := [(190, ev_13), (191, ev_336), (194, ev_7), (195, ev_18), (196, ev_833), (199, ev_7), (200, ev_81)]
set_option maxRecDepth 100000 in
theorem xi_w138 : zall cX5_doCommand [zi_138_0, zi_138_1, zi_138_2, zi_138_3, zi_138_4, zi_138_5, zi_138_6, zi_138_7] := zall_w _ _ (by decide +kernel)
noncomputable def xi_138 (pc : Nat) : XIs := cond (Nat.blt pc 110) (cond (Nat.blt pc 58) (cond (Nat.blt pc 32) (zx zi_138_0) (zx zi_138_1)) (cond (Nat.blt pc 84) (zx zi_138_2) (zx zi_138_3))) (cond (Nat.blt pc 166) (cond (Nat.blt pc 137) (zx zi_138_4) (zx zi_138_5)) (cond (Nat.blt pc 190) (zx zi_138_6) (zx zi_138_7)))
theorem xi_ok138 (pc : Nat) : xi_ok cX5_doCommand (xi_138 pc) = true := xi_c (xi_c (xi_c (zq1 xi_w138) (zq1 (zq2 xi_w138))) (xi_c (zq1 (zq2 (zq2 xi_w138))) (zq1 (zq2 (zq2 (zq2 xi_w138)))))) (xi_c (xi_c (zq1 (zq2 (zq2 (zq2 (zq2 xi_w138))))) (zq1 (zq2 (zq2 (zq2 (zq2 (zq2 xi_w138))))))) (xi_c (zq1 (zq2 (zq2 (zq2 (zq2 (zq2 (zq2 xi_w138))))))) (zq1 (zq2 (zq2 (zq2 (zq2 (zq2 (zq2 (zq2 xi_w138))))))))))
noncomputable def zi_139_0 : ZIs := [(0, ev_13), (1, ev_244), (4, ev_13), (5, ev_245), (6, ev_246), (9, ev_13), (10, ev_168), (12, ev_248), (14, ev_247), (17, ev_13), (18, ev_245), (19, ev_363), (22, ev_13), (23, ev_168), (25, ev_248), (27, ev_250)]
noncomputable def zi_139_1 : ZIs := [(30, ev_13), (31, ev_168), (33, ev_248), (35, ev_251), (38, ev_253)]
set_option maxRecDepth 100000 in
theorem xi_w139 : zall cX6_init [zi_139_0, zi_139_1] := zall_w _ _ (by decide +kernel)
noncomputable def xi_139 (pc : Nat) : XIs := cond (Nat.blt pc 30) (zx zi_139_0) (zx zi_139_1)
theorem xi_ok139 (pc : Nat) : xi_ok cX6_init (xi_139 pc) = true := xi_c (zq1 xi_w139) (zq1 (zq2 xi_w139))
noncomputable def zi_140_0 : ZIs := [(0, ev_21), (1, ev_199), (4, ev_21), (5, ev_694), (8, ev_7), (9, ev_189), (10, ev_271), (11, ev_245), (12, ev_766), (15, ev_21), (16, ev_573), (19, ev_7), (20, ev_189), (21, ev_271), (22, ev_245), (23, ev_766)]
noncomputable def zi_140_1 : ZIs := [(26, ev_20), (27, ev_834), (30, ev_81)]
set_option maxRecDepth 100000 in
theorem xi_w140 : zall cX6_strongPart [zi_140_0, zi_140_1] := zall_w _ _ (by decide +kernel)
noncomputable def xi_140 (pc : Nat) : XIs := cond (Nat.blt pc 26) (zx zi_140_0) (zx zi_140_1)
theorem xi_ok140 (pc : Nat) : xi_ok cX6_strongPart (xi_140 pc) = true := xi_c (zq1 xi_w140) (zq1 (zq2 xi_w140))
noncomputable def zi_141_0 : ZIs := [(0, ev_21), (1, ev_199), (4, ev_21), (5, ev_638), (8, ev_7), (9, ev_189), (10, ev_271), (11, ev_245), (12, ev_766), (15, ev_834), (18, ev_81)]
set_option maxRecDepth 100000 in
theorem xi_w141 : zall cX6_weakPart [zi_141_0] := zall_w _ _ (by decide +kernel)
noncomputable def xi_141 (pc : Nat) : XIs := zx zi_141_0
theorem xi_ok141 (pc : Nat) : xi_ok cX6_weakPart (xi_141 pc) = true := zq1 xi_w141
noncomputable def zi_142_0 : ZIs := [(0, ev_21), (1, ev_189), (2, ev_835), (5, ev_373), (8, ev_10), (9, ev_81), (10, ev_21), (11, ev_836), (14, ev_189), (15, ev_18), (16, ev_289), (17, ev_21), (18, ev_837), (21, ev_189), (22, ev_18), (23, ev_11)]
noncomputable def zi_142_1 : ZIs := [(25, ev_10), (26, ev_25), (28, ev_191), (30, ev_21), (31, ev_838), (34, ev_813), (37, ev_191), (39, ev_189), (40, ev_839), (43, ev_21), (44, ev_191), (46, ev_835), (49, ev_840), (52, ev_21), (53, ev_836), (56, ev_191)]
noncomputable def zi_142_2 : ZIs := [(58, ev_18), (59, ev_190), (60, ev_725), (63, ev_21), (64, ev_837), (67, ev_191), (69, ev_18), (70, ev_12), (72, ev_841), (75, ev_21), (76, ev_836), (79, ev_191), (81, ev_18), (82, ev_12), (84, ev_536), (87, ev_21)]
noncomputable def zi_142_3 : ZIs := [(88, ev_837), (91, ev_191), (93, ev_18), (94, ev_190), (95, ev_689), (98, ev_10), (99, ev_81), (100, ev_338), (103, ev_842), (106, ev_21), (107, ev_199), (110, ev_21), (111, ev_638), (114, ev_21), (115, ev_638), (118, ev_190)]
noncomputable def zi_142_4 : ZIs := [(119, ev_18), (120, ev_7), (121, ev_12), (123, ev_271), (124, ev_245), (125, ev_312), (126, ev_20), (127, ev_7), (128, ev_190), (129, ev_271), (130, ev_245), (131, ev_312), (132, ev_766), (135, ev_25), (137, ev_191), (139, ev_12)]
noncomputable def zi_142_5 : ZIs := [(141, ev_297), (142, ev_7), (143, ev_20), (144, ev_321), (147, ev_7), (148, ev_222), (151, ev_10), (152, ev_81)]
set_option maxRecDepth 100000 in
theorem xi_w142 : zall cX6_isBridge [zi_142_0, zi_142_1, zi_142_2, zi_142_3, zi_142_4, zi_142_5] := zall_w _ _ (by decide +kernel)
noncomputable def xi_142 (pc : Nat) : XIs := cond (Nat.blt pc 88) (cond (Nat.blt pc 25) (zx zi_142_0) (cond (Nat.blt pc 58) (zx zi_142_1) (zx zi_142_2))) (cond (Nat.blt pc 119) (zx zi_142_3) (cond (Nat.blt pc 141) (zx zi_142_4) (zx zi_142_5)))
theorem xi_ok142 (pc : Nat) : xi_ok cX6_isBridge (xi_142 pc) = true := xi_c (xi_c (zq1 xi_w142) (xi_c (zq1 (zq2 xi_w142)) (zq1 (zq2 (zq2 xi_w142))))) (xi_c (zq1 (zq2 (zq2 (zq2 xi_w142)))) (xi_c (zq1 (zq2 (zq2 (zq2 (zq2 xi_w142))))) (zq1 (zq2 (zq2 (zq2 (zq2 (zq2 xi_w142))))))))
noncomputable def zi_143_0 : ZIs := [(0, ev_21), (1, ev_199), (4, ev_21), (5, ev_638), (8, ev_189), (9, ev_18), (10, ev_289), (11, ev_21), (12, ev_638), (15, ev_190), (16, ev_190), (17, ev_305), (18, ev_20), (19, ev_7), (20, ev_189), (21, ev_271)]
noncomputable def zi_143_1 : ZIs := [(22, ev_245), (23, ev_312), (24, ev_766), (27, ev_11), (29, ev_190), (30, ev_12), (32, ev_245), (33, ev_312), (34, ev_20), (35, ev_220), (38, ev_7), (39, ev_222), (42, ev_10), (43, ev_81)]
set_option maxRecDepth 100000 in
theorem xi_w143 : zall cX6_isCut [zi_143_0, zi_143_1] := zall_w _ _ (by decide +kernel)
noncomputable def xi_143 (pc : Nat) : XIs := cond (Nat.blt pc 22) (zx zi_143_0) (zx zi_143_1)
theorem xi_ok143 (pc : Nat) : xi_ok cX6_isCut (xi_143 pc) = true := xi_c (zq1 xi_w143) (zq1 (zq2 xi_w143))
noncomputable def zi_144_0 : ZIs := [(0, ev_13), (1, ev_254), (4, ev_21), (5, ev_843), (8, ev_275), (11, ev_13), (12, ev_21), (13, ev_843), (16, ev_246), (19, ev_13), (20, ev_21), (21, ev_214), (24, ev_189), (25, ev_13), (26, ev_671), (29, ev_844)]
noncomputable def zi_144_1 : ZIs := [(32, ev_13), (33, ev_274), (36, ev_189), (37, ev_18), (38, ev_222), (41, ev_245), (42, ev_81)]
set_option maxRecDepth 100000 in
theorem xi_w144 : zall cX6_ordered [zi_144_0, zi_144_1] := zall_w _ _ (by decide +kernel)
noncomputable def xi_144 (pc : Nat) : XIs := cond (Nat.blt pc 32) (zx zi_144_0) (zx zi_144_1)
theorem xi_ok144 (pc : Nat) : xi_ok cX6_ordered (xi_144 pc) = true := xi_c (zq1 xi_w144) (zq1 (zq2 xi_w144))
noncomputable def zi_145_0 : ZIs := [(0, ev_21), (1, ev_199), (4, ev_21), (5, ev_218), (8, ev_288), (9, ev_10), (10, ev_289), (11, ev_190), (12, ev_21), (13, ev_845), (16, ev_846), (19, ev_21), (20, ev_189), (21, ev_847), (24, ev_11), (26, ev_12)]
noncomputable def zi_145_1 : ZIs := [(28, ev_245), (29, ev_405), (32, ev_13), (33, ev_10), (34, ev_668), (37, ev_253), (38, ev_13), (39, ev_274), (42, ev_190), (43, ev_12), (45, ev_293), (46, ev_189), (47, ev_7), (48, ev_12), (50, ev_271), (51, ev_245)]
noncomputable def zi_145_2 : ZIs := [(52, ev_312), (53, ev_20), (54, ev_288), (55, ev_294), (58, ev_848), (61, ev_13), (62, ev_21), (63, ev_845), (66, ev_668), (69, ev_253)]
set_option maxRecDepth 100000 in
theorem xi_w145 : zall cX6_makeOrder [zi_145_0, zi_145_1, zi_145_2] := zall_w _ _ (by decide +kernel)
noncomputable def xi_145 (pc : Nat) : XIs := cond (Nat.blt pc 28) (zx zi_145_0) (cond (Nat.blt pc 52) (zx zi_145_1) (zx zi_145_2))
theorem xi_ok145 (pc : Nat) : xi_ok cX6_makeOrder (xi_145 pc) = true := xi_c (zq1 xi_w145) (xi_c (zq1 (zq2 xi_w145)) (zq1 (zq2 (zq2 xi_w145))))
noncomputable def zi_146_0 : ZIs := [(0, ev_184), (1, ev_288), (2, ev_189), (3, ev_849), (6, ev_13), (7, ev_573), (10, ev_189), (11, ev_834), (14, ev_18), (15, ev_184), (16, ev_20), (17, ev_850), (20, ev_189), (21, ev_834), (24, ev_81), (25, ev_189)]
noncomputable def zi_146_1 : ZIs := [(26, ev_189), (27, ev_7), (28, ev_16), (29, ev_20), (30, ev_288), (31, ev_851), (34, ev_245), (35, ev_81)]
set_option maxRecDepth 100000 in
theorem xi_w146 : zall cX6_firstFree [zi_146_0, zi_146_1] := zall_w _ _ (by decide +kernel)
noncomputable def xi_146 (pc : Nat) : XIs := cond (Nat.blt pc 26) (zx zi_146_0) (zx zi_146_1)
theorem xi_ok146 (pc : Nat) : xi_ok cX6_firstFree (xi_146 pc) = true := xi_c (zq1 xi_w146) (zq1 (zq2 xi_w146))
noncomputable def zi_147_0 : ZIs := [(0, ev_13), (1, ev_436), (4, ev_21), (5, ev_843), (8, ev_275), (11, ev_13), (12, ev_21), (13, ev_843), (16, ev_363), (19, ev_13), (20, ev_21), (21, ev_390), (24, ev_13), (25, ev_357), (28, ev_189), (29, ev_18)]
noncomputable def zi_147_1 : ZIs := [(30, ev_81)]
set_option maxRecDepth 100000 in
theorem xi_w147 : zall cX6_coreOf [zi_147_0, zi_147_1] := zall_w _ _ (by decide +kernel)
noncomputable def xi_147 (pc : Nat) : XIs := cond (Nat.blt pc 30) (zx zi_147_0) (zx zi_147_1)
theorem xi_ok147 (pc : Nat) : xi_ok cX6_coreOf (xi_147 pc) = true := xi_c (zq1 xi_w147) (zq1 (zq2 xi_w147))
noncomputable def zi_148_0 : ZIs := [(0, ev_21), (1, ev_199), (4, ev_21), (5, ev_218), (8, ev_288), (9, ev_10), (10, ev_289), (11, ev_21), (12, ev_13), (13, ev_336), (16, ev_391), (19, ev_10), (20, ev_11), (22, ev_12), (24, ev_21), (25, ev_845)]
noncomputable def zi_148_1 : ZIs := [(28, ev_852), (31, ev_13), (32, ev_189), (33, ev_853), (36, ev_25), (38, ev_190), (39, ev_13), (40, ev_336), (43, ev_191), (45, ev_18), (46, ev_854), (49, ev_289), (50, ev_13), (51, ev_357), (54, ev_191), (56, ev_190)]
noncomputable def zi_148_2 : ZIs := [(57, ev_293), (58, ev_189), (59, ev_7), (60, ev_191), (62, ev_271), (63, ev_245), (64, ev_312), (65, ev_20), (66, ev_288), (67, ev_13), (68, ev_21), (69, ev_191), (71, ev_855), (74, ev_343), (77, ev_856), (80, ev_253)]
set_option maxRecDepth 100000 in
theorem xi_w148 : zall cX6_peel [zi_148_0, zi_148_1, zi_148_2] := zall_w _ _ (by decide +kernel)
noncomputable def xi_148 (pc : Nat) : XIs := cond (Nat.blt pc 28) (zx zi_148_0) (cond (Nat.blt pc 57) (zx zi_148_1) (zx zi_148_2))
theorem xi_ok148 (pc : Nat) : xi_ok cX6_peel (xi_148 pc) = true := xi_c (zq1 xi_w148) (xi_c (zq1 (zq2 xi_w148)) (zq1 (zq2 (zq2 xi_w148))))
noncomputable def zi_149_0 : ZIs := [(0, ev_184), (1, ev_834), (4, ev_288), (5, ev_184), (6, ev_289), (7, ev_190), (8, ev_857), (11, ev_13), (12, ev_336), (15, ev_190), (16, ev_834), (19, ev_18), (20, ev_13), (21, ev_336), (24, ev_189), (25, ev_18)]
noncomputable def zi_149_1 : ZIs := [(26, ev_858), (29, ev_190), (30, ev_834), (33, ev_288), (34, ev_190), (35, ev_190), (36, ev_7), (37, ev_16), (38, ev_20), (39, ev_289), (40, ev_859), (43, ev_189), (44, ev_81)]
set_option maxRecDepth 100000 in
theorem xi_w149 : zall cX6_loosest [zi_149_0, zi_149_1] := zall_w _ _ (by decide +kernel)
noncomputable def xi_149 (pc : Nat) : XIs := cond (Nat.blt pc 26) (zx zi_149_0) (zx zi_149_1)
theorem xi_ok149 (pc : Nat) : xi_ok cX6_loosest (xi_149 pc) = true := xi_c (zq1 xi_w149) (zq1 (zq2 xi_w149))
noncomputable def zi_150_0 : ZIs := [(0, ev_21), (1, ev_860), (4, ev_189), (5, ev_18), (6, ev_289), (7, ev_190), (8, ev_21), (9, ev_860), (12, ev_189), (13, ev_7), (14, ev_22), (15, ev_18), (16, ev_861), (19, ev_13), (20, ev_336), (23, ev_21)]
noncomputable def zi_150_1 : ZIs := [(24, ev_837), (27, ev_21), (28, ev_862), (31, ev_190), (32, ev_18), (33, ev_18), (34, ev_311), (35, ev_18), (36, ev_7), (37, ev_16), (38, ev_293), (39, ev_294), (42, ev_287), (45, ev_21), (46, ev_863), (49, ev_189)]
noncomputable def zi_150_2 : ZIs := [(50, ev_18), (51, ev_289), (52, ev_190), (53, ev_21), (54, ev_863), (57, ev_189), (58, ev_7), (59, ev_22), (60, ev_18), (61, ev_861), (64, ev_13), (65, ev_336), (68, ev_21), (69, ev_836), (72, ev_21), (73, ev_864)]
noncomputable def zi_150_3 : ZIs := [(76, ev_190), (77, ev_18), (78, ev_18), (79, ev_311), (80, ev_18), (81, ev_7), (82, ev_16), (83, ev_293), (84, ev_294), (87, ev_287), (90, ev_253)]
set_option maxRecDepth 100000 in
theorem xi_w150 : zall cX6_loosen [zi_150_0, zi_150_1, zi_150_2, zi_150_3] := zall_w _ _ (by decide +kernel)
noncomputable def xi_150 (pc : Nat) : XIs := cond (Nat.blt pc 50) (cond (Nat.blt pc 24) (zx zi_150_0) (zx zi_150_1)) (cond (Nat.blt pc 76) (zx zi_150_2) (zx zi_150_3))
theorem xi_ok150 (pc : Nat) : xi_ok cX6_loosen (xi_150 pc) = true := xi_c (xi_c (zq1 xi_w150) (zq1 (zq2 xi_w150))) (xi_c (zq1 (zq2 (zq2 xi_w150))) (zq1 (zq2 (zq2 (zq2 xi_w150)))))
noncomputable def zi_151_0 : ZIs := [(0, ev_21), (1, ev_199), (4, ev_223), (5, ev_515), (6, ev_10), (7, ev_11), (9, ev_12), (11, ev_21), (12, ev_845), (15, ev_613), (18, ev_21), (19, ev_638), (22, ev_12), (24, ev_18), (25, ev_25), (27, ev_191)]
noncomputable def zi_151_1 : ZIs := [(29, ev_865), (32, ev_487), (33, ev_21), (34, ev_638), (37, ev_12), (39, ev_18), (40, ev_21), (41, ev_638), (44, ev_191), (46, ev_834), (49, ev_18), (50, ev_20), (51, ev_866), (54, ev_167), (55, ev_455), (56, ev_515)]
noncomputable def zi_151_2 : ZIs := [(57, ev_191), (59, ev_191), (61, ev_7), (62, ev_16), (63, ev_20), (64, ev_25), (66, ev_717), (69, ev_343), (72, ev_867), (75, ev_487), (76, ev_868), (79, ev_488), (80, ev_479)]
set_option maxRecDepth 100000 in
theorem xi_w151 : zall cX6_triangles [zi_151_0, zi_151_1, zi_151_2] := zall_w _ _ (by decide +kernel)
noncomputable def xi_151 (pc : Nat) : XIs := cond (Nat.blt pc 29) (zx zi_151_0) (cond (Nat.blt pc 57) (zx zi_151_1) (zx zi_151_2))
theorem xi_ok151 (pc : Nat) : xi_ok cX6_triangles (xi_151 pc) = true := xi_c (zq1 xi_w151) (xi_c (zq1 (zq2 xi_w151)) (zq1 (zq2 (zq2 xi_w151))))
noncomputable def zi_152_0 : ZIs := [(0, ev_21), (1, ev_199), (4, ev_223), (5, ev_515), (6, ev_10), (7, ev_11), (9, ev_12), (11, ev_21), (12, ev_845), (15, ev_869), (18, ev_12), (20, ev_7), (21, ev_22), (22, ev_25), (24, ev_191), (26, ev_21)]
noncomputable def zi_152_1 : ZIs := [(27, ev_845), (30, ev_509), (33, ev_21), (34, ev_638), (37, ev_12), (39, ev_18), (40, ev_21), (41, ev_638), (44, ev_191), (46, ev_18), (47, ev_20), (48, ev_866), (51, ev_28), (53, ev_487), (54, ev_265), (56, ev_265)]
noncomputable def zi_152_2 : ZIs := [(58, ev_7), (59, ev_16), (60, ev_350), (61, ev_30), (62, ev_580), (63, ev_167), (64, ev_455), (65, ev_515), (66, ev_338), (69, ev_728), (72, ev_343), (75, ev_870), (78, ev_487), (79, ev_871), (82, ev_488), (83, ev_479)]
set_option maxRecDepth 100000 in
theorem xi_w152 : zall cX6_squares [zi_152_0, zi_152_1, zi_152_2] := zall_w _ _ (by decide +kernel)
noncomputable def xi_152 (pc : Nat) : XIs := cond (Nat.blt pc 27) (zx zi_152_0) (cond (Nat.blt pc 58) (zx zi_152_1) (zx zi_152_2))
theorem xi_ok152 (pc : Nat) : xi_ok cX6_squares (xi_152 pc) = true := xi_c (zq1 xi_w152) (xi_c (zq1 (zq2 xi_w152)) (zq1 (zq2 (zq2 xi_w152))))
noncomputable def zi_153_0 : ZIs := [(0, ev_13), (1, ev_244), (4, ev_13), (5, ev_221), (6, ev_246), (9, ev_13), (10, ev_221), (11, ev_247), (14, ev_13), (15, ev_386), (17, ev_8), (19, ev_249), (22, ev_13), (23, ev_872), (25, ev_8), (27, ev_250)]
noncomputable def zi_153_1 : ZIs := [(30, ev_13), (31, ev_873), (33, ev_248), (35, ev_251), (38, ev_13), (39, ev_873), (41, ev_8), (43, ev_365), (46, ev_13), (47, ev_168), (49, ev_8), (51, ev_366), (54, ev_13), (55, ev_168), (57, ev_8), (59, ev_367)]
noncomputable def zi_153_2 : ZIs := [(62, ev_13), (63, ev_168), (65, ev_8), (67, ev_702), (70, ev_253)]
set_option maxRecDepth 100000 in
theorem xi_w153 : zall cX7_init [zi_153_0, zi_153_1, zi_153_2] := zall_w _ _ (by decide +kernel)
noncomputable def xi_153 (pc : Nat) : XIs := cond (Nat.blt pc 30) (zx zi_153_0) (cond (Nat.blt pc 62) (zx zi_153_1) (zx zi_153_2))
theorem xi_ok153 (pc : Nat) : xi_ok cX7_init (xi_153 pc) = true := xi_c (zq1 xi_w153) (xi_c (zq1 (zq2 xi_w153)) (zq1 (zq2 (zq2 xi_w153))))
noncomputable def zi_154_0 : ZIs := [(0, ev_21), (1, ev_874), (4, ev_21), (5, ev_705), (8, ev_384), (10, ev_369), (13, ev_21), (14, ev_30), (15, ev_384), (17, ev_835), (20, ev_81), (21, ev_21), (22, ev_875), (25, ev_373), (28, ev_10), (29, ev_81)]
noncomputable def zi_154_1 : ZIs := [(30, ev_13), (31, ev_21), (32, ev_876), (35, ev_7), (36, ev_81)]
set_option maxRecDepth 100000 in
theorem xi_w154 : zall cX7_adopt [zi_154_0, zi_154_1] := zall_w _ _ (by decide +kernel)
noncomputable def xi_154 (pc : Nat) : XIs := cond (Nat.blt pc 30) (zx zi_154_0) (zx zi_154_1)
theorem xi_ok154 (pc : Nat) : xi_ok cX7_adopt (xi_154 pc) = true := xi_c (zq1 xi_w154) (zq1 (zq2 xi_w154))
noncomputable def zi_155_0 : ZIs := [(0, ev_10), (1, ev_683), (2, ev_10), (3, ev_288), (4, ev_10), (5, ev_289), (6, ev_190), (7, ev_13), (8, ev_705), (11, ev_877), (14, ev_13), (15, ev_878), (18, ev_190), (19, ev_879), (20, ev_11), (22, ev_12)]
noncomputable def zi_155_1 : ZIs := [(24, ev_189), (25, ev_184), (26, ev_880), (29, ev_25), (31, ev_191), (33, ev_245), (34, ev_404), (37, ev_13), (38, ev_191), (40, ev_190), (41, ev_835), (44, ev_81), (45, ev_12), (47, ev_407), (49, ev_772), (52, ev_686)]
noncomputable def zi_155_2 : ZIs := [(55, ev_12), (57, ev_414), (59, ev_772), (62, ev_700), (65, ev_12), (67, ev_414), (69, ev_404), (72, ev_12), (74, ev_278), (77, ev_220), (80, ev_7), (81, ev_222), (84, ev_10), (85, ev_288), (86, ev_294), (89, ev_881)]
noncomputable def zi_155_3 : ZIs := [(92, ev_184), (93, ev_769), (96, ev_13), (97, ev_30), (98, ev_13), (99, ev_705), (102, ev_835), (105, ev_220), (108, ev_7), (109, ev_222), (112, ev_10), (113, ev_81)]
set_option maxRecDepth 100000 in
theorem xi_w155 : zall cX7_isGood [zi_155_0, zi_155_1, zi_155_2, zi_155_3] := zall_w _ _ (by decide +kernel)
noncomputable def xi_155 (pc : Nat) : XIs := cond (Nat.blt pc 55) (cond (Nat.blt pc 24) (zx zi_155_0) (zx zi_155_1)) (cond (Nat.blt pc 92) (zx zi_155_2) (zx zi_155_3))
theorem xi_ok155 (pc : Nat) : xi_ok cX7_isGood (xi_155 pc) = true := xi_c (xi_c (zq1 xi_w155) (zq1 (zq2 xi_w155))) (xi_c (zq1 (zq2 (zq2 xi_w155))) (zq1 (zq2 (zq2 (zq2 xi_w155)))))
noncomputable def zi_156_0 : ZIs := [(0, ev_480)]
noncomputable def xi_156_1 : XIs := [(1, .lookupswitch 93 #[(40, 69), (41, 81), (42, 59), (43, 59), (63, 59), (124, 91)], 59)]
set_option maxRecDepth 100000 in
theorem xi_ok156_1 : xi_ok cX7_judge xi_156_1 = true := by decide +kernel
noncomputable def zi_156_2 : ZIs := [(60, ev_184), (61, ev_220), (64, ev_245), (65, ev_222), (68, ev_30), (69, ev_81), (70, ev_189), (71, ev_408), (73, ev_654), (76, ev_245), (77, ev_222), (80, ev_31), (81, ev_81), (82, ev_189), (83, ev_491), (86, ev_245)]
noncomputable def zi_156_3 : ZIs := [(87, ev_222), (90, ev_30), (91, ev_81), (92, ev_245), (93, ev_81), (94, ev_480), (95, ev_278), (98, ev_220), (101, ev_245), (102, ev_222), (105, ev_7), (106, ev_81)]
set_option maxRecDepth 100000 in
theorem xi_w156 : zall cX7_judge [zi_156_0, zi_156_2, zi_156_3] := zall_w _ _ (by decide +kernel)
noncomputable def xi_156 (pc : Nat) : XIs := cond (Nat.blt pc 60) (cond (Nat.blt pc 1) (zx zi_156_0) (xi_156_1)) (cond (Nat.blt pc 87) (zx zi_156_2) (zx zi_156_3))
theorem xi_ok156 (pc : Nat) : xi_ok cX7_judge (xi_156 pc) = true := xi_c (xi_c (zq1 xi_w156) (xi_ok156_1)) (xi_c (zq1 (zq2 xi_w156)) (zq1 (zq2 (zq2 xi_w156))))
noncomputable def zi_157_0 : ZIs := [(0, ev_480), (1, ev_882), (3, ev_740), (6, ev_480), (7, ev_417), (9, ev_409), (12, ev_480), (13, ev_883), (15, ev_884), (18, ev_7), (19, ev_222), (22, ev_10), (23, ev_81)]
set_option maxRecDepth 100000 in
theorem xi_w157 : zall cX7_isAtom [zi_157_0] := zall_w _ _ (by decide +kernel)
noncomputable def xi_157 (pc : Nat) : XIs := zx zi_157_0
theorem xi_ok157 (pc : Nat) : xi_ok cX7_isAtom (xi_157 pc) = true := zq1 xi_w157
noncomputable def zi_158_0 : ZIs := [(0, ev_13), (1, ev_281), (4, ev_223), (5, ev_885), (8, ev_13), (9, ev_357), (12, ev_223), (13, ev_885), (16, ev_13), (17, ev_221), (18, ev_246), (21, ev_13), (22, ev_221), (23, ev_21), (24, ev_705), (27, ev_169)]
noncomputable def zi_158_1 : ZIs := [(28, ev_247), (31, ev_13), (32, ev_463), (35, ev_10), (36, ev_223), (37, ev_186), (38, ev_10), (39, ev_288), (40, ev_10), (41, ev_289), (42, ev_190), (43, ev_21), (44, ev_705), (47, ev_886), (50, ev_21), (51, ev_878)]
noncomputable def zi_158_2 : ZIs := [(54, ev_190), (55, ev_879), (56, ev_11), (58, ev_190), (59, ev_25), (61, ev_12), (63, ev_407), (65, ev_887), (68, ev_189), (69, ev_408), (71, ev_341), (74, ev_299), (77, ev_13), (78, ev_336), (81, ev_189), (82, ev_190)]
noncomputable def zi_158_3 : ZIs := [(83, ev_293), (84, ev_13), (85, ev_463), (88, ev_189), (89, ev_223), (90, ev_186), (91, ev_888), (94, ev_12), (96, ev_414), (98, ev_889), (101, ev_189), (102, ev_890), (105, ev_13), (106, ev_336), (109, ev_189), (110, ev_18)]
noncomputable def zi_158_4 : ZIs := [(111, ev_25), (113, ev_13), (114, ev_13), (115, ev_463), (118, ev_189), (119, ev_437), (120, ev_221), (121, ev_190), (122, ev_169), (123, ev_224), (126, ev_891), (129, ev_13), (130, ev_12), (132, ev_190), (133, ev_189), (134, ev_390)]
noncomputable def zi_158_5 : ZIs := [(137, ev_190), (138, ev_7), (139, ev_22), (140, ev_21), (141, ev_705), (144, ev_684), (147, ev_13), (148, ev_21), (149, ev_878), (152, ev_190), (153, ev_7), (154, ev_22), (155, ev_879), (156, ev_191), (158, ev_190), (159, ev_7)]
noncomputable def zi_158_6 : ZIs := [(160, ev_22), (161, ev_285), (164, ev_294), (167, ev_892), (170, ev_13), (171, ev_13), (172, ev_463), (175, ev_10), (176, ev_437), (177, ev_13), (178, ev_274), (181, ev_224), (184, ev_13), (185, ev_21), (186, ev_705), (189, ev_853)]
noncomputable def zi_158_7 : ZIs := [(192, ev_253)]
set_option maxRecDepth 100000 in
theorem xi_w158 : zall cX7_build [zi_158_0, zi_158_1, zi_158_2, zi_158_3, zi_158_4, zi_158_5, zi_158_6, zi_158_7] := zall_w _ _ (by decide +kernel)
noncomputable def xi_158 (pc : Nat) : XIs := cond (Nat.blt pc 111) (cond (Nat.blt pc 54) (cond (Nat.blt pc 28) (zx zi_158_0) (zx zi_158_1)) (cond (Nat.blt pc 83) (zx zi_158_2) (zx zi_158_3))) (cond (Nat.blt pc 160) (cond (Nat.blt pc 137) (zx zi_158_4) (zx zi_158_5)) (cond (Nat.blt pc 192) (zx zi_158_6) (zx zi_158_7)))
theorem xi_ok158 (pc : Nat) : xi_ok cX7_build (xi_158 pc) = true := xi_c (xi_c (xi_c (zq1 xi_w158) (zq1 (zq2 xi_w158))) (xi_c (zq1 (zq2 (zq2 xi_w158))) (zq1 (zq2 (zq2 (zq2 xi_w158)))))) (xi_c (xi_c (zq1 (zq2 (zq2 (zq2 (zq2 xi_w158))))) (zq1 (zq2 (zq2 (zq2 (zq2 (zq2 xi_w158))))))) (xi_c (zq1 (zq2 (zq2 (zq2 (zq2 (zq2 (zq2 xi_w158))))))) (zq1 (zq2 (zq2 (zq2 (zq2 (zq2 (zq2 (zq2 xi_w158))))))))))
noncomputable def zi_159_0 : ZIs := [(0, ev_481), (1, ev_572), (3, ev_499), (5, ev_223), (6, ev_438), (7, ev_411), (10, ev_13), (11, ev_281), (14, ev_499), (16, ev_893), (19, ev_311), (20, ev_437), (21, ev_482), (22, ev_172), (23, ev_186), (24, ev_499)]
noncomputable def zi_159_1 : ZIs := [(26, ev_499), (28, ev_221), (29, ev_483), (30, ev_171), (31, ev_572), (33, ev_643), (36, ev_253)]
set_option maxRecDepth 100000 in
theorem xi_w159 : zall cX7_closeBars [zi_159_0, zi_159_1] := zall_w _ _ (by decide +kernel)
noncomputable def xi_159 (pc : Nat) : XIs := cond (Nat.blt pc 26) (zx zi_159_0) (zx zi_159_1)
theorem xi_ok159 (pc : Nat) : xi_ok cX7_closeBars (xi_159 pc) = true := xi_c (zq1 xi_w159) (zq1 (zq2 xi_w159))
noncomputable def zi_160_0 : ZIs := [(0, ev_221), (1, ev_189), (2, ev_7), (3, ev_22), (4, ev_169), (5, ev_440), (7, ev_184), (8, ev_882), (10, ev_894), (13, ev_10), (14, ev_28), (16, ev_265), (18, ev_872), (20, ev_310), (23, ev_13), (24, ev_357)]
noncomputable def zi_160_1 : ZIs := [(27, ev_265), (29, ev_311), (30, ev_437), (31, ev_221), (32, ev_189), (33, ev_169), (34, ev_172), (35, ev_186), (36, ev_315), (39, ev_709), (42, ev_895), (45, ev_184), (46, ev_278), (49, ev_328), (52, ev_13), (53, ev_357)]
noncomputable def zi_160_2 : ZIs := [(56, ev_184), (57, ev_417), (59, ev_16), (60, ev_311), (61, ev_437), (62, ev_221), (63, ev_189), (64, ev_169), (65, ev_172), (66, ev_186), (67, ev_896), (70, ev_184), (71, ev_897), (73, ev_898), (76, ev_13), (77, ev_281)]
noncomputable def zi_160_3 : ZIs := [(80, ev_189), (81, ev_311), (82, ev_437), (83, ev_240), (85, ev_172), (86, ev_186), (87, ev_899), (90, ev_13), (91, ev_463), (94, ev_190), (95, ev_311), (96, ev_437), (97, ev_221), (98, ev_189), (99, ev_169), (100, ev_172)]
noncomputable def zi_160_4 : ZIs := [(101, ev_186), (102, ev_190), (103, ev_805), (106, ev_13), (107, ev_1), (108, ev_254), (111, ev_240), (113, ev_172), (114, ev_246), (117, ev_900), (120, ev_13), (121, ev_281), (124, ev_13), (125, ev_336), (128, ev_190), (129, ev_18)]
noncomputable def zi_160_5 : ZIs := [(130, ev_311), (131, ev_437), (132, ev_240), (134, ev_172), (135, ev_186), (136, ev_253)]
set_option maxRecDepth 100000 in
theorem xi_w160 : zall cX7_layPlace [zi_160_0, zi_160_1, zi_160_2, zi_160_3, zi_160_4, zi_160_5] := zall_w _ _ (by decide +kernel)
noncomputable def xi_160 (pc : Nat) : XIs := cond (Nat.blt pc 80) (cond (Nat.blt pc 27) (zx zi_160_0) (cond (Nat.blt pc 56) (zx zi_160_1) (zx zi_160_2))) (cond (Nat.blt pc 101) (zx zi_160_3) (cond (Nat.blt pc 130) (zx zi_160_4) (zx zi_160_5)))
theorem xi_ok160 (pc : Nat) : xi_ok cX7_layPlace (xi_160 pc) = true := xi_c (xi_c (zq1 xi_w160) (xi_c (zq1 (zq2 xi_w160)) (zq1 (zq2 (zq2 xi_w160))))) (xi_c (zq1 (zq2 (zq2 (zq2 xi_w160)))) (xi_c (zq1 (zq2 (zq2 (zq2 (zq2 xi_w160))))) (zq1 (zq2 (zq2 (zq2 (zq2 (zq2 xi_w160))))))))
noncomputable def zi_161_0 : ZIs := [(0, ev_184), (1, ev_400), (3, ev_901), (6, ev_184), (7, ev_393), (9, ev_725), (12, ev_13), (13, ev_281), (16, ev_190), (17, ev_311), (18, ev_437), (19, ev_221), (20, ev_189), (21, ev_169), (22, ev_172), (23, ev_186)]
noncomputable def zi_161_1 : ZIs := [(24, ev_184), (25, ev_400), (27, ev_901), (30, ev_184), (31, ev_19), (33, ev_725), (36, ev_13), (37, ev_281), (40, ev_189), (41, ev_311), (42, ev_437), (43, ev_221), (44, ev_190), (45, ev_169), (46, ev_172), (47, ev_186)]
noncomputable def zi_161_2 : ZIs := [(48, ev_253)]
set_option maxRecDepth 100000 in
theorem xi_w161 : zall cX7_layRepeat [zi_161_0, zi_161_1, zi_161_2] := zall_w _ _ (by decide +kernel)
noncomputable def xi_161 (pc : Nat) : XIs := cond (Nat.blt pc 24) (zx zi_161_0) (cond (Nat.blt pc 48) (zx zi_161_1) (zx zi_161_2))
theorem xi_ok161 (pc : Nat) : xi_ok cX7_layRepeat (xi_161 pc) = true := xi_c (zq1 xi_w161) (xi_c (zq1 (zq2 xi_w161)) (zq1 (zq2 (zq2 xi_w161))))
noncomputable def zi_162_0 : ZIs := [(0, ev_10), (1, ev_288), (2, ev_189), (3, ev_184), (4, ev_902), (7, ev_13), (8, ev_281), (11, ev_189), (12, ev_311), (13, ev_437), (14, ev_221), (15, ev_189), (16, ev_169), (17, ev_172), (18, ev_186), (19, ev_299)]
noncomputable def zi_162_1 : ZIs := [(22, ev_756), (25, ev_10), (26, ev_288), (27, ev_189), (28, ev_184), (29, ev_903), (32, ev_10), (33, ev_289), (34, ev_190), (35, ev_184), (36, ev_904), (39, ev_13), (40, ev_281), (43, ev_190), (44, ev_437), (45, ev_189)]
noncomputable def zi_162_2 : ZIs := [(46, ev_905), (47, ev_221), (48, ev_171), (49, ev_223), (50, ev_438), (51, ev_388), (54, ev_13), (55, ev_281), (58, ev_190), (59, ev_311), (60, ev_437), (61, ev_13), (62, ev_281), (65, ev_189), (66, ev_437), (67, ev_172)]
noncomputable def zi_162_3 : ZIs := [(68, ev_186), (69, ev_294), (72, ev_581), (75, ev_299), (78, ev_906), (81, ev_13), (82, ev_274), (85, ev_515), (86, ev_10), (87, ev_11), (89, ev_12), (91, ev_872), (93, ev_620), (96, ev_487), (97, ev_13), (98, ev_357)]
noncomputable def zi_162_4 : ZIs := [(101, ev_12), (103, ev_437), (104, ev_172), (105, ev_515), (106, ev_343), (109, ev_756), (112, ev_10), (113, ev_11), (115, ev_12), (117, ev_184), (118, ev_907), (121, ev_13), (122, ev_281), (125, ev_12), (127, ev_311), (128, ev_437)]
noncomputable def zi_162_5 : ZIs := [(129, ev_487), (130, ev_171), (131, ev_186), (132, ev_343), (135, ev_756), (138, ev_223), (139, ev_440), (141, ev_13), (142, ev_254), (145, ev_58), (147, ev_458), (149, ev_223), (150, ev_438), (151, ev_765), (154, ev_240), (156, ev_13)]
noncomputable def zi_162_6 : ZIs := [(157, ev_281), (160, ev_458), (162, ev_893), (165, ev_437), (166, ev_172), (167, ev_440), (169, ev_458), (171, ev_458), (173, ev_221), (174, ev_483), (175, ev_171), (176, ev_58), (178, ev_608), (181, ev_13), (182, ev_240), (184, ev_246)]
noncomputable def zi_162_7 : ZIs := [(187, ev_253)]
set_option maxRecDepth 100000 in
theorem xi_w162 : zall cX7_close [zi_162_0, zi_162_1, zi_162_2, zi_162_3, zi_162_4, zi_162_5, zi_162_6, zi_162_7] := zall_w _ _ (by decide +kernel)
noncomputable def xi_162 (pc : Nat) : XIs := cond (Nat.blt pc 101) (cond (Nat.blt pc 46) (cond (Nat.blt pc 22) (zx zi_162_0) (zx zi_162_1)) (cond (Nat.blt pc 68) (zx zi_162_2) (zx zi_162_3))) (cond (Nat.blt pc 157) (cond (Nat.blt pc 129) (zx zi_162_4) (zx zi_162_5)) (cond (Nat.blt pc 187) (zx zi_162_6) (zx zi_162_7)))
theorem xi_ok162 (pc : Nat) : xi_ok cX7_close (xi_162 pc) = true := xi_c (xi_c (xi_c (zq1 xi_w162) (zq1 (zq2 xi_w162))) (xi_c (zq1 (zq2 (zq2 xi_w162))) (zq1 (zq2 (zq2 (zq2 xi_w162)))))) (xi_c (xi_c (zq1 (zq2 (zq2 (zq2 (zq2 xi_w162))))) (zq1 (zq2 (zq2 (zq2 (zq2 (zq2 xi_w162))))))) (xi_c (zq1 (zq2 (zq2 (zq2 (zq2 (zq2 (zq2 xi_w162))))))) (zq1 (zq2 (zq2 (zq2 (zq2 (zq2 (zq2 (zq2 xi_w162))))))))))
noncomputable def zi_163_0 : ZIs := [(0, ev_21), (1, ev_908), (4, ev_13), (5, ev_429), (8, ev_223), (9, ev_885), (12, ev_13), (13, ev_749), (16, ev_223), (17, ev_885), (20, ev_13), (21, ev_429), (24, ev_189), (25, ev_13), (26, ev_254), (29, ev_186)]
noncomputable def zi_163_1 : ZIs := [(30, ev_13), (31, ev_749), (34, ev_189), (35, ev_13), (36, ev_254), (39, ev_186), (40, ev_10), (41, ev_11), (43, ev_12), (45, ev_909), (48, ev_910), (51, ev_13), (52, ev_749), (55, ev_190), (56, ev_437), (57, ev_13)]
noncomputable def zi_163_2 : ZIs := [(58, ev_274), (61, ev_171), (62, ev_223), (63, ev_438), (64, ev_685), (67, ev_12), (69, ev_81), (70, ev_13), (71, ev_21), (72, ev_419), (75, ev_373), (78, ev_245), (79, ev_81), (80, ev_343), (83, ev_750), (86, ev_245)]
noncomputable def zi_163_3 : ZIs := [(87, ev_81)]
set_option maxRecDepth 100000 in
theorem xi_w163 : zall cX7_leastFit [zi_163_0, zi_163_1, zi_163_2, zi_163_3] := zall_w _ _ (by decide +kernel)
noncomputable def xi_163 (pc : Nat) : XIs := cond (Nat.blt pc 58) (cond (Nat.blt pc 30) (zx zi_163_0) (zx zi_163_1)) (cond (Nat.blt pc 87) (zx zi_163_2) (zx zi_163_3))
theorem xi_ok163 (pc : Nat) : xi_ok cX7_leastFit (xi_163 pc) = true := xi_c (xi_c (zq1 xi_w163) (zq1 (zq2 xi_w163))) (xi_c (zq1 (zq2 (zq2 xi_w163))) (zq1 (zq2 (zq2 (zq2 xi_w163)))))
noncomputable def zi_164_0 : ZIs := [(0, ev_10), (1, ev_288), (2, ev_13), (3, ev_425), (6, ev_223), (7, ev_885), (10, ev_10), (11, ev_289), (12, ev_190), (13, ev_21), (14, ev_791), (17, ev_911), (20, ev_21), (21, ev_793), (24, ev_190), (25, ev_18)]
noncomputable def zi_164_1 : ZIs := [(26, ev_11), (28, ev_12), (30, ev_21), (31, ev_793), (34, ev_190), (35, ev_7), (36, ev_22), (37, ev_18), (38, ev_912), (41, ev_13), (42, ev_429), (45, ev_190), (46, ev_437), (47, ev_223), (48, ev_438), (49, ev_913)]
noncomputable def zi_164_2 : ZIs := [(52, ev_21), (53, ev_914), (56, ev_12), (58, ev_18), (59, ev_25), (61, ev_21), (62, ev_915), (65, ev_191), (67, ev_18), (68, ev_28), (70, ev_13), (71, ev_13), (72, ev_429), (75, ev_190), (76, ev_437), (77, ev_13)]
noncomputable def zi_164_3 : ZIs := [(78, ev_357), (81, ev_21), (82, ev_916), (85, ev_191), (87, ev_18), (88, ev_437), (89, ev_171), (90, ev_917), (93, ev_13), (94, ev_749), (97, ev_265), (99, ev_437), (100, ev_918), (103, ev_518), (104, ev_171), (105, ev_919)]
noncomputable def zi_164_4 : ZIs := [(107, ev_13), (108, ev_425), (111, ev_265), (113, ev_311), (114, ev_437), (115, ev_920), (117, ev_172), (118, ev_186), (119, ev_13), (120, ev_749), (123, ev_265), (125, ev_311), (126, ev_437), (127, ev_920), (129, ev_172), (130, ev_186)]
noncomputable def zi_164_5 : ZIs := [(131, ev_189), (132, ev_920), (134, ev_223), (135, ev_438), (136, ev_220), (139, ev_7), (140, ev_222), (143, ev_10), (144, ev_272), (145, ev_288), (146, ev_343), (149, ev_604), (152, ev_294), (155, ev_921), (158, ev_13), (159, ev_425)]
noncomputable def zi_164_6 : ZIs := [(162, ev_10), (163, ev_13), (164, ev_429), (167, ev_10), (168, ev_168), (170, ev_358), (173, ev_189), (174, ev_81)]
set_option maxRecDepth 100000 in
theorem xi_w164 : zall cX7_step [zi_164_0, zi_164_1, zi_164_2, zi_164_3, zi_164_4, zi_164_5, zi_164_6] := zall_w _ _ (by decide +kernel)
noncomputable def xi_164 (pc : Nat) : XIs := cond (Nat.blt pc 78) (cond (Nat.blt pc 26) (zx zi_164_0) (cond (Nat.blt pc 52) (zx zi_164_1) (zx zi_164_2))) (cond (Nat.blt pc 131) (cond (Nat.blt pc 107) (zx zi_164_3) (zx zi_164_4)) (cond (Nat.blt pc 162) (zx zi_164_5) (zx zi_164_6)))
theorem xi_ok164 (pc : Nat) : xi_ok cX7_step (xi_164 pc) = true := xi_c (xi_c (zq1 xi_w164) (xi_c (zq1 (zq2 xi_w164)) (zq1 (zq2 (zq2 xi_w164))))) (xi_c (xi_c (zq1 (zq2 (zq2 (zq2 xi_w164)))) (zq1 (zq2 (zq2 (zq2 (zq2 xi_w164)))))) (xi_c (zq1 (zq2 (zq2 (zq2 (zq2 (zq2 xi_w164)))))) (zq1 (zq2 (zq2 (zq2 (zq2 (zq2 (zq2 xi_w164)))))))))
noncomputable def zi_165_0 : ZIs := [(0, ev_223), (1, ev_922), (2, ev_481), (3, ev_572), (5, ev_499), (7, ev_223), (8, ev_438), (9, ev_765), (12, ev_482), (13, ev_13), (14, ev_281), (17, ev_499), (19, ev_893), (22, ev_7), (23, ev_22), (24, ev_437)]
noncomputable def zi_165_1 : ZIs := [(25, ev_172), (26, ev_922), (27, ev_499), (29, ev_499), (31, ev_221), (32, ev_483), (33, ev_171), (34, ev_572), (36, ev_608), (39, ev_482), (40, ev_479)]
set_option maxRecDepth 100000 in
theorem xi_w165 : zall cX7_behind [zi_165_0, zi_165_1] := zall_w _ _ (by decide +kernel)
noncomputable def xi_165 (pc : Nat) : XIs := cond (Nat.blt pc 25) (zx zi_165_0) (zx zi_165_1)
theorem xi_ok165 (pc : Nat) : xi_ok cX7_behind (xi_165 pc) = true := xi_c (zq1 xi_w165) (zq1 (zq2 xi_w165))
noncomputable def zi_166_0 : ZIs := [(0, ev_13), (1, ev_244), (4, ev_13), (5, ev_801), (8, ev_923), (10, ev_246), (13, ev_13), (14, ev_245), (15, ev_247), (18, ev_13), (19, ev_245), (20, ev_363), (23, ev_13), (24, ev_924), (27, ev_923), (29, ev_250)]
noncomputable def zi_166_1 : ZIs := [(32, ev_253)]
set_option maxRecDepth 100000 in
theorem xi_w166 : zall cX8_init [zi_166_0, zi_166_1] := zall_w _ _ (by decide +kernel)
noncomputable def xi_166 (pc : Nat) : XIs := cond (Nat.blt pc 32) (zx zi_166_0) (zx zi_166_1)
theorem xi_ok166 (pc : Nat) : xi_ok cX8_init (xi_166 pc) = true := xi_c (zq1 xi_w166) (zq1 (zq2 xi_w166))
noncomputable def zi_167_0 : ZIs := [(0, ev_13), (1, ev_10), (2, ev_251), (5, ev_13), (6, ev_245), (7, ev_247), (10, ev_13), (11, ev_245), (12, ev_363), (15, ev_253)]
set_option maxRecDepth 100000 in
theorem xi_w167 : zall cX8_begin [zi_167_0] := zall_w _ _ (by decide +kernel)
noncomputable def xi_167 (pc : Nat) : XIs := zx zi_167_0
theorem xi_ok167 (pc : Nat) : xi_ok cX8_begin (xi_167 pc) = true := zq1 xi_w167
noncomputable def zi_168_0 : ZIs := [(0, ev_13), (1, ev_184), (2, ev_247), (5, ev_13), (6, ev_189), (7, ev_363), (10, ev_10), (11, ev_81)]
set_option maxRecDepth 100000 in
theorem xi_w168 : zall cX8_accuse [zi_168_0] := zall_w _ _ (by decide +kernel)
noncomputable def xi_168 (pc : Nat) : XIs := zx zi_168_0
theorem xi_ok168 (pc : Nat) : xi_ok cX8_accuse (xi_168 pc) = true := zq1 xi_w168
noncomputable def zi_169_0 : ZIs := [(0, ev_13), (1, ev_277), (4, ev_32), (5, ev_925), (8, ev_13), (9, ev_7), (10, ev_13), (11, ev_255), (14, ev_926), (17, ev_81), (18, ev_13), (19, ev_13), (20, ev_277), (23, ev_33), (24, ev_816), (27, ev_189)]
noncomputable def zi_169_1 : ZIs := [(28, ev_222), (31, ev_184), (32, ev_13), (33, ev_255), (36, ev_926), (39, ev_81)]
set_option maxRecDepth 100000 in
theorem xi_w169 : zall cX8_refuse [zi_169_0, zi_169_1] := zall_w _ _ (by decide +kernel)
noncomputable def xi_169 (pc : Nat) : XIs := cond (Nat.blt pc 28) (zx zi_169_0) (zx zi_169_1)
theorem xi_ok169 (pc : Nat) : xi_ok cX8_refuse (xi_169 pc) = true := xi_c (zq1 xi_w169) (zq1 (zq2 xi_w169))
noncomputable def zi_170_0 : ZIs := [(0, ev_13), (1, ev_277), (4, ev_31), (5, ev_725), (8, ev_13), (9, ev_749), (12, ev_184), (13, ev_816), (16, ev_7), (17, ev_222), (20, ev_10), (21, ev_81)]
set_option maxRecDepth 100000 in
theorem xi_w170 : zall cX8_isAt [zi_170_0] := zall_w _ _ (by decide +kernel)
noncomputable def xi_170 (pc : Nat) : XIs := zx zi_170_0
theorem xi_ok170 (pc : Nat) : xi_ok cX8_isAt (xi_170 pc) = true := zq1 xi_w170
noncomputable def zi_171_0 : ZIs := [(0, ev_13), (1, ev_336), (4, ev_13), (5, ev_703), (8, ev_927), (11, ev_13), (12, ev_254), (15, ev_13), (16, ev_336), (19, ev_879), (20, ev_168), (22, ev_536), (25, ev_13), (26, ev_1), (27, ev_336), (30, ev_7)]
noncomputable def zi_171_1 : ZIs := [(31, ev_22), (32, ev_251), (35, ev_287), (38, ev_13), (39, ev_13), (40, ev_336), (43, ev_528), (46, ev_13), (47, ev_10), (48, ev_252), (51, ev_13), (52, ev_336), (55, ev_13), (56, ev_703), (59, ev_264), (62, ev_253)]
noncomputable def zi_171_2 : ZIs := [(63, ev_13), (64, ev_254), (67, ev_13), (68, ev_336), (71, ev_879), (72, ev_289), (73, ev_189), (74, ev_632), (77, ev_190), (78, ev_395), (80, ev_816), (83, ev_7), (84, ev_222), (87, ev_10), (88, ev_11), (90, ev_13)]
noncomputable def zi_171_3 : ZIs := [(91, ev_12), (93, ev_647), (96, ev_13), (97, ev_336), (100, ev_7), (101, ev_22), (102, ev_205), (105, ev_13), (106, ev_336), (109, ev_928), (112, ev_929), (115, ev_13), (116, ev_12), (118, ev_184), (119, ev_208), (122, ev_253)]
noncomputable def zi_171_4 : ZIs := [(123, ev_13), (124, ev_1), (125, ev_336), (128, ev_7), (129, ev_22), (130, ev_251), (133, ev_190), (134, ev_417), (136, ev_930), (139, ev_190), (140, ev_883), (142, ev_931), (145, ev_13), (146, ev_7), (147, ev_252), (150, ev_13)]
noncomputable def zi_171_5 : ZIs := [(151, ev_190), (152, ev_417), (154, ev_16), (155, ev_702), (158, ev_253), (159, ev_13), (160, ev_190), (161, ev_189), (162, ev_932), (165, ev_220), (168, ev_31), (169, ev_222), (172, ev_32), (173, ev_252), (176, ev_13), (177, ev_190)]
noncomputable def zi_171_6 : ZIs := [(178, ev_702), (181, ev_253)]
set_option maxRecDepth 100000 in
theorem xi_w171 : zall cX8_next [zi_171_0, zi_171_1, zi_171_2, zi_171_3, zi_171_4, zi_171_5, zi_171_6] := zall_w _ _ (by decide +kernel)
noncomputable def xi_171 (pc : Nat) : XIs := cond (Nat.blt pc 91) (cond (Nat.blt pc 31) (zx zi_171_0) (cond (Nat.blt pc 63) (zx zi_171_1) (zx zi_171_2))) (cond (Nat.blt pc 151) (cond (Nat.blt pc 123) (zx zi_171_3) (zx zi_171_4)) (cond (Nat.blt pc 178) (zx zi_171_5) (zx zi_171_6)))
theorem xi_ok171 (pc : Nat) : xi_ok cX8_next (xi_171 pc) = true := xi_c (xi_c (zq1 xi_w171) (xi_c (zq1 (zq2 xi_w171)) (zq1 (zq2 (zq2 xi_w171))))) (xi_c (xi_c (zq1 (zq2 (zq2 (zq2 xi_w171)))) (zq1 (zq2 (zq2 (zq2 (zq2 xi_w171)))))) (xi_c (zq1 (zq2 (zq2 (zq2 (zq2 (zq2 xi_w171)))))) (zq1 (zq2 (zq2 (zq2 (zq2 (zq2 (zq2 xi_w171)))))))))
noncomputable def zi_172_0 : ZIs := [(0, ev_184), (1, ev_13), (2, ev_703), (5, ev_861), (8, ev_13), (9, ev_254), (12, ev_184), (13, ev_879), (14, ev_933), (16, ev_934), (19, ev_13), (20, ev_254), (23, ev_184), (24, ev_879), (25, ev_935), (27, ev_884)]
noncomputable def zi_172_1 : ZIs := [(30, ev_7), (31, ev_222), (34, ev_10), (35, ev_81)]
set_option maxRecDepth 100000 in
theorem xi_w172 : zall cX8_isDigit [zi_172_0, zi_172_1] := zall_w _ _ (by decide +kernel)
noncomputable def xi_172 (pc : Nat) : XIs := cond (Nat.blt pc 30) (zx zi_172_0) (zx zi_172_1)
theorem xi_ok172 (pc : Nat) : xi_ok cX8_isDigit (xi_172 pc) = true := xi_c (zq1 xi_w172) (zq1 (zq2 xi_w172))
noncomputable def zi_173_0 : ZIs := [(0, ev_10), (1, ev_289), (2, ev_10), (3, ev_11), (5, ev_13), (6, ev_184), (7, ev_647), (10, ev_13), (11, ev_336), (14, ev_7), (15, ev_22), (16, ev_205), (19, ev_13), (20, ev_336), (23, ev_251), (26, ev_13)]
noncomputable def zi_173_1 : ZIs := [(27, ev_336), (30, ev_13), (31, ev_703), (34, ev_936), (37, ev_13), (38, ev_13), (39, ev_336), (42, ev_928), (45, ev_937), (48, ev_294), (51, ev_190), (52, ev_189), (53, ev_938), (56, ev_12), (58, ev_408), (60, ev_350)]
noncomputable def zi_173_2 : ZIs := [(61, ev_13), (62, ev_254), (65, ev_13), (66, ev_336), (69, ev_879), (70, ev_933), (72, ev_16), (73, ev_22), (74, ev_11), (76, ev_13), (77, ev_1), (78, ev_336), (81, ev_7), (82, ev_22), (83, ev_251), (86, ev_617)]
noncomputable def zi_173_3 : ZIs := [(89, ev_13), (90, ev_184), (91, ev_342), (94, ev_12), (96, ev_305), (97, ev_636), (100, ev_12), (102, ev_702), (105, ev_13), (106, ev_190), (107, ev_189), (108, ev_939), (111, ev_33), (112, ev_222), (115, ev_30), (116, ev_252)]
noncomputable def zi_173_4 : ZIs := [(119, ev_253)]
set_option maxRecDepth 100000 in
theorem xi_w173 : zall cX8_readNumber [zi_173_0, zi_173_1, zi_173_2, zi_173_3, zi_173_4] := zall_w _ _ (by decide +kernel)
noncomputable def xi_173 (pc : Nat) : XIs := cond (Nat.blt pc 61) (cond (Nat.blt pc 27) (zx zi_173_0) (zx zi_173_1)) (cond (Nat.blt pc 89) (zx zi_173_2) (cond (Nat.blt pc 119) (zx zi_173_3) (zx zi_173_4)))
theorem xi_ok173 (pc : Nat) : xi_ok cX8_readNumber (xi_173 pc) = true := xi_c (xi_c (zq1 xi_w173) (zq1 (zq2 xi_w173))) (xi_c (zq1 (zq2 (zq2 xi_w173))) (xi_c (zq1 (zq2 (zq2 (zq2 xi_w173)))) (zq1 (zq2 (zq2 (zq2 (zq2 xi_w173)))))))
noncomputable def zi_174_0 : ZIs := [(0, ev_480), (1, ev_374), (3, ev_275), (6, ev_184), (7, ev_286), (10, ev_940), (12, ev_480), (13, ev_876), (16, ev_829), (19, ev_7), (20, ev_222), (23, ev_10), (24, ev_81)]
set_option maxRecDepth 100000 in
theorem xi_w174 : zall cX8_isSign [zi_174_0] := zall_w _ _ (by decide +kernel)
noncomputable def xi_174 (pc : Nat) : XIs := zx zi_174_0
theorem xi_ok174 (pc : Nat) : xi_ok cX8_isSign (xi_174 pc) = true := zq1 xi_w174
noncomputable def zi_175_0 : ZIs := [(0, ev_13), (1, ev_10), (2, ev_666), (5, ev_10), (6, ev_288), (7, ev_189), (8, ev_21), (9, ev_670), (12, ev_941), (15, ev_13), (16, ev_942), (18, ev_943), (21, ev_13), (22, ev_21), (23, ev_283), (26, ev_189)]
noncomputable def zi_175_1 : ZIs := [(27, ev_18), (28, ev_224), (31, ev_299), (34, ev_355), (37, ev_10), (38, ev_288), (39, ev_189), (40, ev_21), (41, ev_549), (44, ev_944), (47, ev_21), (48, ev_945), (51, ev_189), (52, ev_18), (53, ev_245), (54, ev_946)]
noncomputable def zi_175_2 : ZIs := [(57, ev_13), (58, ev_417), (60, ev_943), (63, ev_13), (64, ev_21), (65, ev_945), (68, ev_189), (69, ev_18), (70, ev_398), (73, ev_13), (74, ev_21), (75, ev_787), (78, ev_189), (79, ev_18), (80, ev_398), (83, ev_13)]
noncomputable def zi_175_3 : ZIs := [(84, ev_21), (85, ev_788), (88, ev_189), (89, ev_18), (90, ev_398), (93, ev_13), (94, ev_21), (95, ev_789), (98, ev_189), (99, ev_18), (100, ev_398), (103, ev_13), (104, ev_21), (105, ev_727), (108, ev_189), (109, ev_18)]
noncomputable def zi_175_4 : ZIs := [(110, ev_224), (113, ev_299), (116, ev_345), (119, ev_13), (120, ev_669), (123, ev_81)]
set_option maxRecDepth 100000 in
theorem xi_w175 : zall cX8_write [zi_175_0, zi_175_1, zi_175_2, zi_175_3, zi_175_4] := zall_w _ _ (by decide +kernel)
noncomputable def xi_175 (pc : Nat) : XIs := cond (Nat.blt pc 57) (cond (Nat.blt pc 27) (zx zi_175_0) (zx zi_175_1)) (cond (Nat.blt pc 84) (zx zi_175_2) (cond (Nat.blt pc 110) (zx zi_175_3) (zx zi_175_4)))
theorem xi_ok175 (pc : Nat) : xi_ok cX8_write (xi_175 pc) = true := xi_c (xi_c (zq1 xi_w175) (zq1 (zq2 xi_w175))) (xi_c (zq1 (zq2 (zq2 xi_w175))) (xi_c (zq1 (zq2 (zq2 (zq2 xi_w175)))) (zq1 (zq2 (zq2 (zq2 (zq2 xi_w175)))))))
noncomputable def zi_176_0 : ZIs := [(0, ev_13), (1, ev_168), (3, ev_943), (6, ev_13), (7, ev_417), (9, ev_184), (10, ev_22), (11, ev_418), (12, ev_943), (15, ev_13), (16, ev_374), (18, ev_943), (21, ev_253)]
set_option maxRecDepth 100000 in
theorem xi_w176 : zall cX8_endCommand [zi_176_0] := zall_w _ _ (by decide +kernel)
noncomputable def xi_176 (pc : Nat) : XIs := zx zi_176_0
theorem xi_ok176 (pc : Nat) : xi_ok cX8_endCommand (xi_176 pc) = true := zq1 xi_w176
noncomputable def zi_177_0 : ZIs := [(0, ev_13), (1, ev_669), (4, ev_13), (5, ev_357), (8, ev_14), (9, ev_341), (12, ev_13), (13, ev_357), (16, ev_13), (17, ev_669), (20, ev_184), (21, ev_947), (22, ev_13), (23, ev_1), (24, ev_669), (27, ev_7)]
noncomputable def zi_177_1 : ZIs := [(28, ev_22), (29, ev_666), (32, ev_253)]
set_option maxRecDepth 100000 in
theorem xi_w177 : zall cX8_put [zi_177_0, zi_177_1] := zall_w _ _ (by decide +kernel)
noncomputable def xi_177 (pc : Nat) : XIs := cond (Nat.blt pc 28) (zx zi_177_0) (zx zi_177_1)
theorem xi_ok177 (pc : Nat) : xi_ok cX8_put (xi_177 pc) = true := xi_c (zq1 xi_w177) (zq1 (zq2 xi_w177))
noncomputable def zi_178_0 : ZIs := [(0, ev_13), (1, ev_168), (3, ev_943), (6, ev_184), (7, ev_948), (10, ev_13), (11, ev_395), (13, ev_943), (16, ev_184), (17, ev_949), (20, ev_288), (21, ev_7), (22, ev_289), (23, ev_10), (24, ev_11), (26, ev_12)]
noncomputable def zi_178_1 : ZIs := [(28, ev_466), (30, ev_310), (33, ev_189), (34, ev_190), (35, ev_580), (36, ev_408), (38, ev_599), (41, ev_190), (42, ev_408), (44, ev_350), (45, ev_289), (46, ev_343), (49, ev_709), (52, ev_190), (53, ev_950), (56, ev_13)]
noncomputable def zi_178_2 : ZIs := [(57, ev_933), (59, ev_189), (60, ev_190), (61, ev_580), (62, ev_408), (64, ev_506), (65, ev_22), (66, ev_418), (67, ev_943), (70, ev_190), (71, ev_408), (73, ev_580), (74, ev_289), (75, ev_709), (78, ev_253)]
set_option maxRecDepth 100000 in
theorem xi_w178 : zall cX8_putNumber [zi_178_0, zi_178_1, zi_178_2] := zall_w _ _ (by decide +kernel)
noncomputable def xi_178 (pc : Nat) : XIs := cond (Nat.blt pc 28) (zx zi_178_0) (cond (Nat.blt pc 57) (zx zi_178_1) (zx zi_178_2))
theorem xi_ok178 (pc : Nat) : xi_ok cX8_putNumber (xi_178 pc) = true := xi_c (zq1 xi_w178) (xi_c (zq1 (zq2 xi_w178)) (zq1 (zq2 (zq2 xi_w178))))
noncomputable def zi_179_0 : ZIs := [(0, ev_13), (1, ev_244), (4, ev_13), (5, ev_527), (8, ev_248), (10, ev_246), (13, ev_13), (14, ev_527), (17, ev_248), (19, ev_247), (22, ev_13), (23, ev_527), (26, ev_8), (28, ev_249), (31, ev_13), (32, ev_168)]
noncomputable def zi_179_1 : ZIs := [(34, ev_8), (36, ev_250), (39, ev_13), (40, ev_168), (42, ev_248), (44, ev_251), (47, ev_13), (48, ev_168), (50, ev_248), (52, ev_252), (55, ev_13), (56, ev_168), (58, ev_248), (60, ev_528), (63, ev_13), (64, ev_168)]
noncomputable def zi_179_2 : ZIs := [(66, ev_248), (68, ev_529), (71, ev_13), (72, ev_245), (73, ev_530), (76, ev_13), (77, ev_526), (80, ev_8), (82, ev_951), (85, ev_253)]
set_option maxRecDepth 100000 in
theorem xi_w179 : zall cX9_init [zi_179_0, zi_179_1, zi_179_2] := zall_w _ _ (by decide +kernel)
noncomputable def xi_179 (pc : Nat) : XIs := cond (Nat.blt pc 34) (zx zi_179_0) (cond (Nat.blt pc 66) (zx zi_179_1) (zx zi_179_2))
theorem xi_ok179 (pc : Nat) : xi_ok cX9_init (xi_179 pc) = true := xi_c (zq1 xi_w179) (xi_c (zq1 (zq2 xi_w179)) (zq1 (zq2 (zq2 xi_w179))))
noncomputable def zi_180_0 : ZIs := [(0, ev_13), (1, ev_21), (2, ev_928), (5, ev_223), (6, ev_922), (7, ev_21), (8, ev_699), (11, ev_25), (13, ev_189), (14, ev_28), (16, ev_10), (17, ev_269), (19, ev_270), (21, ev_168), (23, ev_586), (26, ev_13)]
noncomputable def zi_180_1 : ZIs := [(27, ev_191), (29, ev_265), (31, ev_372), (34, ev_321), (37, ev_952), (40, ev_479), (41, ev_10), (42, ev_308), (44, ev_309), (46, ev_191), (48, ev_620), (51, ev_482), (52, ev_13), (53, ev_357), (56, ev_309), (58, ev_437)]
noncomputable def zi_180_2 : ZIs := [(59, ev_455), (60, ev_922), (61, ev_313), (64, ev_756), (67, ev_13), (68, ev_191), (70, ev_265), (72, ev_775), (75, ev_308), (77, ev_309), (79, ev_373), (82, ev_482), (83, ev_479), (84, ev_13), (85, ev_191), (87, ev_309)]
noncomputable def zi_180_3 : ZIs := [(89, ev_213), (92, ev_322), (94, ev_13), (95, ev_214), (98, ev_13), (99, ev_255), (102, ev_265), (104, ev_18), (105, ev_28), (107, ev_324), (109, ev_25), (111, ev_953), (114, ev_954), (117, ev_482), (118, ev_479)]
set_option maxRecDepth 100000 in
theorem xi_w180 : zall cX9_leastRooted [zi_180_0, zi_180_1, zi_180_2, zi_180_3] := zall_w _ _ (by decide +kernel)
noncomputable def xi_180 (pc : Nat) : XIs := cond (Nat.blt pc 59) (cond (Nat.blt pc 27) (zx zi_180_0) (zx zi_180_1)) (cond (Nat.blt pc 89) (zx zi_180_2) (zx zi_180_3))
theorem xi_ok180 (pc : Nat) : xi_ok cX9_leastRooted (xi_180 pc) = true := xi_c (xi_c (zq1 xi_w180) (zq1 (zq2 xi_w180))) (xi_c (zq1 (zq2 (zq2 xi_w180))) (zq1 (zq2 (zq2 (zq2 xi_w180)))))
noncomputable def zi_181_0 : ZIs := [(0, ev_13), (1, ev_10), (2, ev_955), (5, ev_10), (6, ev_288), (7, ev_189), (8, ev_21), (9, ev_956), (12, ev_447), (15, ev_21), (16, ev_189), (17, ev_957), (20, ev_348), (23, ev_13), (24, ev_254), (27, ev_13)]
noncomputable def zi_181_1 : ZIs := [(28, ev_958), (31, ev_21), (32, ev_302), (35, ev_189), (36, ev_18), (37, ev_293), (38, ev_13), (39, ev_274), (42, ev_13), (43, ev_958), (46, ev_21), (47, ev_959), (50, ev_189), (51, ev_18), (52, ev_293), (53, ev_13)]
noncomputable def zi_181_2 : ZIs := [(54, ev_281), (57, ev_13), (58, ev_958), (61, ev_21), (62, ev_960), (65, ev_189), (66, ev_18), (67, ev_167), (68, ev_186), (69, ev_13), (70, ev_1), (71, ev_958), (74, ev_7), (75, ev_22), (76, ev_955), (79, ev_299)]
noncomputable def zi_181_3 : ZIs := [(82, ev_842), (85, ev_253)]
set_option maxRecDepth 100000 in
theorem xi_w181 : zall cX9_copyArcs [zi_181_0, zi_181_1, zi_181_2, zi_181_3] := zall_w _ _ (by decide +kernel)
noncomputable def xi_181 (pc : Nat) : XIs := cond (Nat.blt pc 54) (cond (Nat.blt pc 28) (zx zi_181_0) (zx zi_181_1)) (cond (Nat.blt pc 82) (zx zi_181_2) (zx zi_181_3))
theorem xi_ok181 (pc : Nat) : xi_ok cX9_copyArcs (xi_181 pc) = true := xi_c (xi_c (zq1 xi_w181) (zq1 (zq2 xi_w181))) (xi_c (zq1 (zq2 (zq2 xi_w181))) (zq1 (zq2 (zq2 (zq2 xi_w181)))))
noncomputable def zi_182_0 : ZIs := [(0, ev_13), (1, ev_357), (4, ev_961), (7, ev_962), (10, ev_10), (11, ev_289), (12, ev_190), (13, ev_13), (14, ev_958), (17, ev_963), (20, ev_13), (21, ev_254), (24, ev_190), (25, ev_18), (26, ev_13), (27, ev_274)]
noncomputable def zi_182_1 : ZIs := [(30, ev_190), (31, ev_18), (32, ev_964), (35, ev_13), (36, ev_281), (39, ev_190), (40, ev_437), (41, ev_13), (42, ev_357), (45, ev_13), (46, ev_274), (49, ev_190), (50, ev_18), (51, ev_437), (52, ev_438), (53, ev_628)]
noncomputable def zi_182_2 : ZIs := [(56, ev_13), (57, ev_357), (60, ev_13), (61, ev_274), (64, ev_190), (65, ev_18), (66, ev_13), (67, ev_281), (70, ev_190), (71, ev_437), (72, ev_186), (73, ev_13), (74, ev_336), (77, ev_13), (78, ev_274), (81, ev_190)]
noncomputable def zi_182_3 : ZIs := [(82, ev_18), (83, ev_13), (84, ev_254), (87, ev_190), (88, ev_18), (89, ev_293), (90, ev_294), (93, ev_439), (96, ev_13), (97, ev_357), (100, ev_189), (101, ev_223), (102, ev_186), (103, ev_10), (104, ev_289), (105, ev_190)]
noncomputable def zi_182_4 : ZIs := [(106, ev_184), (107, ev_296), (110, ev_13), (111, ev_357), (114, ev_190), (115, ev_437), (116, ev_961), (119, ev_438), (120, ev_373), (123, ev_10), (124, ev_81), (125, ev_294), (128, ev_709), (131, ev_7), (132, ev_81)]
set_option maxRecDepth 100000 in
theorem xi_w182 : zall cX9_takeCheapest [zi_182_0, zi_182_1, zi_182_2, zi_182_3, zi_182_4] := zall_w _ _ (by decide +kernel)
noncomputable def xi_182 (pc : Nat) : XIs := cond (Nat.blt pc 56) (cond (Nat.blt pc 30) (zx zi_182_0) (zx zi_182_1)) (cond (Nat.blt pc 82) (zx zi_182_2) (cond (Nat.blt pc 106) (zx zi_182_3) (zx zi_182_4)))
theorem xi_ok182 (pc : Nat) : xi_ok cX9_takeCheapest (xi_182 pc) = true := xi_c (xi_c (zq1 xi_w182) (zq1 (zq2 xi_w182))) (xi_c (zq1 (zq2 (zq2 xi_w182))) (xi_c (zq1 (zq2 (zq2 (zq2 xi_w182)))) (zq1 (zq2 (zq2 (zq2 (zq2 xi_w182)))))))
noncomputable def zi_183_0 : ZIs := [(0, ev_10), (1, ev_289), (2, ev_13), (3, ev_255), (6, ev_245), (7, ev_965), (10, ev_13), (11, ev_277), (14, ev_245), (15, ev_965), (18, ev_10), (19, ev_11), (21, ev_12), (23, ev_184), (24, ev_966), (27, ev_12)]
noncomputable def zi_183_1 : ZIs := [(29, ev_25), (31, ev_10), (32, ev_28), (34, ev_265), (36, ev_184), (37, ev_967), (40, ev_191), (42, ev_189), (43, ev_968), (46, ev_13), (47, ev_277), (50, ev_191), (52, ev_18), (53, ev_245), (54, ev_969), (57, ev_13)]
noncomputable def zi_183_2 : ZIs := [(58, ev_277), (61, ev_191), (63, ev_12), (65, ev_293), (66, ev_13), (67, ev_336), (70, ev_191), (72, ev_18), (73, ev_25), (75, ev_315), (78, ev_970), (81, ev_191), (83, ev_189), (84, ev_971), (87, ev_13), (88, ev_277)]
noncomputable def zi_183_3 : ZIs := [(91, ev_191), (93, ev_18), (94, ev_12), (96, ev_972), (99, ev_13), (100, ev_255), (103, ev_191), (105, ev_18), (106, ev_245), (107, ev_973), (110, ev_10), (111, ev_28), (113, ev_265), (115, ev_184), (116, ev_735), (119, ev_13)]
noncomputable def zi_183_4 : ZIs := [(120, ev_255), (123, ev_191), (125, ev_18), (126, ev_245), (127, ev_974), (130, ev_13), (131, ev_255), (134, ev_191), (136, ev_190), (137, ev_293), (138, ev_13), (139, ev_336), (142, ev_191), (144, ev_18), (145, ev_25), (147, ev_315)]
noncomputable def zi_183_5 : ZIs := [(150, ev_295), (153, ev_294), (156, ev_343), (159, ev_975), (162, ev_190), (163, ev_81)]
set_option maxRecDepth 100000 in
theorem xi_w183 : zall cX9_nameRings [zi_183_0, zi_183_1, zi_183_2, zi_183_3, zi_183_4, zi_183_5] := zall_w _ _ (by decide +kernel)
noncomputable def xi_183 (pc : Nat) : XIs := cond (Nat.blt pc 91) (cond (Nat.blt pc 29) (zx zi_183_0) (cond (Nat.blt pc 58) (zx zi_183_1) (zx zi_183_2))) (cond (Nat.blt pc 120) (zx zi_183_3) (cond (Nat.blt pc 150) (zx zi_183_4) (zx zi_183_5)))
theorem xi_ok183 (pc : Nat) : xi_ok cX9_nameRings (xi_183 pc) = true := xi_c (xi_c (zq1 xi_w183) (xi_c (zq1 (zq2 xi_w183)) (zq1 (zq2 (zq2 xi_w183))))) (xi_c (zq1 (zq2 (zq2 (zq2 xi_w183)))) (xi_c (zq1 (zq2 (zq2 (zq2 (zq2 xi_w183))))) (zq1 (zq2 (zq2 (zq2 (zq2 (zq2 xi_w183))))))))
noncomputable def zi_184_0 : ZIs := [(0, ev_189), (1, ev_289), (2, ev_10), (3, ev_11), (5, ev_12), (7, ev_184), (8, ev_583), (11, ev_13), (12, ev_255), (15, ev_12), (17, ev_18), (18, ev_245), (19, ev_796), (22, ev_13), (23, ev_255), (26, ev_12)]
noncomputable def zi_184_1 : ZIs := [(28, ev_190), (29, ev_293), (30, ev_294), (33, ev_343), (36, ev_608), (39, ev_190), (40, ev_81)]
set_option maxRecDepth 100000 in
theorem xi_w184 : zall cX9_nameOthers [zi_184_0, zi_184_1] := zall_w _ _ (by decide +kernel)
noncomputable def xi_184 (pc : Nat) : XIs := cond (Nat.blt pc 28) (zx zi_184_0) (zx zi_184_1)
theorem xi_ok184 (pc : Nat) : xi_ok cX9_nameOthers (xi_184 pc) = true := xi_c (zq1 xi_w184) (zq1 (zq2 xi_w184))
noncomputable def zi_185_0 : ZIs := [(0, ev_10), (1, ev_683), (2, ev_184), (3, ev_13), (4, ev_958), (7, ev_503), (10, ev_13), (11, ev_274), (14, ev_184), (15, ev_18), (16, ev_288), (17, ev_13), (18, ev_254), (21, ev_184), (22, ev_18), (23, ev_289)]
noncomputable def zi_185_1 : ZIs := [(24, ev_190), (25, ev_189), (26, ev_976), (29, ev_13), (30, ev_281), (33, ev_184), (34, ev_311), (35, ev_437), (36, ev_13), (37, ev_357), (40, ev_189), (41, ev_437), (42, ev_483), (43, ev_186), (44, ev_13), (45, ev_254)]
noncomputable def zi_185_2 : ZIs := [(48, ev_184), (49, ev_13), (50, ev_255), (53, ev_190), (54, ev_18), (55, ev_293), (56, ev_13), (57, ev_274), (60, ev_184), (61, ev_13), (62, ev_255), (65, ev_189), (66, ev_18), (67, ev_293), (68, ev_686), (71, ev_508)]
noncomputable def zi_185_3 : ZIs := [(74, ev_253)]
set_option maxRecDepth 100000 in
theorem xi_w185 : zall cX9_shrinkRings [zi_185_0, zi_185_1, zi_185_2, zi_185_3] := zall_w _ _ (by decide +kernel)
noncomputable def xi_185 (pc : Nat) : XIs := cond (Nat.blt pc 48) (cond (Nat.blt pc 24) (zx zi_185_0) (zx zi_185_1)) (cond (Nat.blt pc 74) (zx zi_185_2) (zx zi_185_3))
theorem xi_ok185 (pc : Nat) : xi_ok cX9_shrinkRings (xi_185 pc) = true := xi_c (xi_c (zq1 xi_w185) (zq1 (zq2 xi_w185))) (xi_c (zq1 (zq2 (zq2 xi_w185))) (zq1 (zq2 (zq2 (zq2 xi_w185)))))
noncomputable def zi_186_0 : ZIs := [(0, ev_21), (1, ev_189), (2, ev_957), (5, ev_373), (8, ev_10), (9, ev_81), (10, ev_13), (11, ev_597), (14, ev_10), (15, ev_965), (18, ev_10), (19, ev_289), (20, ev_190), (21, ev_21), (22, ev_956), (25, ev_977)]
noncomputable def zi_186_1 : ZIs := [(28, ev_21), (29, ev_190), (30, ev_957), (33, ev_978), (36, ev_21), (37, ev_190), (38, ev_189), (39, ev_979), (42, ev_980), (45, ev_13), (46, ev_597), (49, ev_21), (50, ev_302), (53, ev_190), (54, ev_18), (55, ev_311)]
noncomputable def zi_186_2 : ZIs := [(56, ev_18), (57, ev_7), (58, ev_21), (59, ev_959), (62, ev_190), (63, ev_18), (64, ev_271), (65, ev_272), (66, ev_293), (67, ev_13), (68, ev_597), (71, ev_21), (72, ev_959), (75, ev_190), (76, ev_18), (77, ev_311)]
noncomputable def zi_186_3 : ZIs := [(78, ev_18), (79, ev_7), (80, ev_21), (81, ev_302), (84, ev_190), (85, ev_18), (86, ev_271), (87, ev_272), (88, ev_293), (89, ev_294), (92, ev_981), (95, ev_13), (96, ev_597), (99, ev_7), (100, ev_21), (101, ev_302)]
noncomputable def zi_186_4 : ZIs := [(104, ev_189), (105, ev_18), (106, ev_271), (107, ev_245), (108, ev_982), (111, ev_21), (112, ev_959), (115, ev_189), (116, ev_18), (117, ev_297), (118, ev_7), (119, ev_20), (120, ev_321), (123, ev_7), (124, ev_222), (127, ev_10)]
noncomputable def zi_186_5 : ZIs := [(128, ev_81)]
set_option maxRecDepth 100000 in
theorem xi_w186 : zall cX9_isSpanning [zi_186_0, zi_186_1, zi_186_2, zi_186_3, zi_186_4, zi_186_5] := zall_w _ _ (by decide +kernel)
noncomputable def xi_186 (pc : Nat) : XIs := cond (Nat.blt pc 78) (cond (Nat.blt pc 28) (zx zi_186_0) (cond (Nat.blt pc 56) (zx zi_186_1) (zx zi_186_2))) (cond (Nat.blt pc 104) (zx zi_186_3) (cond (Nat.blt pc 128) (zx zi_186_4) (zx zi_186_5)))
theorem xi_ok186 (pc : Nat) : xi_ok cX9_isSpanning (xi_186 pc) = true := xi_c (xi_c (zq1 xi_w186) (xi_c (zq1 (zq2 xi_w186)) (zq1 (zq2 (zq2 xi_w186))))) (xi_c (zq1 (zq2 (zq2 (zq2 xi_w186)))) (xi_c (zq1 (zq2 (zq2 (zq2 (zq2 xi_w186))))) (zq1 (zq2 (zq2 (zq2 (zq2 (zq2 xi_w186))))))))
noncomputable def zi_187_0 : ZIs := [(0, ev_13), (1, ev_960), (4, ev_184), (5, ev_18), (6, ev_13), (7, ev_960), (10, ev_189), (11, ev_18), (12, ev_930), (15, ev_13), (16, ev_960), (19, ev_184), (20, ev_18), (21, ev_13), (22, ev_960), (25, ev_189)]
noncomputable def zi_187_1 : ZIs := [(26, ev_18), (27, ev_688), (30, ev_184), (31, ev_189), (32, ev_654), (35, ev_7), (36, ev_222), (39, ev_10), (40, ev_81)]
set_option maxRecDepth 100000 in
theorem xi_w187 : zall cX9_isBefore [zi_187_0, zi_187_1] := zall_w _ _ (by decide +kernel)
noncomputable def xi_187 (pc : Nat) : XIs := cond (Nat.blt pc 26) (zx zi_187_0) (zx zi_187_1)
theorem xi_ok187 (pc : Nat) : xi_ok cX9_isBefore (xi_187 pc) = true := xi_c (zq1 xi_w187) (zq1 (zq2 xi_w187))
noncomputable def zi_188_0 : ZIs := [(0, ev_13), (1, ev_584), (4, ev_21), (5, ev_862), (8, ev_983), (11, ev_13), (12, ev_21), (13, ev_862), (16, ev_530), (19, ev_13), (20, ev_21), (21, ev_699), (24, ev_321), (27, ev_10), (28, ev_984), (31, ev_13)]
noncomputable def zi_188_1 : ZIs := [(32, ev_21), (33, ev_233), (36, ev_985), (39, ev_13), (40, ev_914), (43, ev_81)]
set_option maxRecDepth 100000 in
theorem xi_w188 : zall cX9_countSpanning [zi_188_0, zi_188_1] := zall_w _ _ (by decide +kernel)
noncomputable def xi_188 (pc : Nat) : XIs := cond (Nat.blt pc 32) (zx zi_188_0) (zx zi_188_1)
theorem xi_ok188 (pc : Nat) : xi_ok cX9_countSpanning (xi_188 pc) = true := xi_c (zq1 xi_w188) (zq1 (zq2 xi_w188))
noncomputable def zi_189_0 : ZIs := [(0, ev_13), (1, ev_703), (4, ev_223), (5, ev_962), (8, ev_10), (9, ev_288), (10, ev_189), (11, ev_21), (12, ev_956), (15, ev_986), (18, ev_21), (19, ev_189), (20, ev_957), (23, ev_913), (26, ev_13), (27, ev_703)]
noncomputable def zi_189_1 : ZIs := [(30, ev_21), (31, ev_302), (34, ev_189), (35, ev_18), (36, ev_168), (38, ev_350), (39, ev_21), (40, ev_302), (43, ev_189), (44, ev_18), (45, ev_22), (46, ev_311), (47, ev_437), (48, ev_221), (49, ev_455), (50, ev_186)]
noncomputable def zi_189_2 : ZIs := [(51, ev_13), (52, ev_703), (55, ev_21), (56, ev_959), (59, ev_189), (60, ev_18), (61, ev_168), (63, ev_350), (64, ev_21), (65, ev_959), (68, ev_189), (69, ev_18), (70, ev_22), (71, ev_311), (72, ev_437), (73, ev_221)]
noncomputable def zi_189_3 : ZIs := [(74, ev_455), (75, ev_186), (76, ev_13), (77, ev_703), (80, ev_21), (81, ev_302), (84, ev_189), (85, ev_18), (86, ev_168), (88, ev_350), (89, ev_21), (90, ev_959), (93, ev_189), (94, ev_18), (95, ev_22), (96, ev_311)]
noncomputable def zi_189_4 : ZIs := [(97, ev_437), (98, ev_221), (99, ev_483), (100, ev_186), (101, ev_13), (102, ev_703), (105, ev_21), (106, ev_959), (109, ev_189), (110, ev_18), (111, ev_168), (113, ev_350), (114, ev_21), (115, ev_302), (118, ev_189), (119, ev_18)]
noncomputable def zi_189_5 : ZIs := [(120, ev_22), (121, ev_311), (122, ev_437), (123, ev_221), (124, ev_483), (125, ev_186), (126, ev_299), (129, ev_987), (132, ev_10), (133, ev_288), (134, ev_189), (135, ev_13), (136, ev_703), (139, ev_14), (140, ev_988), (143, ev_13)]
noncomputable def zi_189_6 : ZIs := [(144, ev_703), (147, ev_189), (148, ev_13), (149, ev_703), (152, ev_189), (153, ev_437), (154, ev_571), (157, ev_734), (160, ev_186), (161, ev_299), (164, ev_643), (167, ev_21), (168, ev_699), (171, ev_7), (172, ev_16), (173, ev_288)]
noncomputable def zi_189_7 : ZIs := [(174, ev_221), (175, ev_922), (176, ev_10), (177, ev_25), (179, ev_191), (181, ev_189), (182, ev_861), (185, ev_482), (186, ev_223), (187, ev_438), (188, ev_767), (191, ev_482), (192, ev_13), (193, ev_191), (195, ev_189), (196, ev_238)]
noncomputable def zi_189_8 : ZIs := [(199, ev_490), (200, ev_571), (203, ev_525), (204, ev_922), (205, ev_338), (208, ev_851), (211, ev_482), (212, ev_989), (213, ev_81)]
set_option maxRecDepth 100000 in
theorem xi_w189 : zall cX9_countTrees [zi_189_0, zi_189_1, zi_189_2, zi_189_3, zi_189_4, zi_189_5, zi_189_6, zi_189_7, zi_189_8] := zall_w _ _ (by decide +kernel)
noncomputable def xi_189 (pc : Nat) : XIs := cond (Nat.blt pc 97) (cond (Nat.blt pc 51) (cond (Nat.blt pc 30) (zx zi_189_0) (zx zi_189_1)) (cond (Nat.blt pc 74) (zx zi_189_2) (zx zi_189_3))) (cond (Nat.blt pc 144) (cond (Nat.blt pc 120) (zx zi_189_4) (zx zi_189_5)) (cond (Nat.blt pc 174) (zx zi_189_6) (cond (Nat.blt pc 199) (zx zi_189_7) (zx zi_189_8))))
theorem xi_ok189 (pc : Nat) : xi_ok cX9_countTrees (xi_189 pc) = true := xi_c (xi_c (xi_c (zq1 xi_w189) (zq1 (zq2 xi_w189))) (xi_c (zq1 (zq2 (zq2 xi_w189))) (zq1 (zq2 (zq2 (zq2 xi_w189)))))) (xi_c (xi_c (zq1 (zq2 (zq2 (zq2 (zq2 xi_w189))))) (zq1 (zq2 (zq2 (zq2 (zq2 (zq2 xi_w189))))))) (xi_c (zq1 (zq2 (zq2 (zq2 (zq2 (zq2 (zq2 xi_w189))))))) (xi_c (zq1 (zq2 (zq2 (zq2 (zq2 (zq2 (zq2 (zq2 xi_w189)))))))) (zq1 (zq2 (zq2 (zq2 (zq2 (zq2 (zq2 (zq2 (zq2 xi_w189))))))))))))
noncomputable def zi_190_0 : ZIs := [(0, ev_184), (1, ev_289), (2, ev_190), (3, ev_189), (4, ev_941), (7, ev_13), (8, ev_703), (11, ev_190), (12, ev_168), (14, ev_350), (15, ev_184), (16, ev_22), (17, ev_437), (18, ev_223), (19, ev_438), (20, ev_990)]
noncomputable def zi_190_1 : ZIs := [(23, ev_294), (26, ev_300), (29, ev_190), (30, ev_189), (31, ev_991), (34, ev_223), (35, ev_479), (36, ev_190), (37, ev_184), (38, ev_901), (41, ev_13), (42, ev_190), (43, ev_184), (44, ev_992), (47, ev_13), (48, ev_703)]
noncomputable def zi_190_2 : ZIs := [(51, ev_184), (52, ev_168), (54, ev_350), (55, ev_184), (56, ev_22), (57, ev_437), (58, ev_440), (60, ev_240), (62, ev_993), (65, ev_994), (68, ev_58), (70, ev_184), (71, ev_7), (72, ev_22), (73, ev_308), (75, ev_309)]
noncomputable def zi_190_3 : ZIs := [(77, ev_189), (78, ev_995), (81, ev_571), (84, ev_13), (85, ev_703), (88, ev_309), (90, ev_168), (92, ev_350), (93, ev_184), (94, ev_22), (95, ev_437), (96, ev_483), (97, ev_458), (99, ev_490), (100, ev_571), (103, ev_525)]
noncomputable def zi_190_4 : ZIs := [(104, ev_996), (106, ev_184), (107, ev_449), (109, ev_451), (111, ev_189), (112, ev_814), (115, ev_997), (117, ev_223), (118, ev_438), (119, ev_998), (122, ev_13), (123, ev_703), (126, ev_309), (128, ev_168), (130, ev_350), (131, ev_451)]
noncomputable def zi_190_5 : ZIs := [(133, ev_22), (134, ev_13), (135, ev_703), (138, ev_309), (140, ev_168), (142, ev_350), (143, ev_451), (145, ev_22), (146, ev_437), (147, ev_997), (149, ev_13), (150, ev_703), (153, ev_184), (154, ev_168), (156, ev_350), (157, ev_451)]
noncomputable def zi_190_6 : ZIs := [(159, ev_22), (160, ev_437), (161, ev_490), (162, ev_455), (163, ev_571), (166, ev_525), (167, ev_186), (168, ev_999), (171, ev_273), (174, ev_313), (177, ev_648), (180, ev_190), (181, ev_184), (182, ev_538), (185, ev_240), (187, ev_187)]
noncomputable def zi_190_7 : ZIs := [(190, ev_571), (193, ev_240), (195, ev_483), (196, ev_479)]
set_option maxRecDepth 100000 in
theorem xi_w190 : zall cX9_pivot [zi_190_0, zi_190_1, zi_190_2, zi_190_3, zi_190_4, zi_190_5, zi_190_6, zi_190_7] := zall_w _ _ (by decide +kernel)
noncomputable def xi_190 (pc : Nat) : XIs := cond (Nat.blt pc 104) (cond (Nat.blt pc 51) (cond (Nat.blt pc 23) (zx zi_190_0) (zx zi_190_1)) (cond (Nat.blt pc 77) (zx zi_190_2) (zx zi_190_3))) (cond (Nat.blt pc 159) (cond (Nat.blt pc 133) (zx zi_190_4) (zx zi_190_5)) (cond (Nat.blt pc 190) (zx zi_190_6) (zx zi_190_7)))
theorem xi_ok190 (pc : Nat) : xi_ok cX9_pivot (xi_190 pc) = true := xi_c (xi_c (xi_c (zq1 xi_w190) (zq1 (zq2 xi_w190))) (xi_c (zq1 (zq2 (zq2 xi_w190))) (zq1 (zq2 (zq2 (zq2 xi_w190)))))) (xi_c (xi_c (zq1 (zq2 (zq2 (zq2 (zq2 xi_w190))))) (zq1 (zq2 (zq2 (zq2 (zq2 (zq2 xi_w190))))))) (xi_c (zq1 (zq2 (zq2 (zq2 (zq2 (zq2 (zq2 xi_w190))))))) (zq1 (zq2 (zq2 (zq2 (zq2 (zq2 (zq2 (zq2 xi_w190))))))))))
noncomputable def zi_191_0 : ZIs := [(0, ev_10), (1, ev_289), (2, ev_190), (3, ev_168), (5, ev_722), (8, ev_13), (9, ev_703), (12, ev_184), (13, ev_168), (15, ev_350), (16, ev_190), (17, ev_22), (18, ev_437), (19, ev_440), (21, ev_13), (22, ev_703)]
noncomputable def zi_191_1 : ZIs := [(25, ev_184), (26, ev_168), (28, ev_350), (29, ev_190), (30, ev_22), (31, ev_13), (32, ev_703), (35, ev_189), (36, ev_168), (38, ev_350), (39, ev_190), (40, ev_22), (41, ev_437), (42, ev_186), (43, ev_13), (44, ev_703)]
noncomputable def zi_191_2 : ZIs := [(47, ev_189), (48, ev_168), (50, ev_350), (51, ev_190), (52, ev_22), (53, ev_240), (55, ev_186), (56, ev_294), (59, ev_1000), (62, ev_253)]
set_option maxRecDepth 100000 in
theorem xi_w191 : zall cX9_swapRows [zi_191_0, zi_191_1, zi_191_2] := zall_w _ _ (by decide +kernel)
noncomputable def xi_191 (pc : Nat) : XIs := cond (Nat.blt pc 25) (zx zi_191_0) (cond (Nat.blt pc 47) (zx zi_191_1) (zx zi_191_2))
theorem xi_ok191 (pc : Nat) : xi_ok cX9_swapRows (xi_191 pc) = true := xi_c (zq1 xi_w191) (xi_c (zq1 (zq2 xi_w191)) (zq1 (zq2 (zq2 xi_w191))))
noncomputable def zi_192_0 : ZIs := [(0, ev_221), (1, ev_440), (3, ev_485), (4, ev_58), (6, ev_487), (7, ev_443), (9, ev_460), (11, ev_223), (12, ev_438), (13, ev_1001), (16, ev_460), (18, ev_221), (19, ev_171), (20, ev_223), (21, ev_438), (22, ev_1002)]
noncomputable def zi_192_1 : ZIs := [(25, ev_240), (27, ev_458), (29, ev_490), (30, ev_571), (33, ev_525), (34, ev_440), (36, ev_458), (38, ev_458), (40, ev_490), (41, ev_571), (44, ev_525), (45, ev_58), (47, ev_460), (49, ev_7), (50, ev_905), (51, ev_443)]
noncomputable def zi_192_2 : ZIs := [(53, ev_970), (56, ev_240), (58, ev_479)]
set_option maxRecDepth 100000 in
theorem xi_w192 : zall cX9_power [zi_192_0, zi_192_1, zi_192_2] := zall_w _ _ (by decide +kernel)
noncomputable def xi_192 (pc : Nat) : XIs := cond (Nat.blt pc 25) (zx zi_192_0) (cond (Nat.blt pc 53) (zx zi_192_1) (zx zi_192_2))
theorem xi_ok192 (pc : Nat) : xi_ok cX9_power (xi_192 pc) = true := xi_c (zq1 xi_w192) (xi_c (zq1 (zq2 xi_w192)) (zq1 (zq2 (zq2 xi_w192))))
noncomputable def zi_193_0 : ZIs := [(0, ev_13), (1, ev_244), (4, ev_13), (5, ev_245), (6, ev_246), (9, ev_13), (10, ev_168), (12, ev_8), (14, ev_247), (17, ev_13), (18, ev_168), (20, ev_248), (22, ev_363), (25, ev_13), (26, ev_168), (28, ev_248)]
noncomputable def zi_193_1 : ZIs := [(30, ev_1003), (33, ev_13), (34, ev_168), (36, ev_8), (38, ev_1004), (41, ev_13), (42, ev_168), (44, ev_248), (46, ev_365), (49, ev_13), (50, ev_245), (51, ev_366), (54, ev_13), (55, ev_1005), (58, ev_8), (60, ev_367)]
noncomputable def zi_193_2 : ZIs := [(63, ev_253)]
set_option maxRecDepth 100000 in
theorem xi_w193 : zall cX10_init [zi_193_0, zi_193_1, zi_193_2] := zall_w _ _ (by decide +kernel)
noncomputable def xi_193 (pc : Nat) : XIs := cond (Nat.blt pc 30) (zx zi_193_0) (cond (Nat.blt pc 63) (zx zi_193_1) (zx zi_193_2))
theorem xi_ok193 (pc : Nat) : xi_ok cX10_init (xi_193 pc) = true := xi_c (zq1 xi_w193) (xi_c (zq1 (zq2 xi_w193)) (zq1 (zq2 (zq2 xi_w193))))
noncomputable def zi_194_0 : ZIs := [(0, ev_13), (1, ev_21), (2, ev_190), (3, ev_204), (6, ev_13), (7, ev_259), (10, ev_189), (11, ev_297), (12, ev_7), (13, ev_20), (14, ev_220), (17, ev_1006), (20, ev_479), (21, ev_13), (22, ev_274), (25, ev_189)]
noncomputable def zi_194_1 : ZIs := [(26, ev_437), (27, ev_1007), (30, ev_438), (31, ev_990), (34, ev_707), (37, ev_435), (40, ev_13), (41, ev_274), (44, ev_189), (45, ev_437), (46, ev_1008), (49, ev_262), (52, ev_479)]
set_option maxRecDepth 100000 in
theorem xi_w194 : zall cX10_leastWeight [zi_194_0, zi_194_1] := zall_w _ _ (by decide +kernel)
noncomputable def xi_194 (pc : Nat) : XIs := cond (Nat.blt pc 26) (zx zi_194_0) (zx zi_194_1)
theorem xi_ok194 (pc : Nat) : xi_ok cX10_leastWeight (xi_194 pc) = true := xi_c (zq1 xi_w194) (zq1 (zq2 xi_w194))
end
section
noncomputable def zi_195_0 : ZIs := [(0, ev_13), (1, ev_21), (2, ev_190), (3, ev_204), (6, ev_13), (7, ev_259), (10, ev_189), (11, ev_297), (12, ev_7), (13, ev_20), (14, ev_1009), (17, ev_13), (18, ev_274), (21, ev_189), (22, ev_437), (23, ev_1007)]
noncomputable def zi_195_1 : ZIs := [(26, ev_438), (27, ev_1010), (30, ev_12), (32, ev_167), (33, ev_13), (34, ev_274), (37, ev_189), (38, ev_437), (39, ev_1008), (42, ev_268), (45, ev_438), (46, ev_1011), (49, ev_245), (50, ev_81), (51, ev_245), (52, ev_25)]
noncomputable def zi_195_2 : ZIs := [(54, ev_189), (55, ev_28), (57, ev_10), (58, ev_269), (60, ev_270), (62, ev_12), (64, ev_428), (67, ev_13), (68, ev_21), (69, ev_265), (71, ev_276), (74, ev_25), (76, ev_191), (78, ev_245), (79, ev_689), (82, ev_245)]
noncomputable def zi_195_3 : ZIs := [(83, ev_81), (84, ev_21), (85, ev_1012), (88, ev_191), (90, ev_18), (91, ev_28), (93, ev_953), (96, ev_1013), (99, ev_191), (101, ev_81)]
set_option maxRecDepth 100000 in
theorem xi_w195 : zall cX10_leastArc [zi_195_0, zi_195_1, zi_195_2, zi_195_3] := zall_w _ _ (by decide +kernel)
noncomputable def xi_195 (pc : Nat) : XIs := cond (Nat.blt pc 54) (cond (Nat.blt pc 26) (zx zi_195_0) (zx zi_195_1)) (cond (Nat.blt pc 83) (zx zi_195_2) (zx zi_195_3))
theorem xi_ok195 (pc : Nat) : xi_ok cX10_leastArc (xi_195 pc) = true := xi_c (xi_c (zq1 xi_w195) (zq1 (zq2 xi_w195))) (xi_c (zq1 (zq2 (zq2 xi_w195))) (zq1 (zq2 (zq2 (zq2 xi_w195)))))
noncomputable def zi_196_0 : ZIs := [(0, ev_21), (1, ev_1014), (4, ev_189), (5, ev_18), (6, ev_289), (7, ev_190), (8, ev_21), (9, ev_1014), (12, ev_189), (13, ev_7), (14, ev_22), (15, ev_18), (16, ev_1015), (19, ev_21), (20, ev_1016), (23, ev_190)]
noncomputable def zi_196_1 : ZIs := [(24, ev_18), (25, ev_11), (27, ev_13), (28, ev_274), (31, ev_21), (32, ev_1012), (35, ev_12), (37, ev_18), (38, ev_437), (39, ev_1007), (42, ev_438), (43, ev_857), (46, ev_21), (47, ev_12), (49, ev_1017), (52, ev_13)]
noncomputable def zi_196_2 : ZIs := [(53, ev_274), (56, ev_21), (57, ev_1012), (60, ev_12), (62, ev_18), (63, ev_437), (64, ev_455), (65, ev_13), (66, ev_274), (69, ev_189), (70, ev_437), (71, ev_438), (72, ev_346), (75, ev_12), (77, ev_81), (78, ev_294)]
noncomputable def zi_196_3 : ZIs := [(81, ev_1018), (84, ev_245), (85, ev_81)]
set_option maxRecDepth 100000 in
theorem xi_w196 : zall cX10_stepFrom [zi_196_0, zi_196_1, zi_196_2, zi_196_3] := zall_w _ _ (by decide +kernel)
noncomputable def xi_196 (pc : Nat) : XIs := cond (Nat.blt pc 53) (cond (Nat.blt pc 24) (zx zi_196_0) (zx zi_196_1)) (cond (Nat.blt pc 81) (zx zi_196_2) (zx zi_196_3))
theorem xi_ok196 (pc : Nat) : xi_ok cX10_stepFrom (xi_196 pc) = true := xi_c (xi_c (zq1 xi_w196) (zq1 (zq2 xi_w196))) (xi_c (zq1 (zq2 (zq2 xi_w196))) (zq1 (zq2 (zq2 (zq2 xi_w196)))))
noncomputable def zi_197_0 : ZIs := [(0, ev_13), (1, ev_716), (4, ev_184), (5, ev_18), (6, ev_167), (7, ev_1008), (10, ev_490), (11, ev_221), (12, ev_455), (13, ev_479)]
set_option maxRecDepth 100000 in
theorem xi_w197 : zall cX10_costOf [zi_197_0] := zall_w _ _ (by decide +kernel)
noncomputable def xi_197 (pc : Nat) : XIs := zx zi_197_0
theorem xi_ok197 (pc : Nat) : xi_ok cX10_costOf (xi_197 pc) = true := zq1 xi_w197
noncomputable def zi_198_0 : ZIs := [(0, ev_21), (1, ev_390), (4, ev_13), (5, ev_254), (8, ev_21), (9, ev_945), (12, ev_688), (15, ev_13), (16, ev_721), (19, ev_189), (20, ev_606), (23, ev_253), (24, ev_13), (25, ev_21), (26, ev_945), (29, ev_246)]
noncomputable def zi_198_1 : ZIs := [(32, ev_13), (33, ev_189), (34, ev_1019), (37, ev_13), (38, ev_274), (41, ev_1007), (44, ev_1020), (47, ev_13), (48, ev_274), (51, ev_189), (52, ev_223), (53, ev_186), (54, ev_7), (55, ev_189), (56, ev_271), (57, ev_289)]
noncomputable def zi_198_2 : ZIs := [(58, ev_10), (59, ev_11), (61, ev_12), (63, ev_21), (64, ev_789), (67, ev_684), (70, ev_190), (71, ev_412), (74, ev_13), (75, ev_21), (76, ev_190), (77, ev_231), (80, ev_289), (81, ev_343), (84, ev_709), (87, ev_13)]
noncomputable def zi_198_3 : ZIs := [(88, ev_190), (89, ev_321), (92, ev_10), (93, ev_786), (96, ev_21), (97, ev_790), (100, ev_13), (101, ev_21), (102, ev_190), (103, ev_231), (106, ev_245), (107, ev_567), (110, ev_661), (113, ev_253)]
set_option maxRecDepth 100000 in
theorem xi_w198 : zall cX10_measure [zi_198_0, zi_198_1, zi_198_2, zi_198_3] := zall_w _ _ (by decide +kernel)
noncomputable def xi_198 (pc : Nat) : XIs := cond (Nat.blt pc 58) (cond (Nat.blt pc 32) (zx zi_198_0) (zx zi_198_1)) (cond (Nat.blt pc 88) (zx zi_198_2) (zx zi_198_3))
theorem xi_ok198 (pc : Nat) : xi_ok cX10_measure (xi_198 pc) = true := xi_c (xi_c (zq1 xi_w198) (zq1 (zq2 xi_w198))) (xi_c (zq1 (zq2 (zq2 xi_w198))) (zq1 (zq2 (zq2 (zq2 xi_w198)))))
noncomputable def zi_199_0 : ZIs := [(0, ev_10), (1, ev_289), (2, ev_189), (3, ev_11), (5, ev_12), (7, ev_1021), (10, ev_12), (12, ev_1022), (15, ev_25), (17, ev_21), (18, ev_423), (21, ev_191), (23, ev_18), (24, ev_28), (26, ev_265), (28, ev_21)]
noncomputable def zi_199_1 : ZIs := [(29, ev_423), (32, ev_191), (34, ev_7), (35, ev_22), (36, ev_18), (37, ev_1023), (40, ev_21), (41, ev_1024), (44, ev_265), (46, ev_18), (47, ev_269), (49, ev_21), (50, ev_1025), (53, ev_270), (55, ev_18), (56, ev_308)]
noncomputable def zi_199_2 : ZIs := [(58, ev_21), (59, ev_270), (61, ev_1017), (64, ev_13), (65, ev_274), (68, ev_191), (70, ev_437), (71, ev_455), (72, ev_13), (73, ev_274), (76, ev_309), (78, ev_437), (79, ev_438), (80, ev_1026), (83, ev_13), (84, ev_274)]
noncomputable def zi_199_3 : ZIs := [(87, ev_309), (89, ev_21), (90, ev_270), (92, ev_1017), (95, ev_13), (96, ev_274), (99, ev_191), (101, ev_437), (102, ev_455), (103, ev_186), (104, ev_190), (105, ev_7), (106, ev_309), (108, ev_271), (109, ev_272), (110, ev_289)]
noncomputable def zi_199_4 : ZIs := [(111, ev_315), (114, ev_316), (117, ev_12), (119, ev_12), (121, ev_7), (122, ev_16), (123, ev_20), (124, ev_11), (126, ev_604), (129, ev_190), (130, ev_81)]
set_option maxRecDepth 100000 in
theorem xi_w199 : zall cX10_relax [zi_199_0, zi_199_1, zi_199_2, zi_199_3, zi_199_4] := zall_w _ _ (by decide +kernel)
noncomputable def xi_199 (pc : Nat) : XIs := cond (Nat.blt pc 58) (cond (Nat.blt pc 29) (zx zi_199_0) (zx zi_199_1)) (cond (Nat.blt pc 87) (zx zi_199_2) (cond (Nat.blt pc 111) (zx zi_199_3) (zx zi_199_4)))
theorem xi_ok199 (pc : Nat) : xi_ok cX10_relax (xi_199 pc) = true := xi_c (xi_c (zq1 xi_w199) (zq1 (zq2 xi_w199))) (xi_c (zq1 (zq2 (zq2 xi_w199))) (xi_c (zq1 (zq2 (zq2 (zq2 xi_w199)))) (zq1 (zq2 (zq2 (zq2 (zq2 xi_w199)))))))
noncomputable def zi_200_0 : ZIs := [(0, ev_21), (1, ev_390), (4, ev_13), (5, ev_436), (8, ev_245), (9, ev_1027), (12, ev_13), (13, ev_436), (16, ev_189), (17, ev_1028), (19, ev_293), (20, ev_21), (21, ev_992), (24, ev_11), (26, ev_10), (27, ev_25)]
noncomputable def zi_200_1 : ZIs := [(29, ev_191), (31, ev_21), (32, ev_789), (35, ev_1029), (38, ev_13), (39, ev_12), (41, ev_741), (44, ev_28), (46, ev_265), (48, ev_190), (49, ev_1030), (52, ev_13), (53, ev_436), (56, ev_265), (58, ev_18), (59, ev_245)]
noncomputable def zi_200_2 : ZIs := [(60, ev_808), (63, ev_13), (64, ev_436), (67, ev_190), (68, ev_18), (69, ev_81), (70, ev_12), (72, ev_7), (73, ev_265), (75, ev_271), (76, ev_245), (77, ev_312), (78, ev_20), (79, ev_11), (81, ev_21), (82, ev_1014)]
noncomputable def zi_200_3 : ZIs := [(85, ev_265), (87, ev_18), (88, ev_269), (90, ev_270), (92, ev_21), (93, ev_1014), (96, ev_265), (98, ev_7), (99, ev_22), (100, ev_18), (101, ev_814), (104, ev_21), (105, ev_1016), (108, ev_270), (110, ev_18), (111, ev_308)]
noncomputable def zi_200_4 : ZIs := [(113, ev_13), (114, ev_436), (117, ev_21), (118, ev_1012), (121, ev_309), (123, ev_18), (124, ev_13), (125, ev_436), (128, ev_21), (129, ev_1012), (132, ev_309), (134, ev_18), (135, ev_18), (136, ev_13), (137, ev_436), (140, ev_265)]
noncomputable def zi_200_5 : ZIs := [(142, ev_18), (143, ev_21), (144, ev_582), (147, ev_309), (149, ev_18), (150, ev_1031), (153, ev_1032), (156, ev_293), (157, ev_953), (160, ev_1033), (163, ev_338), (166, ev_1034), (169, ev_13), (170, ev_436), (173, ev_190), (174, ev_18)]
noncomputable def zi_200_6 : ZIs := [(175, ev_81)]
set_option maxRecDepth 100000 in
theorem xi_w200 : zall cX10_widest [zi_200_0, zi_200_1, zi_200_2, zi_200_3, zi_200_4, zi_200_5, zi_200_6] := zall_w _ _ (by decide +kernel)
noncomputable def xi_200 (pc : Nat) : XIs := cond (Nat.blt pc 85) (cond (Nat.blt pc 29) (zx zi_200_0) (cond (Nat.blt pc 60) (zx zi_200_1) (zx zi_200_2))) (cond (Nat.blt pc 142) (cond (Nat.blt pc 113) (zx zi_200_3) (zx zi_200_4)) (cond (Nat.blt pc 175) (zx zi_200_5) (zx zi_200_6)))
theorem xi_ok200 (pc : Nat) : xi_ok cX10_widest (xi_200 pc) = true := xi_c (xi_c (zq1 xi_w200) (xi_c (zq1 (zq2 xi_w200)) (zq1 (zq2 (zq2 xi_w200))))) (xi_c (xi_c (zq1 (zq2 (zq2 (zq2 xi_w200)))) (zq1 (zq2 (zq2 (zq2 (zq2 xi_w200)))))) (xi_c (zq1 (zq2 (zq2 (zq2 (zq2 (zq2 xi_w200)))))) (zq1 (zq2 (zq2 (zq2 (zq2 (zq2 (zq2 xi_w200)))))))))
noncomputable def zi_201_0 : ZIs := [(0, ev_184), (1, ev_1022), (4, ev_288), (5, ev_184), (6, ev_289), (7, ev_190), (8, ev_857), (11, ev_13), (12, ev_436), (15, ev_190), (16, ev_1022), (19, ev_18), (20, ev_13), (21, ev_436), (24, ev_189), (25, ev_18)]
noncomputable def zi_201_1 : ZIs := [(26, ev_263), (29, ev_190), (30, ev_1022), (33, ev_288), (34, ev_190), (35, ev_190), (36, ev_7), (37, ev_16), (38, ev_20), (39, ev_289), (40, ev_859), (43, ev_189), (44, ev_81)]
set_option maxRecDepth 100000 in
theorem xi_w201 : zall cX10_widestOf [zi_201_0, zi_201_1] := zall_w _ _ (by decide +kernel)
noncomputable def xi_201 (pc : Nat) : XIs := cond (Nat.blt pc 26) (zx zi_201_0) (zx zi_201_1)
theorem xi_ok201 (pc : Nat) : xi_ok cX10_widestOf (xi_201 pc) = true := xi_c (zq1 xi_w201) (zq1 (zq2 xi_w201))
noncomputable def zi_202_0 : ZIs := [(0, ev_13), (1, ev_21), (2, ev_189), (3, ev_1035), (6, ev_13), (7, ev_1036), (10, ev_190), (11, ev_18), (12, ev_81)]
set_option maxRecDepth 100000 in
theorem xi_w202 : zall cX10_fewestArcs [zi_202_0] := zall_w _ _ (by decide +kernel)
noncomputable def xi_202 (pc : Nat) : XIs := zx zi_202_0
theorem xi_ok202 (pc : Nat) : xi_ok cX10_fewestArcs (xi_202 pc) = true := zq1 xi_w202
noncomputable def zi_203_0 : ZIs := [(0, ev_13), (1, ev_21), (2, ev_189), (3, ev_1035), (6, ev_13), (7, ev_1036), (10, ev_190), (11, ev_18), (12, ev_25), (14, ev_13), (15, ev_1036), (18, ev_12), (20, ev_18), (21, ev_28), (23, ev_13), (24, ev_1037)]
noncomputable def zi_203_1 : ZIs := [(27, ev_12), (29, ev_437), (30, ev_919), (32, ev_191), (34, ev_245), (35, ev_901), (38, ev_265), (40, ev_245), (41, ev_689), (44, ev_10), (45, ev_81), (46, ev_12), (48, ev_189), (49, ev_817), (52, ev_13), (53, ev_21)]
noncomputable def zi_203_2 : ZIs := [(54, ev_12), (56, ev_1035), (59, ev_13), (60, ev_1036), (63, ev_190), (64, ev_18), (65, ev_245), (66, ev_898), (69, ev_265), (71, ev_13), (72, ev_1036), (75, ev_190), (76, ev_18), (77, ev_22), (78, ev_191), (80, ev_1038)]
noncomputable def zi_203_3 : ZIs := [(83, ev_10), (84, ev_81), (85, ev_920), (87, ev_13), (88, ev_1037), (91, ev_190), (92, ev_437), (93, ev_490), (94, ev_1039), (97, ev_525), (98, ev_989), (99, ev_81)]
set_option maxRecDepth 100000 in
theorem xi_w203 : zall cX10_countBy [zi_203_0, zi_203_1, zi_203_2, zi_203_3] := zall_w _ _ (by decide +kernel)
noncomputable def xi_203 (pc : Nat) : XIs := cond (Nat.blt pc 54) (cond (Nat.blt pc 27) (zx zi_203_0) (zx zi_203_1)) (cond (Nat.blt pc 83) (zx zi_203_2) (zx zi_203_3))
theorem xi_ok203 (pc : Nat) : xi_ok cX10_countBy (xi_203 pc) = true := xi_c (xi_c (zq1 xi_w203) (zq1 (zq2 xi_w203))) (xi_c (zq1 (zq2 (zq2 xi_w203))) (zq1 (zq2 (zq2 (zq2 xi_w203)))))
noncomputable def zi_204_0 : ZIs := [(0, ev_21), (1, ev_390), (4, ev_13), (5, ev_1036), (8, ev_245), (9, ev_1027), (12, ev_13), (13, ev_1037), (16, ev_223), (17, ev_1020), (20, ev_13), (21, ev_1036), (24, ev_189), (25, ev_10), (26, ev_293), (27, ev_13)]
noncomputable def zi_204_1 : ZIs := [(28, ev_1037), (31, ev_189), (32, ev_221), (33, ev_186), (34, ev_13), (35, ev_463), (38, ev_10), (39, ev_189), (40, ev_293), (41, ev_7), (42, ev_289), (43, ev_10), (44, ev_11), (46, ev_12), (48, ev_190), (49, ev_1040)]
noncomputable def zi_204_2 : ZIs := [(52, ev_13), (53, ev_463), (56, ev_12), (58, ev_18), (59, ev_25), (61, ev_21), (62, ev_1014), (65, ev_191), (67, ev_18), (68, ev_28), (70, ev_265), (72, ev_21), (73, ev_1014), (76, ev_191), (78, ev_7), (79, ev_22)]
noncomputable def zi_204_3 : ZIs := [(80, ev_18), (81, ev_1041), (84, ev_21), (85, ev_1012), (88, ev_21), (89, ev_1016), (92, ev_265), (94, ev_18), (95, ev_18), (96, ev_269), (98, ev_13), (99, ev_1036), (102, ev_270), (104, ev_18), (105, ev_245), (106, ev_415)]
noncomputable def zi_204_4 : ZIs := [(109, ev_190), (110, ev_168), (112, ev_927), (115, ev_13), (116, ev_1036), (119, ev_270), (121, ev_13), (122, ev_1036), (125, ev_191), (127, ev_18), (128, ev_7), (129, ev_22), (130, ev_293), (131, ev_13), (132, ev_463), (135, ev_190)]
noncomputable def zi_204_5 : ZIs := [(136, ev_270), (138, ev_293), (139, ev_294), (142, ev_13), (143, ev_1036), (146, ev_270), (148, ev_18), (149, ev_13), (150, ev_1036), (153, ev_191), (155, ev_18), (156, ev_7), (157, ev_22), (158, ev_887), (161, ev_13), (162, ev_1037)]
noncomputable def zi_204_6 : ZIs := [(165, ev_270), (167, ev_13), (168, ev_1037), (171, ev_270), (173, ev_437), (174, ev_13), (175, ev_1037), (178, ev_191), (180, ev_437), (181, ev_455), (182, ev_1039), (185, ev_525), (186, ev_186), (187, ev_315), (190, ev_478), (193, ev_343)]
noncomputable def zi_204_7 : ZIs := [(196, ev_1042), (199, ev_253)]
set_option maxRecDepth 100000 in
theorem xi_w204 : zall cX10_spread [zi_204_0, zi_204_1, zi_204_2, zi_204_3, zi_204_4, zi_204_5, zi_204_6, zi_204_7] := zall_w _ _ (by decide +kernel)
noncomputable def xi_204 (pc : Nat) : XIs := cond (Nat.blt pc 109) (cond (Nat.blt pc 52) (cond (Nat.blt pc 28) (zx zi_204_0) (zx zi_204_1)) (cond (Nat.blt pc 80) (zx zi_204_2) (zx zi_204_3))) (cond (Nat.blt pc 165) (cond (Nat.blt pc 136) (zx zi_204_4) (zx zi_204_5)) (cond (Nat.blt pc 196) (zx zi_204_6) (zx zi_204_7)))
theorem xi_ok204 (pc : Nat) : xi_ok cX10_spread (xi_204 pc) = true := xi_c (xi_c (xi_c (zq1 xi_w204) (zq1 (zq2 xi_w204))) (xi_c (zq1 (zq2 (zq2 xi_w204))) (zq1 (zq2 (zq2 (zq2 xi_w204)))))) (xi_c (xi_c (zq1 (zq2 (zq2 (zq2 (zq2 xi_w204))))) (zq1 (zq2 (zq2 (zq2 (zq2 (zq2 xi_w204))))))) (xi_c (zq1 (zq2 (zq2 (zq2 (zq2 (zq2 (zq2 xi_w204))))))) (zq1 (zq2 (zq2 (zq2 (zq2 (zq2 (zq2 (zq2 xi_w204))))))))))
noncomputable def zi_205_0 : ZIs := [(0, ev_13), (1, ev_21), (2, ev_189), (3, ev_190), (4, ev_812), (7, ev_13), (8, ev_1043), (11, ev_1044), (14, ev_263), (17, ev_1045), (19, ev_205), (22, ev_13), (23, ev_1043), (26, ev_81)]
set_option maxRecDepth 100000 in
theorem xi_w205 : zall cX10_countShort [zi_205_0] := zall_w _ _ (by decide +kernel)
noncomputable def xi_205 (pc : Nat) : XIs := zx zi_205_0
theorem xi_ok205 (pc : Nat) : xi_ok cX10_countShort (xi_205 pc) = true := zq1 xi_w205
noncomputable def zi_206_0 : ZIs := [(0, ev_13), (1, ev_21), (2, ev_189), (3, ev_190), (4, ev_812), (7, ev_13), (8, ev_1043), (11, ev_1044), (14, ev_1046), (17, ev_12), (19, ev_13), (20, ev_1043), (23, ev_991), (26, ev_245), (27, ev_81), (28, ev_13)]
noncomputable def zi_206_1 : ZIs := [(29, ev_425), (32, ev_12), (34, ev_437), (35, ev_58), (37, ev_191), (39, ev_458), (41, ev_168), (43, ev_905), (44, ev_1047), (47, ev_171), (48, ev_989), (49, ev_991), (52, ev_245), (53, ev_81), (54, ev_458), (56, ev_1048)]
noncomputable def zi_206_2 : ZIs := [(58, ev_467), (60, ev_191), (62, ev_350), (63, ev_16), (64, ev_905), (65, ev_1049), (68, ev_171), (69, ev_989), (70, ev_81)]
set_option maxRecDepth 100000 in
theorem xi_w206 : zall cX10_arcOfShort [zi_206_0, zi_206_1, zi_206_2] := zall_w _ _ (by decide +kernel)
noncomputable def xi_206 (pc : Nat) : XIs := cond (Nat.blt pc 29) (zx zi_206_0) (cond (Nat.blt pc 58) (zx zi_206_1) (zx zi_206_2))
theorem xi_ok206 (pc : Nat) : xi_ok cX10_arcOfShort (xi_206 pc) = true := xi_c (zq1 xi_w206) (xi_c (zq1 (zq2 xi_w206)) (zq1 (zq2 (zq2 xi_w206))))
noncomputable def zi_207_0 : ZIs := [(0, ev_13), (1, ev_429), (4, ev_21), (5, ev_945), (8, ev_1050), (11, ev_13), (12, ev_1051), (15, ev_189), (16, ev_688), (19, ev_13), (20, ev_1052), (23, ev_190), (24, ev_606), (27, ev_253), (28, ev_21), (29, ev_390)]
noncomputable def zi_207_1 : ZIs := [(32, ev_13), (33, ev_21), (34, ev_945), (37, ev_366), (40, ev_13), (41, ev_189), (42, ev_1053), (45, ev_13), (46, ev_190), (47, ev_1054), (50, ev_13), (51, ev_10), (52, ev_1055), (55, ev_13), (56, ev_21), (57, ev_189)]
noncomputable def zi_207_2 : ZIs := [(58, ev_7), (59, ev_189), (60, ev_271), (61, ev_10), (62, ev_223), (63, ev_47), (66, ev_13), (67, ev_1043), (70, ev_1044), (73, ev_884), (76, ev_13), (77, ev_1056), (80, ev_253)]
set_option maxRecDepth 100000 in
theorem xi_w207 : zall cX10_collect [zi_207_0, zi_207_1, zi_207_2] := zall_w _ _ (by decide +kernel)
noncomputable def xi_207 (pc : Nat) : XIs := cond (Nat.blt pc 32) (zx zi_207_0) (cond (Nat.blt pc 58) (zx zi_207_1) (zx zi_207_2))
theorem xi_ok207 (pc : Nat) : xi_ok cX10_collect (xi_207 pc) = true := xi_c (zq1 xi_w207) (xi_c (zq1 (zq2 xi_w207)) (zq1 (zq2 (zq2 xi_w207))))
noncomputable def zi_208_0 : ZIs := [(0, ev_21), (1, ev_1014), (4, ev_189), (5, ev_18), (6, ev_269), (8, ev_270), (10, ev_21), (11, ev_1014), (14, ev_189), (15, ev_7), (16, ev_22), (17, ev_18), (18, ev_1057), (21, ev_13), (22, ev_1043), (25, ev_1044)]
noncomputable def zi_208_1 : ZIs := [(28, ev_1058), (31, ev_12), (33, ev_32), (34, ev_1040), (37, ev_21), (38, ev_1016), (41, ev_270), (43, ev_18), (44, ev_308), (46, ev_21), (47, ev_1012), (50, ev_309), (52, ev_18), (53, ev_322), (55, ev_499), (57, ev_21)]
noncomputable def zi_208_2 : ZIs := [(58, ev_716), (61, ev_309), (63, ev_18), (64, ev_167), (65, ev_1059), (67, ev_169), (68, ev_455), (69, ev_309), (71, ev_167), (72, ev_1048), (74, ev_467), (76, ev_12), (78, ev_350), (79, ev_16), (80, ev_169), (81, ev_455)]
noncomputable def zi_208_3 : ZIs := [(82, ev_1060), (84, ev_324), (86, ev_13), (87, ev_1052), (90, ev_1061), (93, ev_13), (94, ev_425), (97, ev_13), (98, ev_1043), (101, ev_1062), (103, ev_1063), (106, ev_455), (107, ev_12), (109, ev_7), (110, ev_22), (111, ev_167)]
noncomputable def zi_208_4 : ZIs := [(112, ev_168), (114, ev_169), (115, ev_455), (116, ev_186), (117, ev_13), (118, ev_1), (119, ev_1043), (122, ev_7), (123, ev_22), (124, ev_1055), (127, ev_1064), (130, ev_190), (131, ev_324), (133, ev_297), (134, ev_7), (135, ev_20)]
noncomputable def zi_208_5 : ZIs := [(136, ev_307), (139, ev_13), (140, ev_21), (141, ev_324), (143, ev_190), (144, ev_7), (145, ev_324), (147, ev_271), (148, ev_272), (149, ev_31), (150, ev_12), (152, ev_16), (153, ev_1065), (156, ev_1010), (159, ev_13), (160, ev_21)]
noncomputable def zi_208_6 : ZIs := [(161, ev_324), (163, ev_190), (164, ev_7), (165, ev_324), (167, ev_271), (168, ev_272), (169, ev_12), (171, ev_7), (172, ev_22), (173, ev_1062), (175, ev_47), (178, ev_953), (181, ev_1066), (184, ev_253)]
set_option maxRecDepth 100000 in
theorem xi_w208 : zall cX10_gather [zi_208_0, zi_208_1, zi_208_2, zi_208_3, zi_208_4, zi_208_5, zi_208_6] := zall_w _ _ (by decide +kernel)
noncomputable def xi_208 (pc : Nat) : XIs := cond (Nat.blt pc 82) (cond (Nat.blt pc 28) (zx zi_208_0) (cond (Nat.blt pc 58) (zx zi_208_1) (zx zi_208_2))) (cond (Nat.blt pc 136) (cond (Nat.blt pc 112) (zx zi_208_3) (zx zi_208_4)) (cond (Nat.blt pc 161) (zx zi_208_5) (zx zi_208_6)))
theorem xi_ok208 (pc : Nat) : xi_ok cX10_gather (xi_208 pc) = true := xi_c (xi_c (zq1 xi_w208) (xi_c (zq1 (zq2 xi_w208)) (zq1 (zq2 (zq2 xi_w208))))) (xi_c (xi_c (zq1 (zq2 (zq2 (zq2 xi_w208)))) (zq1 (zq2 (zq2 (zq2 (zq2 xi_w208)))))) (xi_c (zq1 (zq2 (zq2 (zq2 (zq2 (zq2 xi_w208)))))) (zq1 (zq2 (zq2 (zq2 (zq2 (zq2 (zq2 xi_w208)))))))))
noncomputable def zi_209_0 : ZIs := [(0, ev_21), (1, ev_790), (4, ev_13), (5, ev_1052), (8, ev_18), (9, ev_25), (11, ev_12), (13, ev_7), (14, ev_599), (17, ev_191), (19, ev_189), (20, ev_297), (21, ev_7), (22, ev_20), (23, ev_298), (26, ev_7)]
noncomputable def zi_209_1 : ZIs := [(27, ev_81), (28, ev_21), (29, ev_1067), (32, ev_189), (33, ev_18), (34, ev_190), (35, ev_245), (36, ev_312), (37, ev_20), (38, ev_28), (40, ev_12), (42, ev_30), (43, ev_409), (46, ev_265), (48, ev_191), (50, ev_20)]
noncomputable def zi_209_2 : ZIs := [(51, ev_298), (54, ev_7), (55, ev_81), (56, ev_265), (58, ev_269), (60, ev_12), (62, ev_31), (63, ev_1068), (66, ev_270), (68, ev_1069), (71, ev_21), (72, ev_1067), (75, ev_270), (77, ev_1022), (80, ev_18), (81, ev_190)]
noncomputable def zi_209_3 : ZIs := [(82, ev_245), (83, ev_312), (84, ev_20), (85, ev_191), (87, ev_20), (88, ev_298), (91, ev_7), (92, ev_81), (93, ev_270), (95, ev_270), (97, ev_7), (98, ev_16), (99, ev_20), (100, ev_269), (102, ev_513), (105, ev_10)]
noncomputable def zi_209_4 : ZIs := [(106, ev_81)]
set_option maxRecDepth 100000 in
theorem xi_w209 : zall cX10_leads [zi_209_0, zi_209_1, zi_209_2, zi_209_3, zi_209_4] := zall_w _ _ (by decide +kernel)
noncomputable def xi_209 (pc : Nat) : XIs := cond (Nat.blt pc 51) (cond (Nat.blt pc 27) (zx zi_209_0) (zx zi_209_1)) (cond (Nat.blt pc 82) (zx zi_209_2) (cond (Nat.blt pc 106) (zx zi_209_3) (zx zi_209_4)))
theorem xi_ok209 (pc : Nat) : xi_ok cX10_leads (xi_209 pc) = true := xi_c (xi_c (zq1 xi_w209) (zq1 (zq2 xi_w209))) (xi_c (zq1 (zq2 (zq2 xi_w209))) (xi_c (zq1 (zq2 (zq2 (zq2 xi_w209)))) (zq1 (zq2 (zq2 (zq2 (zq2 xi_w209)))))))
noncomputable def zi_210_0 : ZIs := [(0, ev_7), (1, ev_683), (2, ev_184), (3, ev_13), (4, ev_1043), (7, ev_31), (8, ev_580), (9, ev_844), (12, ev_31), (13, ev_184), (14, ev_350), (15, ev_7), (16, ev_22), (17, ev_683), (18, ev_1070), (21, ev_184)]
noncomputable def zi_210_1 : ZIs := [(22, ev_1071), (25, ev_184), (26, ev_288), (27, ev_189), (28, ev_13), (29, ev_1043), (32, ev_813), (35, ev_13), (36, ev_425), (39, ev_189), (40, ev_437), (41, ev_922), (42, ev_189), (43, ev_25), (45, ev_191), (47, ev_184)]
noncomputable def zi_210_2 : ZIs := [(48, ev_1068), (51, ev_13), (52, ev_425), (55, ev_191), (57, ev_184), (58, ev_16), (59, ev_437), (60, ev_482), (61, ev_438), (62, ev_602), (65, ev_13), (66, ev_425), (69, ev_191), (71, ev_13), (72, ev_425), (75, ev_191)]
noncomputable def zi_210_3 : ZIs := [(77, ev_184), (78, ev_16), (79, ev_437), (80, ev_186), (81, ev_191), (83, ev_184), (84, ev_16), (85, ev_25), (87, ev_513), (90, ev_13), (91, ev_425), (94, ev_191), (96, ev_482), (97, ev_186), (98, ev_299), (101, ev_1018)]
noncomputable def zi_210_4 : ZIs := [(104, ev_184), (105, ev_31), (106, ev_580), (107, ev_683), (108, ev_1072), (111, ev_253)]
set_option maxRecDepth 100000 in
theorem xi_w210 : zall cX10_sortKeys [zi_210_0, zi_210_1, zi_210_2, zi_210_3, zi_210_4] := zall_w _ _ (by decide +kernel)
noncomputable def xi_210 (pc : Nat) : XIs := cond (Nat.blt pc 48) (cond (Nat.blt pc 22) (zx zi_210_0) (zx zi_210_1)) (cond (Nat.blt pc 77) (zx zi_210_2) (cond (Nat.blt pc 104) (zx zi_210_3) (zx zi_210_4)))
theorem xi_ok210 (pc : Nat) : xi_ok cX10_sortKeys (xi_210 pc) = true := xi_c (xi_c (zq1 xi_w210) (zq1 (zq2 xi_w210))) (xi_c (zq1 (zq2 (zq2 xi_w210))) (xi_c (zq1 (zq2 (zq2 (zq2 xi_w210)))) (zq1 (zq2 (zq2 (zq2 (zq2 xi_w210)))))))
noncomputable def zi_211_0 : ZIs := [(0, ev_13), (1, ev_1073), (4, ev_13), (5, ev_1074), (8, ev_1), (9, ev_1075), (12, ev_1076), (15, ev_13), (16, ev_1077), (19, ev_1), (20, ev_1078), (23, ev_363), (26, ev_13), (27, ev_245), (28, ev_1003), (31, ev_13)]
noncomputable def zi_211_1 : ZIs := [(32, ev_1079), (35, ev_1), (36, ev_1080), (39, ev_658), (42, ev_13), (43, ev_1081), (46, ev_1), (47, ev_1082), (50, ev_530), (53, ev_13), (54, ev_1083), (57, ev_1), (58, ev_1084), (61, ev_1085), (64, ev_13), (65, ev_1086)]
noncomputable def zi_211_2 : ZIs := [(68, ev_1), (69, ev_1087), (72, ev_664), (75, ev_13), (76, ev_1088), (79, ev_1), (80, ev_1089), (83, ev_541), (86, ev_13), (87, ev_1090), (90, ev_1), (91, ev_1091), (94, ev_1092), (97, ev_13), (98, ev_1093), (101, ev_1)]
noncomputable def zi_211_3 : ZIs := [(102, ev_1094), (105, ev_1095), (108, ev_13), (109, ev_1096), (112, ev_1), (113, ev_1097), (116, ev_280), (119, ev_13), (120, ev_1098), (123, ev_1), (124, ev_1099), (127, ev_1100), (130, ev_253)]
set_option maxRecDepth 100000 in
theorem xi_w211 : zall cX11_init [zi_211_0, zi_211_1, zi_211_2, zi_211_3] := zall_w _ _ (by decide +kernel)
noncomputable def xi_211 (pc : Nat) : XIs := cond (Nat.blt pc 68) (cond (Nat.blt pc 32) (zx zi_211_0) (zx zi_211_1)) (cond (Nat.blt pc 102) (zx zi_211_2) (zx zi_211_3))
theorem xi_ok211 (pc : Nat) : xi_ok cX11_init (xi_211 pc) = true := xi_c (xi_c (zq1 xi_w211) (zq1 (zq2 xi_w211))) (xi_c (zq1 (zq2 (zq2 xi_w211))) (zq1 (zq2 (zq2 (zq2 xi_w211)))))
noncomputable def zi_212_0 : ZIs := [(0, ev_184), (1, ev_962), (4, ev_854), (7, ev_13), (8, ev_1101), (11, ev_410), (14, ev_1102), (17, ev_168), (19, ev_681), (22, ev_13), (23, ev_1101), (26, ev_419), (29, ev_321), (32, ev_7), (33, ev_222), (36, ev_10)]
noncomputable def zi_212_1 : ZIs := [(37, ev_567), (40, ev_13), (41, ev_1101), (44, ev_184), (45, ev_422), (48, ev_81)]
set_option maxRecDepth 100000 in
theorem xi_w212 : zall cX11_node [zi_212_0, zi_212_1] := zall_w _ _ (by decide +kernel)
noncomputable def xi_212 (pc : Nat) : XIs := cond (Nat.blt pc 37) (zx zi_212_0) (zx zi_212_1)
theorem xi_ok212 (pc : Nat) : xi_ok cX11_node (xi_212 pc) = true := xi_c (zq1 xi_w212) (zq1 (zq2 xi_w212))
noncomputable def zi_213_0 : ZIs := [(0, ev_13), (1, ev_1101), (4, ev_184), (5, ev_189), (6, ev_190), (7, ev_12), (9, ev_191), (11, ev_733), (14, ev_854), (17, ev_13), (18, ev_1101), (21, ev_419), (24, ev_321), (27, ev_7), (28, ev_222), (31, ev_10)]
noncomputable def zi_213_1 : ZIs := [(32, ev_567), (35, ev_13), (36, ev_1101), (39, ev_184), (40, ev_189), (41, ev_190), (42, ev_12), (44, ev_191), (46, ev_236), (49, ev_81)]
set_option maxRecDepth 100000 in
theorem xi_w213 : zall cX11_arc [zi_213_0, zi_213_1] := zall_w _ _ (by decide +kernel)
noncomputable def xi_213 (pc : Nat) : XIs := cond (Nat.blt pc 32) (zx zi_213_0) (zx zi_213_1)
theorem xi_ok213 (pc : Nat) : xi_ok cX11_arc (xi_213 pc) = true := xi_c (zq1 xi_w213) (zq1 (zq2 xi_w213))
noncomputable def zi_214_0 : ZIs := [(0, ev_13), (1, ev_1101), (4, ev_410), (7, ev_184), (8, ev_917), (11, ev_854), (14, ev_13), (15, ev_1101), (18, ev_419), (21, ev_321), (24, ev_7), (25, ev_222), (28, ev_10), (29, ev_567), (32, ev_13), (33, ev_1101)]
noncomputable def zi_214_1 : ZIs := [(36, ev_184), (37, ev_427), (40, ev_13), (41, ev_1101), (44, ev_410), (47, ev_736), (50, ev_81)]
set_option maxRecDepth 100000 in
theorem xi_w214 : zall cX11_take [zi_214_0, zi_214_1] := zall_w _ _ (by decide +kernel)
noncomputable def xi_214 (pc : Nat) : XIs := cond (Nat.blt pc 36) (zx zi_214_0) (zx zi_214_1)
theorem xi_ok214 (pc : Nat) : xi_ok cX11_take (xi_214 pc) = true := xi_c (zq1 xi_w214) (zq1 (zq2 xi_w214))
noncomputable def zi_215_0 : ZIs := [(0, ev_13), (1, ev_1101), (4, ev_410), (7, ev_184), (8, ev_917), (11, ev_769), (14, ev_189), (15, ev_190), (16, ev_1103), (19, ev_220), (22, ev_7), (23, ev_222), (26, ev_10), (27, ev_854), (30, ev_13), (31, ev_1101)]
noncomputable def zi_215_1 : ZIs := [(34, ev_419), (37, ev_321), (40, ev_7), (41, ev_222), (44, ev_10), (45, ev_567), (48, ev_13), (49, ev_1101), (52, ev_410), (55, ev_184), (56, ev_189), (57, ev_745), (60, ev_11), (62, ev_13), (63, ev_1101), (66, ev_184)]
noncomputable def zi_215_2 : ZIs := [(67, ev_189), (68, ev_190), (69, ev_1104), (72, ev_12), (74, ev_81)]
set_option maxRecDepth 100000 in
theorem xi_w215 : zall cX11_set [zi_215_0, zi_215_1, zi_215_2] := zall_w _ _ (by decide +kernel)
noncomputable def xi_215 (pc : Nat) : XIs := cond (Nat.blt pc 34) (zx zi_215_0) (cond (Nat.blt pc 67) (zx zi_215_1) (zx zi_215_2))
theorem xi_ok215 (pc : Nat) : xi_ok cX11_set (xi_215 pc) = true := xi_c (zq1 xi_w215) (xi_c (zq1 (zq2 xi_w215)) (zq1 (zq2 (zq2 xi_w215))))
noncomputable def zi_216_0 : ZIs := [(0, ev_13), (1, ev_1101), (4, ev_410), (7, ev_184), (8, ev_811), (11, ev_1002), (14, ev_189), (15, ev_962), (18, ev_220), (21, ev_7), (22, ev_222), (25, ev_10), (26, ev_854), (29, ev_13), (30, ev_1101), (33, ev_419)]
noncomputable def zi_216_1 : ZIs := [(36, ev_321), (39, ev_7), (40, ev_222), (43, ev_10), (44, ev_567), (47, ev_13), (48, ev_1101), (51, ev_410), (54, ev_450), (57, ev_184), (58, ev_18), (59, ev_289), (60, ev_13), (61, ev_1101), (64, ev_184), (65, ev_189)]
noncomputable def zi_216_2 : ZIs := [(66, ev_600), (69, ev_190), (70, ev_81)]
set_option maxRecDepth 100000 in
theorem xi_w216 : zall cX11_label [zi_216_0, zi_216_1, zi_216_2] := zall_w _ _ (by decide +kernel)
noncomputable def xi_216 (pc : Nat) : XIs := cond (Nat.blt pc 36) (zx zi_216_0) (cond (Nat.blt pc 66) (zx zi_216_1) (zx zi_216_2))
theorem xi_ok216 (pc : Nat) : xi_ok cX11_label (xi_216 pc) = true := xi_c (zq1 xi_w216) (xi_c (zq1 (zq2 xi_w216)) (zq1 (zq2 (zq2 xi_w216))))
noncomputable def zi_217_0 : ZIs := [(0, ev_184), (1, ev_245), (2, ev_1105), (5, ev_184), (6, ev_13), (7, ev_1101), (10, ev_410), (13, ev_736), (16, ev_884), (19, ev_7), (20, ev_222), (23, ev_10), (24, ev_854), (27, ev_13), (28, ev_184), (29, ev_1003)]
noncomputable def zi_217_1 : ZIs := [(32, ev_184), (33, ev_245), (34, ev_740), (37, ev_13), (38, ev_1101), (41, ev_13), (42, ev_436), (45, ev_184), (46, ev_1106), (49, ev_13), (50, ev_1107), (53, ev_736), (56, ev_81)]
set_option maxRecDepth 100000 in
theorem xi_w217 : zall cX11_view [zi_217_0, zi_217_1] := zall_w _ _ (by decide +kernel)
noncomputable def xi_217 (pc : Nat) : XIs := cond (Nat.blt pc 32) (zx zi_217_0) (zx zi_217_1)
theorem xi_ok217 (pc : Nat) : xi_ok cX11_view (xi_217 pc) = true := xi_c (zq1 xi_w217) (zq1 (zq2 xi_w217))
noncomputable def zi_218_0 : ZIs := [(0, ev_13), (1, ev_1101), (4, ev_410), (7, ev_736), (10, ev_81)]
set_option maxRecDepth 100000 in
theorem xi_w218 : zall cX11_version [zi_218_0] := zall_w _ _ (by decide +kernel)
noncomputable def xi_218 (pc : Nat) : XIs := zx zi_218_0
theorem xi_ok218 (pc : Nat) : xi_ok cX11_version (xi_218 pc) = true := zq1 xi_w218
noncomputable def zi_219_0 : ZIs := [(0, ev_184), (1, ev_1108), (4, ev_184), (5, ev_31), (6, ev_884), (9, ev_7), (10, ev_222), (13, ev_10), (14, ev_854), (17, ev_13), (18, ev_1107), (21, ev_6), (22, ev_184)]
noncomputable def xi_219_1 : XIs := [(23, .tableswitch 40 0 2 #[25, 30, 35], 25)]
set_option maxRecDepth 100000 in
theorem xi_ok219_1 : xi_ok cX11_size xi_219_1 = true := by decide +kernel
noncomputable def zi_219_2 : ZIs := [(48, ev_26), (49, ev_1102), (52, ev_81), (53, ev_26), (54, ev_1109), (57, ev_81), (58, ev_26), (59, ev_1110), (62, ev_81), (63, ev_26), (64, ev_1111), (67, ev_7), (68, ev_16), (69, ev_81)]
set_option maxRecDepth 100000 in
theorem xi_w219 : zall cX11_size [zi_219_0, zi_219_2] := zall_w _ _ (by decide +kernel)
noncomputable def xi_219 (pc : Nat) : XIs := cond (Nat.blt pc 23) (zx zi_219_0) (cond (Nat.blt pc 48) (xi_219_1) (zx zi_219_2))
theorem xi_ok219 (pc : Nat) : xi_ok cX11_size (xi_219 pc) = true := xi_c (zq1 xi_w219) (xi_c (xi_ok219_1) (zq1 (zq2 xi_w219)))
noncomputable def zi_220_0 : ZIs := [(0, ev_184), (1, ev_1112), (4, ev_184), (5, ev_527), (8, ev_1113), (11, ev_189), (12, ev_1108), (15, ev_189), (16, ev_32), (17, ev_884), (20, ev_7), (21, ev_222), (24, ev_10), (25, ev_854), (28, ev_13), (29, ev_1107)]
noncomputable def zi_220_1 : ZIs := [(32, ev_9), (33, ev_23), (34, ev_184), (35, ev_917), (38, ev_321), (41, ev_1114), (44, ev_479), (45, ev_189), (46, ev_1115), (49, ev_23), (50, ev_1116), (53, ev_184), (54, ev_18), (55, ev_167), (56, ev_479), (57, ev_189)]
noncomputable def zi_220_2 : ZIs := [(58, ev_7), (59, ev_925), (62, ev_23), (63, ev_1117), (66, ev_184), (67, ev_18), (68, ev_167), (69, ev_1118), (72, ev_23), (73, ev_184), (74, ev_189), (75, ev_30), (76, ev_16), (77, ev_745), (80, ev_167), (81, ev_479)]
set_option maxRecDepth 100000 in
theorem xi_w220 : zall cX11_told [zi_220_0, zi_220_1, zi_220_2] := zall_w _ _ (by decide +kernel)
noncomputable def xi_220 (pc : Nat) : XIs := cond (Nat.blt pc 32) (zx zi_220_0) (cond (Nat.blt pc 58) (zx zi_220_1) (zx zi_220_2))
theorem xi_ok220 (pc : Nat) : xi_ok cX11_told (xi_220 pc) = true := xi_c (zq1 xi_w220) (xi_c (zq1 (zq2 xi_w220)) (zq1 (zq2 (zq2 xi_w220))))
noncomputable def zi_221_0 : ZIs := [(0, ev_13), (1, ev_1107), (4, ev_6), (5, ev_26), (6, ev_184), (7, ev_811), (10, ev_854), (13, ev_26), (14, ev_450), (17, ev_184), (18, ev_18), (19, ev_81)]
set_option maxRecDepth 100000 in
theorem xi_w221 : zall cX11_labelOf [zi_221_0] := zall_w _ _ (by decide +kernel)
noncomputable def xi_221 (pc : Nat) : XIs := zx zi_221_0
theorem xi_ok221 (pc : Nat) : xi_ok cX11_labelOf (xi_221 pc) = true := zq1 xi_w221
noncomputable def zi_222_0 : ZIs := [(0, ev_13), (1, ev_1107), (4, ev_200), (6, ev_196), (8, ev_184), (9, ev_811), (12, ev_678), (15, ev_189), (16, ev_1119), (19, ev_189), (20, ev_7), (21, ev_1120), (24, ev_190), (25, ev_829), (28, ev_7), (29, ev_222)]
noncomputable def zi_222_1 : ZIs := [(32, ev_10), (33, ev_854), (36, ev_196), (38, ev_61), (41, ev_189), (42, ev_1121), (45, ev_190), (46, ev_196), (48, ev_184), (49, ev_64), (52, ev_359), (55, ev_196), (57, ev_1122), (60, ev_196), (62, ev_1123), (65, ev_184)]
noncomputable def zi_222_2 : ZIs := [(66, ev_18), (67, ev_190), (68, ev_22), (69, ev_18), (70, ev_222), (73, ev_245), (74, ev_81), (75, ev_190), (76, ev_196), (78, ev_184), (79, ev_1124), (82, ev_359), (85, ev_196), (87, ev_1125), (90, ev_196), (92, ev_1126)]
noncomputable def zi_222_3 : ZIs := [(95, ev_184), (96, ev_18), (97, ev_190), (98, ev_22), (99, ev_18), (100, ev_222), (103, ev_245), (104, ev_81)]
set_option maxRecDepth 100000 in
theorem xi_w222 : zall cX11_arcAt [zi_222_0, zi_222_1, zi_222_2, zi_222_3] := zall_w _ _ (by decide +kernel)
noncomputable def xi_222 (pc : Nat) : XIs := cond (Nat.blt pc 66) (cond (Nat.blt pc 32) (zx zi_222_0) (zx zi_222_1)) (cond (Nat.blt pc 95) (zx zi_222_2) (zx zi_222_3))
theorem xi_ok222 (pc : Nat) : xi_ok cX11_arcAt (xi_222 pc) = true := xi_c (xi_c (zq1 xi_w222) (zq1 (zq2 xi_w222))) (xi_c (zq1 (zq2 (zq2 xi_w222))) (zq1 (zq2 (zq2 (zq2 xi_w222)))))
noncomputable def zi_223_0 : ZIs := [(0, ev_184), (1, ev_168), (3, ev_409), (6, ev_184), (7, ev_1127), (9, ev_884), (12, ev_7), (13, ev_222), (16, ev_10), (17, ev_854), (20, ev_13), (21, ev_693), (24, ev_504), (27, ev_801), (30, ev_654), (33, ev_7)]
noncomputable def zi_223_1 : ZIs := [(34, ev_222), (37, ev_10), (38, ev_567), (41, ev_13), (42, ev_693), (45, ev_1128), (48, ev_13), (49, ev_693), (52, ev_504), (55, ev_184), (56, ev_418), (57, ev_947), (58, ev_13), (59, ev_693), (62, ev_1), (63, ev_504)]
noncomputable def zi_223_2 : ZIs := [(66, ev_7), (67, ev_22), (68, ev_1129), (71, ev_13), (72, ev_693), (75, ev_504), (78, ev_81)]
set_option maxRecDepth 100000 in
theorem xi_w223 : zall cX11_type [zi_223_0, zi_223_1, zi_223_2] := zall_w _ _ (by decide +kernel)
noncomputable def xi_223 (pc : Nat) : XIs := cond (Nat.blt pc 34) (zx zi_223_0) (cond (Nat.blt pc 66) (zx zi_223_1) (zx zi_223_2))
theorem xi_ok223 (pc : Nat) : xi_ok cX11_type (xi_223 pc) = true := xi_c (zq1 xi_w223) (xi_c (zq1 (zq2 xi_w223)) (zq1 (zq2 (zq2 xi_w223))))
noncomputable def zi_224_0 : ZIs := [(0, ev_13), (1, ev_693), (4, ev_504), (7, ev_683), (8, ev_13), (9, ev_693), (12, ev_10), (13, ev_1129), (16, ev_184), (17, ev_81)]
set_option maxRecDepth 100000 in
theorem xi_w224 : zall cX11_wipe [zi_224_0] := zall_w _ _ (by decide +kernel)
noncomputable def xi_224 (pc : Nat) : XIs := zx zi_224_0
theorem xi_ok224 (pc : Nat) : xi_ok cX11_wipe (xi_224 pc) = true := zq1 xi_w224
noncomputable def zi_225_0 : ZIs := [(0, ev_13), (1, ev_1101), (4, ev_13), (5, ev_693), (8, ev_1130), (11, ev_81)]
set_option maxRecDepth 100000 in
theorem xi_w225 : zall cX11_load [zi_225_0] := zall_w _ _ (by decide +kernel)
noncomputable def xi_225 (pc : Nat) : XIs := zx zi_225_0
theorem xi_ok225 (pc : Nat) : xi_ok cX11_load (xi_225 pc) = true := zq1 xi_w225
noncomputable def zi_226_0 : ZIs := [(0, ev_184), (1, ev_1108), (4, ev_184), (5, ev_7), (6, ev_884), (9, ev_7), (10, ev_222), (13, ev_10), (14, ev_854), (17, ev_184), (18, ev_1131), (21, ev_13), (22, ev_693), (25, ev_1132), (28, ev_631), (31, ev_13)]
noncomputable def zi_226_1 : ZIs := [(32, ev_693), (35, ev_1133), (38, ev_81)]
set_option maxRecDepth 100000 in
theorem xi_w226 : zall cX11_fault [zi_226_0, zi_226_1] := zall_w _ _ (by decide +kernel)
noncomputable def xi_226 (pc : Nat) : XIs := cond (Nat.blt pc 32) (zx zi_226_0) (zx zi_226_1)
theorem xi_ok226 (pc : Nat) : xi_ok cX11_fault (xi_226 pc) = true := xi_c (zq1 xi_w226) (zq1 (zq2 xi_w226))
noncomputable def zi_227_0 : ZIs := [(0, ev_13), (1, ev_693), (4, ev_13), (5, ev_1107), (8, ev_1134), (11, ev_81)]
set_option maxRecDepth 100000 in
theorem xi_w227 : zall cX11_print [zi_227_0] := zall_w _ _ (by decide +kernel)
noncomputable def xi_227 (pc : Nat) : XIs := zx zi_227_0
theorem xi_ok227 (pc : Nat) : xi_ok cX11_print (xi_227 pc) = true := zq1 xi_w227
noncomputable def zi_228_0 : ZIs := [(0, ev_184), (1, ev_1135), (4, ev_184), (5, ev_13), (6, ev_693), (9, ev_1136), (12, ev_654), (15, ev_7), (16, ev_222), (19, ev_10), (20, ev_854), (23, ev_13), (24, ev_693), (27, ev_1137), (30, ev_184), (31, ev_879)]
noncomputable def zi_228_1 : ZIs := [(32, ev_81)]
set_option maxRecDepth 100000 in
theorem xi_w228 : zall cX11_printed [zi_228_0, zi_228_1] := zall_w _ _ (by decide +kernel)
noncomputable def xi_228 (pc : Nat) : XIs := cond (Nat.blt pc 32) (zx zi_228_0) (zx zi_228_1)
theorem xi_ok228 (pc : Nat) : xi_ok cX11_printed (xi_228 pc) = true := xi_c (zq1 xi_w228) (zq1 (zq2 xi_w228))
noncomputable def zi_229_0 : ZIs := [(0, ev_13), (1, ev_1107), (4, ev_9), (5, ev_23), (6, ev_184), (7, ev_811), (10, ev_769), (13, ev_23), (14, ev_189), (15, ev_811), (18, ev_220), (21, ev_7), (22, ev_222), (25, ev_10), (26, ev_854), (29, ev_13)]
noncomputable def zi_229_1 : ZIs := [(30, ev_584), (33, ev_23), (34, ev_184), (35, ev_189), (36, ev_1138), (39, ev_479)]
set_option maxRecDepth 100000 in
theorem xi_w229 : zall cX11_distance [zi_229_0, zi_229_1] := zall_w _ _ (by decide +kernel)
noncomputable def xi_229 (pc : Nat) : XIs := cond (Nat.blt pc 30) (zx zi_229_0) (zx zi_229_1)
theorem xi_ok229 (pc : Nat) : xi_ok cX11_distance (xi_229 pc) = true := xi_c (zq1 xi_w229) (zq1 (zq2 xi_w229))
noncomputable def zi_230_0 : ZIs := [(0, ev_13), (1, ev_1107), (4, ev_200), (6, ev_196), (8, ev_184), (9, ev_811), (12, ev_678), (15, ev_196), (17, ev_189), (18, ev_811), (21, ev_929), (24, ev_190), (25, ev_829), (28, ev_7), (29, ev_222), (32, ev_10)]
noncomputable def zi_230_1 : ZIs := [(33, ev_854), (36, ev_13), (37, ev_584), (40, ev_196), (42, ev_184), (43, ev_189), (44, ev_190), (45, ev_110), (48, ev_81)]
set_option maxRecDepth 100000 in
theorem xi_w230 : zall cX11_way [zi_230_0, zi_230_1] := zall_w _ _ (by decide +kernel)
noncomputable def xi_230 (pc : Nat) : XIs := cond (Nat.blt pc 33) (zx zi_230_0) (zx zi_230_1)
theorem xi_ok230 (pc : Nat) : xi_ok cX11_way (xi_230 pc) = true := xi_c (zq1 xi_w230) (zq1 (zq2 xi_w230))
noncomputable def zi_231_0 : ZIs := [(0, ev_13), (1, ev_1107), (4, ev_9), (5, ev_23), (6, ev_184), (7, ev_811), (10, ev_769), (13, ev_23), (14, ev_189), (15, ev_811), (18, ev_220), (21, ev_7), (22, ev_222), (25, ev_10), (26, ev_854), (29, ev_13)]
noncomputable def zi_231_1 : ZIs := [(30, ev_584), (33, ev_23), (34, ev_184), (35, ev_189), (36, ev_1139), (39, ev_81)]
set_option maxRecDepth 100000 in
theorem xi_w231 : zall cX11_width [zi_231_0, zi_231_1] := zall_w _ _ (by decide +kernel)
noncomputable def xi_231 (pc : Nat) : XIs := cond (Nat.blt pc 30) (zx zi_231_0) (zx zi_231_1)
theorem xi_ok231 (pc : Nat) : xi_ok cX11_width (xi_231 pc) = true := xi_c (zq1 xi_w231) (zq1 (zq2 xi_w231))
noncomputable def zi_232_0 : ZIs := [(0, ev_13), (1, ev_1107), (4, ev_9), (5, ev_23), (6, ev_184), (7, ev_189), (8, ev_1140), (11, ev_854), (14, ev_13), (15, ev_584), (18, ev_23), (19, ev_184), (20, ev_189), (21, ev_1141), (24, ev_81)]
set_option maxRecDepth 100000 in
theorem xi_w232 : zall cX11_shorts [zi_232_0] := zall_w _ _ (by decide +kernel)
noncomputable def xi_232 (pc : Nat) : XIs := zx zi_232_0
theorem xi_ok232 (pc : Nat) : xi_ok cX11_shorts (xi_232 pc) = true := zq1 xi_w232
noncomputable def zi_233_0 : ZIs := [(0, ev_13), (1, ev_1107), (4, ev_198), (6, ev_215), (8, ev_184), (9, ev_189), (10, ev_1140), (13, ev_412), (16, ev_190), (17, ev_1108), (20, ev_12), (22, ev_829), (25, ev_7), (26, ev_222), (29, ev_10), (30, ev_854)]
noncomputable def zi_233_1 : ZIs := [(33, ev_13), (34, ev_584), (37, ev_215), (39, ev_184), (40, ev_189), (41, ev_190), (42, ev_12), (44, ev_1142), (47, ev_81)]
set_option maxRecDepth 100000 in
theorem xi_w233 : zall cX11_shortArc [zi_233_0, zi_233_1] := zall_w _ _ (by decide +kernel)
noncomputable def xi_233 (pc : Nat) : XIs := cond (Nat.blt pc 33) (zx zi_233_0) (zx zi_233_1)
theorem xi_ok233 (pc : Nat) : xi_ok cX11_shortArc (xi_233 pc) = true := xi_c (zq1 xi_w233) (zq1 (zq2 xi_w233))
noncomputable def zi_234_0 : ZIs := [(0, ev_13), (1, ev_1107), (4, ev_9), (5, ev_184), (6, ev_1143), (9, ev_184), (10, ev_7), (11, ev_1144), (14, ev_23), (15, ev_189), (16, ev_811), (19, ev_220), (22, ev_7), (23, ev_222), (26, ev_10), (27, ev_854)]
noncomputable def zi_234_1 : ZIs := [(30, ev_184), (31, ev_433), (34, ev_13), (35, ev_1145), (38, ev_23), (39, ev_189), (40, ev_128), (43, ev_1118), (46, ev_13), (47, ev_1145), (50, ev_23), (51, ev_189), (52, ev_1146), (55, ev_81)]
set_option maxRecDepth 100000 in
theorem xi_w234 : zall cX11_part [zi_234_0, zi_234_1] := zall_w _ _ (by decide +kernel)
noncomputable def xi_234 (pc : Nat) : XIs := cond (Nat.blt pc 30) (zx zi_234_0) (zx zi_234_1)
theorem xi_ok234 (pc : Nat) : xi_ok cX11_part (xi_234 pc) = true := xi_c (zq1 xi_w234) (zq1 (zq2 xi_w234))
noncomputable def zi_235_0 : ZIs := [(0, ev_13), (1, ev_1107), (4, ev_6), (5, ev_26), (6, ev_184), (7, ev_917), (10, ev_854), (13, ev_13), (14, ev_1145), (17, ev_26), (18, ev_184), (19, ev_1147), (22, ev_81)]
set_option maxRecDepth 100000 in
theorem xi_w235 : zall cX11_bridge [zi_235_0] := zall_w _ _ (by decide +kernel)
noncomputable def xi_235 (pc : Nat) : XIs := zx zi_235_0
theorem xi_ok235 (pc : Nat) : xi_ok cX11_bridge (xi_235 pc) = true := zq1 xi_w235
noncomputable def zi_236_0 : ZIs := [(0, ev_13), (1, ev_1107), (4, ev_6), (5, ev_26), (6, ev_184), (7, ev_811), (10, ev_854), (13, ev_13), (14, ev_1145), (17, ev_26), (18, ev_184), (19, ev_1148), (22, ev_81)]
set_option maxRecDepth 100000 in
theorem xi_w236 : zall cX11_cut [zi_236_0] := zall_w _ _ (by decide +kernel)
noncomputable def xi_236 (pc : Nat) : XIs := zx zi_236_0
theorem xi_ok236 (pc : Nat) : xi_ok cX11_cut (xi_236 pc) = true := zq1 xi_w236
noncomputable def zi_237_0 : ZIs := [(0, ev_184), (1, ev_829), (4, ev_7), (5, ev_222), (8, ev_10), (9, ev_854), (12, ev_13), (13, ev_1145), (16, ev_13), (17, ev_1107), (20, ev_184), (21, ev_1149), (24, ev_81)]
set_option maxRecDepth 100000 in
theorem xi_w237 : zall cX11_order [zi_237_0] := zall_w _ _ (by decide +kernel)
noncomputable def xi_237 (pc : Nat) : XIs := zx zi_237_0
theorem xi_ok237 (pc : Nat) : xi_ok cX11_order (xi_237 pc) = true := zq1 xi_w237
noncomputable def zi_238_0 : ZIs := [(0, ev_13), (1, ev_1107), (4, ev_6), (5, ev_26), (6, ev_184), (7, ev_811), (10, ev_854), (13, ev_13), (14, ev_1145), (17, ev_26), (18, ev_184), (19, ev_1150), (22, ev_81)]
set_option maxRecDepth 100000 in
theorem xi_w238 : zall cX11_core [zi_238_0] := zall_w _ _ (by decide +kernel)
noncomputable def xi_238 (pc : Nat) : XIs := zx zi_238_0
theorem xi_ok238 (pc : Nat) : xi_ok cX11_core (xi_238 pc) = true := zq1 xi_w238
noncomputable def zi_239_0 : ZIs := [(0, ev_184), (1, ev_829), (4, ev_7), (5, ev_222), (8, ev_10), (9, ev_854), (12, ev_13), (13, ev_692), (16, ev_13), (17, ev_1107), (20, ev_1151), (23, ev_288), (24, ev_184), (25, ev_189), (26, ev_1152), (29, ev_991)]
noncomputable def zi_239_1 : ZIs := [(32, ev_245), (33, ev_81), (34, ev_10), (35, ev_289), (36, ev_190), (37, ev_184), (38, ev_1153), (41, ev_189), (42, ev_189), (43, ev_7), (44, ev_16), (45, ev_20), (46, ev_288), (47, ev_294), (50, ev_1154), (53, ev_189)]
noncomputable def zi_239_2 : ZIs := [(54, ev_155), (57, ev_81)]
set_option maxRecDepth 100000 in
theorem xi_w239 : zall cX11_clique [zi_239_0, zi_239_1, zi_239_2] := zall_w _ _ (by decide +kernel)
noncomputable def xi_239 (pc : Nat) : XIs := cond (Nat.blt pc 32) (zx zi_239_0) (cond (Nat.blt pc 54) (zx zi_239_1) (zx zi_239_2))
theorem xi_ok239 (pc : Nat) : xi_ok cX11_clique (xi_239 pc) = true := xi_c (zq1 xi_w239) (xi_c (zq1 (zq2 xi_w239)) (zq1 (zq2 (zq2 xi_w239))))
noncomputable def zi_240_0 : ZIs := [(0, ev_13), (1, ev_1107), (4, ev_6), (5, ev_26), (6, ev_184), (7, ev_811), (10, ev_854), (13, ev_13), (14, ev_692), (17, ev_26), (18, ev_184), (19, ev_158), (22, ev_81)]
set_option maxRecDepth 100000 in
theorem xi_w240 : zall cX11_colour [zi_240_0] := zall_w _ _ (by decide +kernel)
noncomputable def xi_240 (pc : Nat) : XIs := zx zi_240_0
theorem xi_ok240 (pc : Nat) : xi_ok cX11_colour (xi_240 pc) = true := zq1 xi_w240
noncomputable def zi_241_0 : ZIs := [(0, ev_13), (1, ev_1107), (4, ev_9), (5, ev_23), (6, ev_184), (7, ev_189), (8, ev_1140), (11, ev_854), (14, ev_13), (15, ev_537), (18, ev_23), (19, ev_184), (20, ev_189), (21, ev_159), (24, ev_479)]
set_option maxRecDepth 100000 in
theorem xi_w241 : zall cX11_flow [zi_241_0] := zall_w _ _ (by decide +kernel)
noncomputable def xi_241 (pc : Nat) : XIs := zx zi_241_0
theorem xi_ok241 (pc : Nat) : xi_ok cX11_flow (xi_241 pc) = true := zq1 xi_w241
noncomputable def zi_242_0 : ZIs := [(0, ev_13), (1, ev_1107), (4, ev_200), (6, ev_196), (8, ev_184), (9, ev_189), (10, ev_1140), (13, ev_412), (16, ev_196), (18, ev_190), (19, ev_811), (22, ev_220), (25, ev_7), (26, ev_222), (29, ev_10), (30, ev_854)]
noncomputable def zi_242_1 : ZIs := [(33, ev_13), (34, ev_537), (37, ev_196), (39, ev_184), (40, ev_189), (41, ev_159), (44, ev_152), (45, ev_13), (46, ev_537), (49, ev_1155), (52, ev_190), (53, ev_297), (54, ev_7), (55, ev_20), (56, ev_220), (59, ev_7)]
noncomputable def zi_242_2 : ZIs := [(60, ev_222), (63, ev_10), (64, ev_81)]
set_option maxRecDepth 100000 in
theorem xi_w242 : zall cX11_side [zi_242_0, zi_242_1, zi_242_2] := zall_w _ _ (by decide +kernel)
noncomputable def xi_242 (pc : Nat) : XIs := cond (Nat.blt pc 33) (zx zi_242_0) (cond (Nat.blt pc 60) (zx zi_242_1) (zx zi_242_2))
theorem xi_ok242 (pc : Nat) : xi_ok cX11_side (xi_242 pc) = true := xi_c (zq1 xi_w242) (xi_c (zq1 (zq2 xi_w242)) (zq1 (zq2 (zq2 xi_w242))))
noncomputable def zi_243_0 : ZIs := [(0, ev_13), (1, ev_1107), (4, ev_200), (6, ev_196), (8, ev_184), (9, ev_189), (10, ev_1140), (13, ev_388), (16, ev_190), (17, ev_1156), (20, ev_190), (21, ev_1157), (24, ev_884), (27, ev_7), (28, ev_222), (31, ev_10)]
noncomputable def zi_243_1 : ZIs := [(32, ev_854), (35, ev_13), (36, ev_537), (39, ev_196), (41, ev_184), (42, ev_189), (43, ev_190), (44, ev_165), (47, ev_479)]
set_option maxRecDepth 100000 in
theorem xi_w243 : zall cX11_cost [zi_243_0, zi_243_1] := zall_w _ _ (by decide +kernel)
noncomputable def xi_243 (pc : Nat) : XIs := cond (Nat.blt pc 32) (zx zi_243_0) (zx zi_243_1)
theorem xi_ok243 (pc : Nat) : xi_ok cX11_cost (xi_243 pc) = true := xi_c (zq1 xi_w243) (zq1 (zq2 xi_w243))
noncomputable def zi_244_0 : ZIs := [(0, ev_184), (1, ev_1108), (4, ev_184), (5, ev_7), (6, ev_884), (9, ev_7), (10, ev_222), (13, ev_10), (14, ev_854), (17, ev_13), (18, ev_537), (21, ev_13), (22, ev_1107), (25, ev_1158), (28, ev_184), (29, ev_385)]
noncomputable def zi_244_1 : ZIs := [(32, ev_13), (33, ev_537), (36, ev_1159), (39, ev_167), (40, ev_631), (43, ev_13), (44, ev_537), (47, ev_1160), (50, ev_479)]
set_option maxRecDepth 100000 in
theorem xi_w244 : zall cX11_pairing [zi_244_0, zi_244_1] := zall_w _ _ (by decide +kernel)
noncomputable def xi_244 (pc : Nat) : XIs := cond (Nat.blt pc 32) (zx zi_244_0) (zx zi_244_1)
theorem xi_ok244 (pc : Nat) : xi_ok cX11_pairing (xi_244 pc) = true := xi_c (zq1 xi_w244) (zq1 (zq2 xi_w244))
noncomputable def zi_245_0 : ZIs := [(0, ev_13), (1, ev_1107), (4, ev_6), (5, ev_26), (6, ev_184), (7, ev_811), (10, ev_854), (13, ev_13), (14, ev_1161), (17, ev_26), (18, ev_184), (19, ev_1162), (22, ev_479)]
set_option maxRecDepth 100000 in
theorem xi_w245 : zall cX11_tree [zi_245_0] := zall_w _ _ (by decide +kernel)
noncomputable def xi_245 (pc : Nat) : XIs := zx zi_245_0
theorem xi_ok245 (pc : Nat) : xi_ok cX11_tree (xi_245 pc) = true := zq1 xi_w245
noncomputable def zi_246_0 : ZIs := [(0, ev_13), (1, ev_1107), (4, ev_6), (5, ev_26), (6, ev_184), (7, ev_917), (10, ev_854), (13, ev_13), (14, ev_1161), (17, ev_26), (18, ev_184), (19, ev_1163), (22, ev_81)]
set_option maxRecDepth 100000 in
theorem xi_w246 : zall cX11_span [zi_246_0] := zall_w _ _ (by decide +kernel)
noncomputable def xi_246 (pc : Nat) : XIs := zx zi_246_0
theorem xi_ok246 (pc : Nat) : xi_ok cX11_span (xi_246 pc) = true := zq1 xi_w246
noncomputable def zi_247_0 : ZIs := [(0, ev_13), (1, ev_1161), (4, ev_13), (5, ev_1107), (8, ev_1164), (11, ev_81)]
set_option maxRecDepth 100000 in
theorem xi_w247 : zall cX11_trees [zi_247_0] := zall_w _ _ (by decide +kernel)
noncomputable def xi_247 (pc : Nat) : XIs := zx zi_247_0
theorem xi_ok247 (pc : Nat) : xi_ok cX11_trees (xi_247 pc) = true := zq1 xi_w247
noncomputable def zi_248_0 : ZIs := [(0, ev_13), (1, ev_1107), (4, ev_9), (5, ev_23), (6, ev_184), (7, ev_811), (10, ev_1165), (13, ev_189), (14, ev_1166), (17, ev_189), (18, ev_407), (20, ev_884), (23, ev_7), (24, ev_222), (27, ev_10), (28, ev_854)]
noncomputable def zi_248_1 : ZIs := [(31, ev_13), (32, ev_956), (35, ev_23), (36, ev_184), (37, ev_189), (38, ev_1167), (41, ev_479)]
set_option maxRecDepth 100000 in
theorem xi_w248 : zall cX11_rank [zi_248_0, zi_248_1] := zall_w _ _ (by decide +kernel)
noncomputable def xi_248 (pc : Nat) : XIs := cond (Nat.blt pc 31) (zx zi_248_0) (zx zi_248_1)
theorem xi_ok248 (pc : Nat) : xi_ok cX11_rank (xi_248 pc) = true := xi_c (zq1 xi_w248) (zq1 (zq2 xi_w248))
noncomputable def zi_249_0 : ZIs := [(0, ev_13), (1, ev_1107), (4, ev_198), (6, ev_215), (8, ev_184), (9, ev_811), (12, ev_857), (15, ev_215), (17, ev_189), (18, ev_811), (21, ev_1168), (24, ev_190), (25, ev_1169), (28, ev_190), (29, ev_30), (30, ev_931)]
noncomputable def zi_249_1 : ZIs := [(33, ev_215), (35, ev_12), (37, ev_811), (40, ev_220), (43, ev_7), (44, ev_222), (47, ev_10), (48, ev_854), (51, ev_190), (52, ev_433), (55, ev_13), (56, ev_584), (59, ev_215), (61, ev_184), (62, ev_189), (63, ev_1170)]
noncomputable def zi_249_2 : ZIs := [(66, ev_81), (67, ev_190), (68, ev_7), (69, ev_753), (72, ev_13), (73, ev_584), (76, ev_215), (78, ev_184), (79, ev_189), (80, ev_184), (81, ev_1171), (84, ev_757), (87, ev_13), (88, ev_584), (91, ev_215), (93, ev_184)]
noncomputable def zi_249_3 : ZIs := [(94, ev_189), (95, ev_12), (97, ev_1171), (100, ev_81)]
set_option maxRecDepth 100000 in
theorem xi_w249 : zall cX11_shortest [zi_249_0, zi_249_1, zi_249_2, zi_249_3] := zall_w _ _ (by decide +kernel)
noncomputable def xi_249 (pc : Nat) : XIs := cond (Nat.blt pc 66) (cond (Nat.blt pc 33) (zx zi_249_0) (zx zi_249_1)) (cond (Nat.blt pc 94) (zx zi_249_2) (zx zi_249_3))
theorem xi_ok249 (pc : Nat) : xi_ok cX11_shortest (xi_249 pc) = true := xi_c (xi_c (zq1 xi_w249) (zq1 (zq2 xi_w249))) (xi_c (zq1 (zq2 (zq2 xi_w249))) (zq1 (zq2 (zq2 (zq2 xi_w249)))))
noncomputable def zi_250_0 : ZIs := [(0, ev_13), (1, ev_1107), (4, ev_6), (5, ev_26), (6, ev_184), (7, ev_811), (10, ev_854), (13, ev_13), (14, ev_956), (17, ev_26), (18, ev_184), (19, ev_1172), (22, ev_81)]
set_option maxRecDepth 100000 in
theorem xi_w250 : zall cX11_group [zi_250_0] := zall_w _ _ (by decide +kernel)
noncomputable def xi_250 (pc : Nat) : XIs := zx zi_250_0
theorem xi_ok250 (pc : Nat) : xi_ok cX11_group (xi_250 pc) = true := zq1 xi_w250
noncomputable def zi_251_0 : ZIs := [(0, ev_13), (1, ev_956), (4, ev_13), (5, ev_1107), (8, ev_1173), (11, ev_479)]
set_option maxRecDepth 100000 in
theorem xi_w251 : zall cX11_gain [zi_251_0] := zall_w _ _ (by decide +kernel)
noncomputable def xi_251 (pc : Nat) : XIs := zx zi_251_0
theorem xi_ok251 (pc : Nat) : xi_ok cX11_gain (xi_251 pc) = true := zq1 xi_w251
noncomputable def zi_252_0 : ZIs := [(0, ev_184), (1, ev_1108), (4, ev_184), (5, ev_7), (6, ev_884), (9, ev_7), (10, ev_222), (13, ev_10), (14, ev_854), (17, ev_184), (18, ev_805), (21, ev_13), (22, ev_1145), (25, ev_13), (26, ev_1107), (29, ev_1174)]
noncomputable def zi_252_1 : ZIs := [(32, ev_1175), (35, ev_13), (36, ev_1145), (39, ev_13), (40, ev_1107), (43, ev_1176), (46, ev_479)]
set_option maxRecDepth 100000 in
theorem xi_w252 : zall cX11_figures [zi_252_0, zi_252_1] := zall_w _ _ (by decide +kernel)
noncomputable def xi_252 (pc : Nat) : XIs := cond (Nat.blt pc 32) (zx zi_252_0) (zx zi_252_1)
theorem xi_ok252 (pc : Nat) : xi_ok cX11_figures (xi_252 pc) = true := xi_c (zq1 xi_w252) (zq1 (zq2 xi_w252))
noncomputable def zi_253_0 : ZIs := [(0, ev_13), (1, ev_302), (4, ev_13), (5, ev_693), (8, ev_1177), (11, ev_220), (14, ev_10), (15, ev_636), (18, ev_806), (20, ev_81)]
set_option maxRecDepth 100000 in
theorem xi_w253 : zall cX11_pattern [zi_253_0] := zall_w _ _ (by decide +kernel)
noncomputable def xi_253 (pc : Nat) : XIs := zx zi_253_0
theorem xi_ok253 (pc : Nat) : xi_ok cX11_pattern (xi_253 pc) = true := zq1 xi_w253
noncomputable def zi_254_0 : ZIs := [(0, ev_13), (1, ev_1107), (4, ev_9), (5, ev_23), (6, ev_184), (7, ev_811), (10, ev_769), (13, ev_23), (14, ev_189), (15, ev_811), (18, ev_220), (21, ev_7), (22, ev_222), (25, ev_10), (26, ev_854), (29, ev_13)]
noncomputable def zi_254_1 : ZIs := [(30, ev_302), (33, ev_23), (34, ev_184), (35, ev_189), (36, ev_1178), (39, ev_81)]
set_option maxRecDepth 100000 in
theorem xi_w254 : zall cX11_fits [zi_254_0, zi_254_1] := zall_w _ _ (by decide +kernel)
noncomputable def xi_254 (pc : Nat) : XIs := cond (Nat.blt pc 30) (zx zi_254_0) (zx zi_254_1)
theorem xi_ok254 (pc : Nat) : xi_ok cX11_fits (xi_254 pc) = true := xi_c (zq1 xi_w254) (zq1 (zq2 xi_w254))
noncomputable def zi_255_0 : ZIs := [(0, ev_13), (1, ev_1179), (4, ev_13), (5, ev_693), (8, ev_1180), (11, ev_220), (14, ev_10), (15, ev_636), (18, ev_806), (20, ev_81)]
set_option maxRecDepth 100000 in
theorem xi_w255 : zall cX11_program [zi_255_0] := zall_w _ _ (by decide +kernel)
noncomputable def xi_255 (pc : Nat) : XIs := zx zi_255_0
theorem xi_ok255 (pc : Nat) : xi_ok cX11_program (xi_255 pc) = true := zq1 xi_w255
noncomputable def zi_256_0 : ZIs := [(0, ev_184), (1, ev_1181), (4, ev_184), (5, ev_1182), (8, ev_1183), (11, ev_189), (12, ev_7), (13, ev_1184), (16, ev_189), (17, ev_32), (18, ev_931), (21, ev_190), (22, ev_1166), (25, ev_190), (26, ev_1185), (28, ev_884)]
noncomputable def zi_256_1 : ZIs := [(31, ev_7), (32, ev_222), (35, ev_10), (36, ev_854), (39, ev_13), (40, ev_1107), (43, ev_217), (45, ev_13), (46, ev_1179), (49, ev_188), (51, ev_184), (52, ev_1186), (55, ev_269), (57, ev_13), (58, ev_1179), (61, ev_188)]
noncomputable def zi_256_2 : ZIs := [(63, ev_270), (65, ev_189), (66, ev_190), (67, ev_240), (69, ev_1187), (72, ev_270), (74, ev_81)]
set_option maxRecDepth 100000 in
theorem xi_w256 : zall cX11_run [zi_256_0, zi_256_1, zi_256_2] := zall_w _ _ (by decide +kernel)
noncomputable def xi_256 (pc : Nat) : XIs := cond (Nat.blt pc 31) (zx zi_256_0) (cond (Nat.blt pc 63) (zx zi_256_1) (zx zi_256_2))
theorem xi_ok256 (pc : Nat) : xi_ok cX11_run (xi_256 pc) = true := xi_c (zq1 xi_w256) (xi_c (zq1 (zq2 xi_w256)) (zq1 (zq2 (zq2 xi_w256))))
noncomputable def zi_257_0 : ZIs := [(0, ev_184), (1, ev_1135), (4, ev_184), (5, ev_13), (6, ev_1179), (9, ev_1188), (12, ev_654), (15, ev_7), (16, ev_222), (19, ev_10), (20, ev_854), (23, ev_13), (24, ev_1179), (27, ev_1189), (30, ev_184), (31, ev_437)]
noncomputable def zi_257_1 : ZIs := [(32, ev_479)]
set_option maxRecDepth 100000 in
theorem xi_w257 : zall cX11_state [zi_257_0, zi_257_1] := zall_w _ _ (by decide +kernel)
noncomputable def xi_257 (pc : Nat) : XIs := cond (Nat.blt pc 32) (zx zi_257_0) (zx zi_257_1)
theorem xi_ok257 (pc : Nat) : xi_ok cX11_state (xi_257 pc) = true := xi_c (zq1 xi_w257) (zq1 (zq2 xi_w257))
noncomputable def zi_258_0 : ZIs := [(0, ev_184), (1, ev_1108), (4, ev_184), (5, ev_30), (6, ev_884), (9, ev_7), (10, ev_222), (13, ev_10), (14, ev_854), (17, ev_184), (18, ev_1115), (21, ev_13), (22, ev_1179), (25, ev_1190), (28, ev_81), (29, ev_184)]
noncomputable def zi_258_1 : ZIs := [(30, ev_7), (31, ev_925), (34, ev_13), (35, ev_1179), (38, ev_1191), (41, ev_631), (44, ev_13), (45, ev_1179), (48, ev_1192), (51, ev_81)]
set_option maxRecDepth 100000 in
theorem xi_w258 : zall cX11_letters [zi_258_0, zi_258_1] := zall_w _ _ (by decide +kernel)
noncomputable def xi_258 (pc : Nat) : XIs := cond (Nat.blt pc 30) (zx zi_258_0) (zx zi_258_1)
theorem xi_ok258 (pc : Nat) : xi_ok cX11_letters (xi_258 pc) = true := xi_c (zq1 xi_w258) (zq1 (zq2 xi_w258))
noncomputable def zi_259_0 : ZIs := [(0, ev_13), (1, ev_1036), (4, ev_245), (5, ev_925), (8, ev_13), (9, ev_1101), (12, ev_410), (15, ev_205), (18, ev_13), (19, ev_436), (22, ev_821)]
set_option maxRecDepth 100000 in
theorem xi_w259 : zall cX11_graph [zi_259_0] := zall_w _ _ (by decide +kernel)
noncomputable def xi_259 (pc : Nat) : XIs := zx zi_259_0
theorem xi_ok259 (pc : Nat) : xi_ok cX11_graph (xi_259 pc) = true := zq1 xi_w259
noncomputable def zi_260_0 : ZIs := [(0, ev_480), (1, ev_1166), (4, ev_480), (5, ev_872), (7, ev_654), (10, ev_7), (11, ev_222), (14, ev_10), (15, ev_81)]
set_option maxRecDepth 100000 in
theorem xi_w260 : zall cX11_isLetter [zi_260_0] := zall_w _ _ (by decide +kernel)
noncomputable def xi_260 (pc : Nat) : XIs := zx zi_260_0
theorem xi_ok260 (pc : Nat) : xi_ok cX11_isLetter (xi_260 pc) = true := zq1 xi_w260
noncomputable def zi_261_0 : ZIs := [(0, ev_480), (1, ev_1193), (4, ev_599), (7, ev_480), (8, ev_1194), (11, ev_884), (14, ev_7), (15, ev_222), (18, ev_10), (19, ev_81)]
set_option maxRecDepth 100000 in
theorem xi_w261 : zall cX11_isWeight [zi_261_0] := zall_w _ _ (by decide +kernel)
noncomputable def xi_261 (pc : Nat) : XIs := zx zi_261_0
theorem xi_ok261 (pc : Nat) : xi_ok cX11_isWeight (xi_261 pc) = true := zq1 xi_w261
noncomputable def zi_262_0 : ZIs := [(0, ev_480), (1, ev_1156), (4, ev_480), (5, ev_1194), (8, ev_884), (11, ev_7), (12, ev_222), (15, ev_10), (16, ev_81)]
set_option maxRecDepth 100000 in
theorem xi_w262 : zall cX11_isRoom [zi_262_0] := zall_w _ _ (by decide +kernel)
noncomputable def xi_262 (pc : Nat) : XIs := zx zi_262_0
theorem xi_ok262 (pc : Nat) : xi_ok cX11_isRoom (xi_262 pc) = true := zq1 xi_w262
noncomputable def zi_263_0 : ZIs := [(0, ev_480), (1, ev_850), (4, ev_184), (5, ev_1195), (8, ev_81), (9, ev_480), (10, ev_7), (11, ev_538), (14, ev_184), (15, ev_1196), (18, ev_81), (19, ev_480), (20, ev_30), (21, ev_796), (24, ev_184), (25, ev_962)]
noncomputable def zi_263_1 : ZIs := [(28, ev_220), (31, ev_7), (32, ev_222), (35, ev_10), (36, ev_81)]
set_option maxRecDepth 100000 in
theorem xi_w263 : zall cX11_isGoodValue [zi_263_0, zi_263_1] := zall_w _ _ (by decide +kernel)
noncomputable def xi_263 (pc : Nat) : XIs := cond (Nat.blt pc 28) (zx zi_263_0) (zx zi_263_1)
theorem xi_ok263 (pc : Nat) : xi_ok cX11_isGoodValue (xi_263 pc) = true := xi_c (zq1 xi_w263) (zq1 (zq2 xi_w263))
noncomputable def zi_264_0 : ZIs := [(0, ev_480), (1, ev_480), (2, ev_305), (3, ev_20), (4, ev_7), (5, ev_16), (6, ev_1152), (9, ev_81)]
set_option maxRecDepth 100000 in
theorem xi_w264 : zall cX11_lowest [zi_264_0] := zall_w _ _ (by decide +kernel)
noncomputable def xi_264 (pc : Nat) : XIs := zx zi_264_0
theorem xi_ok264 (pc : Nat) : xi_ok cX11_lowest (xi_264 pc) = true := zq1 xi_w264
noncomputable def zi_265_0 : ZIs := [(0, ev_485), (1, ev_485), (2, ev_474), (3, ev_171), (4, ev_221), (5, ev_483), (6, ev_1197), (9, ev_81)]
set_option maxRecDepth 100000 in
theorem xi_w265 : zall cX11_lowestOfLong [zi_265_0] := zall_w _ _ (by decide +kernel)
noncomputable def xi_265 (pc : Nat) : XIs := zx zi_265_0
theorem xi_ok265 (pc : Nat) : xi_ok cX11_lowestOfLong (xi_265 pc) = true := zq1 xi_w265
noncomputable def zi_266_0 : ZIs := [(0, ev_184), (1, ev_289), (2, ev_184), (3, ev_11), (5, ev_10), (6, ev_25), (8, ev_191), (10, ev_168), (12, ev_1198), (15, ev_12), (17, ev_1199), (20, ev_13), (21, ev_12), (23, ev_155), (26, ev_18), (27, ev_189)]
noncomputable def zi_266_1 : ZIs := [(28, ev_20), (29, ev_190), (30, ev_245), (31, ev_312), (32, ev_20), (33, ev_28), (35, ev_12), (37, ev_12), (39, ev_7), (40, ev_16), (41, ev_20), (42, ev_11), (44, ev_12), (46, ev_265), (48, ev_272), (49, ev_11)]
noncomputable def zi_266_2 : ZIs := [(51, ev_190), (52, ev_265), (54, ev_272), (55, ev_289), (56, ev_338), (59, ev_906), (62, ev_190), (63, ev_81)]
set_option maxRecDepth 100000 in
theorem xi_w266 : zall cX11_flood [zi_266_0, zi_266_1, zi_266_2] := zall_w _ _ (by decide +kernel)
noncomputable def xi_266 (pc : Nat) : XIs := cond (Nat.blt pc 28) (zx zi_266_0) (cond (Nat.blt pc 51) (zx zi_266_1) (zx zi_266_2))
theorem xi_ok266 (pc : Nat) : xi_ok cX11_flood (xi_266 pc) = true := xi_c (zq1 xi_w266) (xi_c (zq1 (zq2 xi_w266)) (zq1 (zq2 (zq2 xi_w266))))
noncomputable def zi_267_0 : ZIs := [(0, ev_13), (1, ev_1073), (4, ev_13), (5, ev_31), (6, ev_248), (8, ev_1200), (11, ev_13), (12, ev_1201), (14, ev_248), (16, ev_1202), (19, ev_13), (20, ev_1203), (23, ev_1204), (25, ev_1205), (28, ev_13), (29, ev_1203)]
noncomputable def zi_267_1 : ZIs := [(32, ev_248), (34, ev_1206), (37, ev_13), (38, ev_1203), (41, ev_248), (43, ev_1003), (46, ev_13), (47, ev_1203), (50, ev_248), (52, ev_1004), (55, ev_13), (56, ev_1203), (59, ev_248), (61, ev_365), (64, ev_13), (65, ev_1203)]
noncomputable def zi_267_2 : ZIs := [(68, ev_248), (70, ev_366), (73, ev_13), (74, ev_763), (77, ev_248), (79, ev_367), (82, ev_13), (83, ev_763), (86, ev_248), (88, ev_702), (91, ev_13), (92, ev_763), (95, ev_248), (97, ev_951), (100, ev_13), (101, ev_763)]
noncomputable def zi_267_3 : ZIs := [(104, ev_248), (106, ev_1085), (109, ev_13), (110, ev_763), (113, ev_248), (115, ev_533), (118, ev_13), (119, ev_763), (122, ev_248), (124, ev_371), (127, ev_13), (128, ev_763), (131, ev_248), (133, ev_1207), (136, ev_13), (137, ev_245)]
noncomputable def zi_267_4 : ZIs := [(138, ev_1208), (141, ev_13), (142, ev_801), (145, ev_248), (147, ev_1209), (150, ev_13), (151, ev_1210), (154, ev_248), (156, ev_1211), (159, ev_13), (160, ev_1212), (163, ev_248), (165, ev_1213), (168, ev_13), (169, ev_1214), (172, ev_248)]
noncomputable def zi_267_5 : ZIs := [(174, ev_955), (177, ev_13), (178, ev_168), (180, ev_248), (182, ev_1095), (185, ev_13), (186, ev_168), (188, ev_8), (190, ev_1215), (193, ev_13), (194, ev_168), (196, ev_248), (198, ev_280), (201, ev_13), (202, ev_763), (205, ev_248)]
noncomputable def zi_267_6 : ZIs := [(207, ev_1216), (210, ev_13), (211, ev_168), (213, ev_248), (215, ev_1217), (218, ev_13), (219, ev_1218), (222, ev_248), (224, ev_1219), (227, ev_13), (228, ev_1005), (231, ev_8), (233, ev_1220), (236, ev_13), (237, ev_1005), (240, ev_248)]
noncomputable def zi_267_7 : ZIs := [(242, ev_1221), (245, ev_13), (246, ev_1005), (249, ev_248), (251, ev_1222), (254, ev_13), (255, ev_168), (257, ev_248), (259, ev_1223), (262, ev_13), (263, ev_523), (265, ev_248), (267, ev_1224), (270, ev_13), (271, ev_523), (273, ev_248)]
noncomputable def zi_267_8 : ZIs := [(275, ev_1225), (278, ev_13), (279, ev_168), (281, ev_248), (283, ev_1226), (286, ev_13), (287, ev_168), (289, ev_248), (291, ev_1227), (294, ev_13), (295, ev_168), (297, ev_248), (299, ev_1228), (302, ev_13), (303, ev_523), (305, ev_248)]
noncomputable def zi_267_9 : ZIs := [(307, ev_1229), (310, ev_13), (311, ev_523), (313, ev_248), (315, ev_1230), (318, ev_13), (319, ev_523), (321, ev_248), (323, ev_1231), (326, ev_13), (327, ev_527), (330, ev_8), (332, ev_1232), (335, ev_13), (336, ev_1233), (338, ev_248)]
noncomputable def zi_267_10 : ZIs := [(340, ev_1234), (343, ev_13), (344, ev_1233), (346, ev_8), (348, ev_1235), (351, ev_13), (352, ev_168), (354, ev_8), (356, ev_585), (359, ev_13), (360, ev_168), (362, ev_248), (364, ev_1236), (367, ev_13), (368, ev_526), (371, ev_8)]
noncomputable def zi_267_11 : ZIs := [(373, ev_1237), (376, ev_13), (377, ev_527), (380, ev_248), (382, ev_1238), (385, ev_13), (386, ev_527), (389, ev_248), (391, ev_1239), (394, ev_13), (395, ev_527), (398, ev_8), (400, ev_1240), (403, ev_13), (404, ev_168), (406, ev_8)]
noncomputable def zi_267_12 : ZIs := [(408, ev_1241), (411, ev_13), (412, ev_168), (414, ev_248), (416, ev_1242), (419, ev_13), (420, ev_168), (422, ev_248), (424, ev_1243), (427, ev_13), (428, ev_168), (430, ev_248), (432, ev_1244), (435, ev_13), (436, ev_168), (438, ev_248)]
noncomputable def zi_267_13 : ZIs := [(440, ev_1245), (443, ev_13), (444, ev_526), (447, ev_8), (449, ev_1246), (452, ev_13), (453, ev_168), (455, ev_8), (457, ev_1247), (460, ev_13), (461, ev_168), (463, ev_8), (465, ev_1248), (468, ev_13), (469, ev_168), (471, ev_248)]
noncomputable def zi_267_14 : ZIs := [(473, ev_1249), (476, ev_13), (477, ev_168), (479, ev_248), (481, ev_1250), (484, ev_13), (485, ev_168), (487, ev_8), (489, ev_1251), (492, ev_13), (493, ev_168), (495, ev_248), (497, ev_1252), (500, ev_13), (501, ev_168), (503, ev_8)]
noncomputable def zi_267_15 : ZIs := [(505, ev_1253), (508, ev_13), (509, ev_168), (511, ev_248), (513, ev_1254), (516, ev_13), (517, ev_168), (519, ev_248), (521, ev_1255), (524, ev_13), (525, ev_526), (528, ev_248), (530, ev_1256), (533, ev_13), (534, ev_384), (536, ev_248)]
noncomputable def zi_267_16 : ZIs := [(538, ev_1257), (541, ev_13), (542, ev_384), (544, ev_8), (546, ev_1258), (549, ev_13), (550, ev_7), (551, ev_1259), (554, ev_13), (555, ev_384), (557, ev_248), (559, ev_1260), (562, ev_13), (563, ev_384), (565, ev_8), (567, ev_1261)]
noncomputable def zi_267_17 : ZIs := [(570, ev_13), (571, ev_1262), (573, ev_1204), (575, ev_1263), (578, ev_13), (579, ev_1262), (581, ev_1204), (583, ev_1264), (586, ev_13), (587, ev_1262), (589, ev_8), (591, ev_1265), (594, ev_13), (595, ev_1262), (597, ev_8), (599, ev_1266)]
noncomputable def zi_267_18 : ZIs := [(602, ev_13), (603, ev_1262), (605, ev_1204), (607, ev_1267), (610, ev_13), (611, ev_1262), (613, ev_8), (615, ev_1268), (618, ev_13), (619, ev_1262), (621, ev_8), (623, ev_1269), (626, ev_13), (627, ev_1044), (630, ev_248), (632, ev_1270)]
noncomputable def zi_267_19 : ZIs := [(635, ev_13), (636, ev_1271), (639, ev_248), (641, ev_1272), (644, ev_13), (645, ev_1271), (648, ev_248), (650, ev_1273), (653, ev_13), (654, ev_31), (655, ev_248), (657, ev_1274), (660, ev_13), (661, ev_1271), (664, ev_248), (666, ev_1275)]
noncomputable def zi_267_20 : ZIs := [(669, ev_13), (670, ev_1271), (673, ev_248), (675, ev_1276), (678, ev_13), (679, ev_31), (680, ev_248), (682, ev_1277), (685, ev_13), (686, ev_1182), (689, ev_248), (691, ev_1278), (694, ev_13), (695, ev_168), (697, ev_8), (699, ev_1279)]
noncomputable def zi_267_21 : ZIs := [(702, ev_13), (703, ev_168), (705, ev_8), (707, ev_1280), (710, ev_13), (711, ev_1182), (714, ev_8), (716, ev_1281), (719, ev_13), (720, ev_364), (722, ev_8), (724, ev_1282), (727, ev_13), (728, ev_151), (731, ev_253)]
set_option maxRecDepth 100000 in
theorem xi_w267 : zall cX12_init [zi_267_0, zi_267_1, zi_267_2, zi_267_3, zi_267_4, zi_267_5, zi_267_6, zi_267_7, zi_267_8, zi_267_9, zi_267_10, zi_267_11, zi_267_12, zi_267_13, zi_267_14, zi_267_15, zi_267_16, zi_267_17, zi_267_18, zi_267_19, zi_267_20, zi_267_21] := zall_w _ _ (by decide +kernel)
noncomputable def xi_267 (pc : Nat) : XIs := cond (Nat.blt pc 373) (cond (Nat.blt pc 174) (cond (Nat.blt pc 68) (cond (Nat.blt pc 32) (zx zi_267_0) (zx zi_267_1)) (cond (Nat.blt pc 104) (zx zi_267_2) (cond (Nat.blt pc 138) (zx zi_267_3) (zx zi_267_4)))) (cond (Nat.blt pc 275) (cond (Nat.blt pc 207) (zx zi_267_5) (cond (Nat.blt pc 242) (zx zi_267_6) (zx zi_267_7))) (cond (Nat.blt pc 307) (zx zi_267_8) (cond (Nat.blt pc 340) (zx zi_267_9) (zx zi_267_10))))) (cond (Nat.blt pc 538) (cond (Nat.blt pc 440) (cond (Nat.blt pc 408) (zx zi_267_11) (zx zi_267_12)) (cond (Nat.blt pc 473) (zx zi_267_13) (cond (Nat.blt pc 505) (zx zi_267_14) (zx zi_267_15)))) (cond (Nat.blt pc 635) (cond (Nat.blt pc 570) (zx zi_267_16) (cond (Nat.blt pc 602) (zx zi_267_17) (zx zi_267_18))) (cond (Nat.blt pc 669) (zx zi_267_19) (cond (Nat.blt pc 702) (zx zi_267_20) (zx zi_267_21)))))
theorem xi_ok267 (pc : Nat) : xi_ok cX12_init (xi_267 pc) = true := xi_c (xi_c (xi_c (xi_c (zq1 xi_w267) (zq1 (zq2 xi_w267))) (xi_c (zq1 (zq2 (zq2 xi_w267))) (xi_c (zq1 (zq2 (zq2 (zq2 xi_w267)))) (zq1 (zq2 (zq2 (zq2 (zq2 xi_w267)))))))) (xi_c (xi_c (zq1 (zq2 (zq2 (zq2 (zq2 (zq2 xi_w267)))))) (xi_c (zq1 (zq2 (zq2 (zq2 (zq2 (zq2 (zq2 xi_w267))))))) (zq1 (zq2 (zq2 (zq2 (zq2 (zq2 (zq2 (zq2 xi_w267)))))))))) (xi_c (zq1 (zq2 (zq2 (zq2 (zq2 (zq2 (zq2 (zq2 (zq2 xi_w267))))))))) (xi_c (zq1 (zq2 (zq2 (zq2 (zq2 (zq2 (zq2 (zq2 (zq2 (zq2 xi_w267)))))))))) (zq1 (zq2 (zq2 (zq2 (zq2 (zq2 (zq2 (zq2 (zq2 (zq2 (zq2 xi_w267))))))))))))))) (xi_c (xi_c (xi_c (zq1 (zq2 (zq2 (zq2 (zq2 (zq2 (zq2 (zq2 (zq2 (zq2 (zq2 (zq2 xi_w267)))))))))))) (zq1 (zq2 (zq2 (zq2 (zq2 (zq2 (zq2 (zq2 (zq2 (zq2 (zq2 (zq2 (zq2 xi_w267)))))))))))))) (xi_c (zq1 (zq2 (zq2 (zq2 (zq2 (zq2 (zq2 (zq2 (zq2 (zq2 (zq2 (zq2 (zq2 (zq2 xi_w267)))))))))))))) (xi_c (zq1 (zq2 (zq2 (zq2 (zq2 (zq2 (zq2 (zq2 (zq2 (zq2 (zq2 (zq2 (zq2 (zq2 (zq2 xi_w267))))))))))))))) (zq1 (zq2 (zq2 (zq2 (zq2 (zq2 (zq2 (zq2 (zq2 (zq2 (zq2 (zq2 (zq2 (zq2 (zq2 (zq2 xi_w267))))))))))))))))))) (xi_c (xi_c (zq1 (zq2 (zq2 (zq2 (zq2 (zq2 (zq2 (zq2 (zq2 (zq2 (zq2 (zq2 (zq2 (zq2 (zq2 (zq2 (zq2 xi_w267))))))))))))))))) (xi_c (zq1 (zq2 (zq2 (zq2 (zq2 (zq2 (zq2 (zq2 (zq2 (zq2 (zq2 (zq2 (zq2 (zq2 (zq2 (zq2 (zq2 (zq2 xi_w267)))))))))))))))))) (zq1 (zq2 (zq2 (zq2 (zq2 (zq2 (zq2 (zq2 (zq2 (zq2 (zq2 (zq2 (zq2 (zq2 (zq2 (zq2 (zq2 (zq2 (zq2 xi_w267))))))))))))))))))))) (xi_c (zq1 (zq2 (zq2 (zq2 (zq2 (zq2 (zq2 (zq2 (zq2 (zq2 (zq2 (zq2 (zq2 (zq2 (zq2 (zq2 (zq2 (zq2 (zq2 (zq2 xi_w267)))))))))))))))))))) (xi_c (zq1 (zq2 (zq2 (zq2 (zq2 (zq2 (zq2 (zq2 (zq2 (zq2 (zq2 (zq2 (zq2 (zq2 (zq2 (zq2 (zq2 (zq2 (zq2 (zq2 (zq2 xi_w267))))))))))))))))))))) (zq1 (zq2 (zq2 (zq2 (zq2 (zq2 (zq2 (zq2 (zq2 (zq2 (zq2 (zq2 (zq2 (zq2 (zq2 (zq2 (zq2 (zq2 (zq2 (zq2 (zq2 (zq2 xi_w267))))))))))))))))))))))))))
noncomputable def xi_268 (pc : Nat) : XIs := []
theorem xi_ok268 (pc : Nat) : xi_ok cX12_in (xi_268 pc) = true := rfl
noncomputable def zi_269_0 : ZIs := [(0, ev_485), (1, ev_487), (2, ev_438), (3, ev_1156), (6, ev_485), (7, ev_240), (9, ev_438), (10, ev_489), (13, ev_7), (14, ev_222), (17, ev_10), (18, ev_81)]
set_option maxRecDepth 100000 in
theorem xi_w269 : zall cX12_in [zi_269_0] := zall_w _ _ (by decide +kernel)
noncomputable def xi_269 (pc : Nat) : XIs := zx zi_269_0
theorem xi_ok269 (pc : Nat) : xi_ok cX12_in (xi_269 pc) = true := zq1 xi_w269
noncomputable def zi_270_0 : ZIs := [(0, ev_13), (1, ev_184), (2, ev_321), (5, ev_7), (6, ev_1118), (9, ev_189), (10, ev_321), (13, ev_30), (14, ev_222), (17, ev_10), (18, ev_1283), (21, ev_13), (22, ev_1284), (25, ev_491), (28, ev_7), (29, ev_222)]
noncomputable def zi_270_1 : ZIs := [(32, ev_10), (33, ev_81)]
set_option maxRecDepth 100000 in
theorem xi_w270 : zall cX12_fails [zi_270_0, zi_270_1] := zall_w _ _ (by decide +kernel)
noncomputable def xi_270 (pc : Nat) : XIs := cond (Nat.blt pc 32) (zx zi_270_0) (zx zi_270_1)
theorem xi_ok270 (pc : Nat) : xi_ok cX12_fails (xi_270 pc) = true := xi_c (zq1 xi_w270) (zq1 (zq2 xi_w270))
noncomputable def zi_271_0 : ZIs := [(0, ev_13), (1, ev_184), (2, ev_7), (3, ev_1285), (6, ev_81)]
set_option maxRecDepth 100000 in
theorem xi_w271 : zall cX12_wrongArgument [zi_271_0] := zall_w _ _ (by decide +kernel)
noncomputable def xi_271 (pc : Nat) : XIs := zx zi_271_0
theorem xi_ok271 (pc : Nat) : xi_ok cX12_wrongArgument (xi_271 pc) = true := zq1 xi_w271
noncomputable def zi_272_0 : ZIs := [(0, ev_184), (1, ev_676), (4, ev_184), (5, ev_13), (6, ev_1286), (9, ev_654), (12, ev_7), (13, ev_222), (16, ev_10), (17, ev_81)]
set_option maxRecDepth 100000 in
theorem xi_w272 : zall cX12_isNode [zi_272_0] := zall_w _ _ (by decide +kernel)
noncomputable def xi_272 (pc : Nat) : XIs := zx zi_272_0
theorem xi_ok272 (pc : Nat) : xi_ok cX12_isNode (xi_272 pc) = true := zq1 xi_w272
noncomputable def zi_273_0 : ZIs := [(0, ev_184), (1, ev_1287), (4, ev_184), (5, ev_527), (8, ev_359), (11, ev_13), (12, ev_1288), (15, ev_13), (16, ev_1289), (19, ev_184), (20, ev_22), (21, ev_1290), (22, ev_220), (25, ev_7), (26, ev_222), (29, ev_10)]
noncomputable def zi_273_1 : ZIs := [(30, ev_81)]
set_option maxRecDepth 100000 in
theorem xi_w273 : zall cX12_isArc [zi_273_0, zi_273_1] := zall_w _ _ (by decide +kernel)
noncomputable def xi_273 (pc : Nat) : XIs := cond (Nat.blt pc 30) (zx zi_273_0) (zx zi_273_1)
theorem xi_ok273 (pc : Nat) : xi_ok cX12_isArc (xi_273 pc) = true := xi_c (zq1 xi_w273) (zq1 (zq2 xi_w273))
noncomputable def zi_274_0 : ZIs := [(0, ev_13), (1, ev_425), (4, ev_13), (5, ev_1291), (8, ev_184), (9, ev_293), (10, ev_13), (11, ev_749), (14, ev_13), (15, ev_1291), (18, ev_189), (19, ev_293), (20, ev_13), (21, ev_703), (24, ev_13), (25, ev_1291)]
noncomputable def zi_274_1 : ZIs := [(28, ev_190), (29, ev_293), (30, ev_13), (31, ev_1145), (34, ev_13), (35, ev_1291), (38, ev_12), (40, ev_293), (41, ev_13), (42, ev_638), (45, ev_13), (46, ev_1291), (49, ev_191), (51, ev_293), (52, ev_13), (53, ev_378)]
noncomputable def zi_274_2 : ZIs := [(56, ev_13), (57, ev_1291), (60, ev_265), (62, ev_293), (63, ev_13), (64, ev_1292), (67, ev_13), (68, ev_1291), (71, ev_270), (73, ev_293), (74, ev_13), (75, ev_13), (76, ev_1291), (79, ev_10), (80, ev_1293), (83, ev_13)]
noncomputable def zi_274_3 : ZIs := [(84, ev_1), (85, ev_1291), (88, ev_7), (89, ev_22), (90, ev_1294), (93, ev_13), (94, ev_1295), (97, ev_253)]
set_option maxRecDepth 100000 in
theorem xi_w274 : zall cX12_make [zi_274_0, zi_274_1, zi_274_2, zi_274_3] := zall_w _ _ (by decide +kernel)
noncomputable def xi_274 (pc : Nat) : XIs := cond (Nat.blt pc 56) (cond (Nat.blt pc 28) (zx zi_274_0) (zx zi_274_1)) (cond (Nat.blt pc 84) (zx zi_274_2) (zx zi_274_3))
theorem xi_ok274 (pc : Nat) : xi_ok cX12_make (xi_274 pc) = true := xi_c (xi_c (zq1 xi_w274) (zq1 (zq2 xi_w274))) (xi_c (zq1 (zq2 (zq2 xi_w274))) (zq1 (zq2 (zq2 (zq2 xi_w274)))))
noncomputable def zi_275_0 : ZIs := [(0, ev_527), (3, ev_189), (4, ev_350), (5, ev_13), (6, ev_749), (9, ev_184), (10, ev_18), (11, ev_22), (12, ev_289), (13, ev_13), (14, ev_425), (17, ev_184), (18, ev_18)]
noncomputable def xi_275_1 : XIs := [(19, .tableswitch 208 0 3 #[29, 64, 134, 144], 29)]
set_option maxRecDepth 100000 in
theorem xi_ok275_1 : xi_ok cX12_apply xi_275_1 = true := by decide +kernel
noncomputable def zi_275_2 : ZIs := [(48, ev_13), (49, ev_1296), (52, ev_168), (54, ev_189), (55, ev_350), (56, ev_13), (57, ev_1297), (60, ev_189), (61, ev_18), (62, ev_22), (63, ev_13), (64, ev_749), (67, ev_184), (68, ev_18), (69, ev_293), (70, ev_13)]
noncomputable def zi_275_3 : ZIs := [(71, ev_1297), (74, ev_189), (75, ev_311), (76, ev_18), (77, ev_7), (78, ev_22), (79, ev_293), (80, ev_1298), (83, ev_13), (84, ev_1288), (87, ev_190), (88, ev_7), (89, ev_1299), (90, ev_13), (91, ev_1300), (94, ev_190)]
noncomputable def zi_275_4 : ZIs := [(95, ev_13), (96, ev_703), (99, ev_184), (100, ev_18), (101, ev_293), (102, ev_13), (103, ev_1036), (106, ev_190), (107, ev_13), (108, ev_1145), (111, ev_184), (112, ev_18), (113, ev_293), (114, ev_13), (115, ev_1037), (118, ev_190)]
noncomputable def zi_275_5 : ZIs := [(119, ev_13), (120, ev_638), (123, ev_184), (124, ev_18), (125, ev_293), (126, ev_13), (127, ev_463), (130, ev_190), (131, ev_13), (132, ev_378), (135, ev_184), (136, ev_18), (137, ev_293), (138, ev_13), (139, ev_429), (142, ev_190)]
noncomputable def zi_275_6 : ZIs := [(143, ev_13), (144, ev_1292), (147, ev_184), (148, ev_18), (149, ev_293), (150, ev_1301), (153, ev_13), (154, ev_1288), (157, ev_190), (158, ev_10), (159, ev_1299), (160, ev_1302), (163, ev_13), (164, ev_703), (167, ev_184), (168, ev_18)]
noncomputable def zi_275_7 : ZIs := [(169, ev_1303), (172, ev_13), (173, ev_1037), (176, ev_190), (177, ev_13), (178, ev_1145), (181, ev_184), (182, ev_18), (183, ev_293), (184, ev_1304), (187, ev_13), (188, ev_703), (191, ev_184), (192, ev_18), (193, ev_7), (194, ev_753)]
noncomputable def zi_275_8 : ZIs := [(197, ev_13), (198, ev_463), (201, ev_190), (202, ev_13), (203, ev_1145), (206, ev_184), (207, ev_18), (208, ev_293), (209, ev_1305), (212, ev_13), (213, ev_429), (216, ev_190), (217, ev_13), (218, ev_1145), (221, ev_184), (222, ev_18)]
noncomputable def zi_275_9 : ZIs := [(223, ev_293), (224, ev_1306), (227, ev_13), (228, ev_1296), (231, ev_168), (233, ev_189), (234, ev_350), (235, ev_13), (236, ev_749), (239, ev_184), (240, ev_18), (241, ev_22), (242, ev_13), (243, ev_703), (246, ev_184), (247, ev_18)]
noncomputable def zi_275_10 : ZIs := [(248, ev_293), (249, ev_253)]
set_option maxRecDepth 100000 in
theorem xi_w275 : zall cX12_apply [zi_275_0, zi_275_2, zi_275_3, zi_275_4, zi_275_5, zi_275_6, zi_275_7, zi_275_8, zi_275_9, zi_275_10] := zall_w _ _ (by decide +kernel)
noncomputable def xi_275 (pc : Nat) : XIs := cond (Nat.blt pc 119) (cond (Nat.blt pc 48) (cond (Nat.blt pc 19) (zx zi_275_0) (xi_275_1)) (cond (Nat.blt pc 71) (zx zi_275_2) (cond (Nat.blt pc 95) (zx zi_275_3) (zx zi_275_4)))) (cond (Nat.blt pc 197) (cond (Nat.blt pc 143) (zx zi_275_5) (cond (Nat.blt pc 169) (zx zi_275_6) (zx zi_275_7))) (cond (Nat.blt pc 223) (zx zi_275_8) (cond (Nat.blt pc 248) (zx zi_275_9) (zx zi_275_10))))
theorem xi_ok275 (pc : Nat) : xi_ok cX12_apply (xi_275 pc) = true := xi_c (xi_c (xi_c (zq1 xi_w275) (xi_ok275_1)) (xi_c (zq1 (zq2 xi_w275)) (xi_c (zq1 (zq2 (zq2 xi_w275))) (zq1 (zq2 (zq2 (zq2 xi_w275))))))) (xi_c (xi_c (zq1 (zq2 (zq2 (zq2 (zq2 xi_w275))))) (xi_c (zq1 (zq2 (zq2 (zq2 (zq2 (zq2 xi_w275)))))) (zq1 (zq2 (zq2 (zq2 (zq2 (zq2 (zq2 xi_w275))))))))) (xi_c (zq1 (zq2 (zq2 (zq2 (zq2 (zq2 (zq2 (zq2 xi_w275)))))))) (xi_c (zq1 (zq2 (zq2 (zq2 (zq2 (zq2 (zq2 (zq2 (zq2 xi_w275))))))))) (zq1 (zq2 (zq2 (zq2 (zq2 (zq2 (zq2 (zq2 (zq2 (zq2 xi_w275)))))))))))))
noncomputable def zi_276_0 : ZIs := [(0, ev_13), (1, ev_13), (2, ev_1307), (5, ev_484), (8, ev_10), (9, ev_222), (12, ev_7), (13, ev_1308), (16, ev_13), (17, ev_527), (20, ev_13), (21, ev_1159), (24, ev_350), (25, ev_1309), (28, ev_13), (29, ev_13)]
noncomputable def zi_276_1 : ZIs := [(30, ev_1297), (33, ev_13), (34, ev_1159), (37, ev_18), (38, ev_1310), (41, ev_253)]
set_option maxRecDepth 100000 in
theorem xi_w276 : zall cX12_look [zi_276_0, zi_276_1] := zall_w _ _ (by decide +kernel)
noncomputable def xi_276 (pc : Nat) : XIs := cond (Nat.blt pc 30) (zx zi_276_0) (zx zi_276_1)
theorem xi_ok276 (pc : Nat) : xi_ok cX12_look (xi_276 pc) = true := xi_c (zq1 xi_w276) (zq1 (zq2 xi_w276))
noncomputable def zi_277_0 : ZIs := [(0, ev_184), (1, ev_1311), (4, ev_184), (5, ev_13), (6, ev_1297), (9, ev_10), (10, ev_18), (11, ev_654), (14, ev_7), (15, ev_222), (18, ev_10), (19, ev_81)]
set_option maxRecDepth 100000 in
theorem xi_w277 : zall cX12_isNewNode [zi_277_0] := zall_w _ _ (by decide +kernel)
noncomputable def xi_277 (pc : Nat) : XIs := zx zi_277_0
theorem xi_ok277 (pc : Nat) : xi_ok cX12_isNewNode (xi_277 pc) = true := zq1 xi_w277
noncomputable def zi_278_0 : ZIs := [(0, ev_184), (1, ev_1112), (4, ev_184), (5, ev_527), (8, ev_1113), (11, ev_13), (12, ev_1288), (15, ev_184), (16, ev_1290), (17, ev_220), (20, ev_7), (21, ev_222), (24, ev_10), (25, ev_81)]
set_option maxRecDepth 100000 in
theorem xi_w278 : zall cX12_isNewArc [zi_278_0] := zall_w _ _ (by decide +kernel)
noncomputable def xi_278 (pc : Nat) : XIs := zx zi_278_0
theorem xi_ok278 (pc : Nat) : xi_ok cX12_isNewArc (xi_278 pc) = true := zq1 xi_w278
noncomputable def zi_279_0 : ZIs := [(0, ev_480), (1, ev_167), (2, ev_1312), (5, ev_1313), (8, ev_1314), (11, ev_81)]
set_option maxRecDepth 100000 in
theorem xi_w279 : zall cX12_isWeight [zi_279_0] := zall_w _ _ (by decide +kernel)
noncomputable def xi_279 (pc : Nat) : XIs := zx zi_279_0
theorem xi_ok279 (pc : Nat) : xi_ok cX12_isWeight (xi_279 pc) = true := zq1 xi_w279
noncomputable def zi_280_0 : ZIs := [(0, ev_10), (1, ev_288), (2, ev_189), (3, ev_527), (6, ev_296), (9, ev_13), (10, ev_1288), (13, ev_527), (16, ev_184), (17, ev_350), (18, ev_189), (19, ev_22), (20, ev_1290), (21, ev_342), (24, ev_299), (27, ev_314)]
noncomputable def zi_280_1 : ZIs := [(30, ev_189), (31, ev_81)]
set_option maxRecDepth 100000 in
theorem xi_w280 : zall cX12_freePlace [zi_280_0, zi_280_1] := zall_w _ _ (by decide +kernel)
noncomputable def xi_280 (pc : Nat) : XIs := cond (Nat.blt pc 30) (zx zi_280_0) (zx zi_280_1)
theorem xi_ok280 (pc : Nat) : xi_ok cX12_freePlace (xi_280 pc) = true := xi_c (zq1 xi_w280) (zq1 (zq2 xi_w280))
noncomputable def zi_281_0 : ZIs := [(0, ev_13), (1, ev_184), (2, ev_167), (3, ev_223), (4, ev_1315), (7, ev_1314), (10, ev_13), (11, ev_1297), (14, ev_10), (15, ev_18), (16, ev_168), (18, ev_681), (21, ev_13), (22, ev_1291), (25, ev_763), (28, ev_654)]
noncomputable def zi_281_1 : ZIs := [(31, ev_7), (32, ev_222), (35, ev_10), (36, ev_1285), (39, ev_298), (42, ev_10), (43, ev_81), (44, ev_13), (45, ev_10), (46, ev_184), (47, ev_10), (48, ev_10), (49, ev_10), (50, ev_10), (51, ev_10), (52, ev_1316)]
noncomputable def zi_281_2 : ZIs := [(55, ev_13), (56, ev_1297), (59, ev_10), (60, ev_18), (61, ev_7), (62, ev_16), (63, ev_81)]
set_option maxRecDepth 100000 in
theorem xi_w281 : zall cX12_node [zi_281_0, zi_281_1, zi_281_2] := zall_w _ _ (by decide +kernel)
noncomputable def xi_281 (pc : Nat) : XIs := cond (Nat.blt pc 31) (zx zi_281_0) (cond (Nat.blt pc 55) (zx zi_281_1) (zx zi_281_2))
theorem xi_ok281 (pc : Nat) : xi_ok cX12_node (xi_281 pc) = true := xi_c (zq1 xi_w281) (xi_c (zq1 (zq2 xi_w281)) (zq1 (zq2 (zq2 xi_w281))))
noncomputable def zi_282_0 : ZIs := [(0, ev_13), (1, ev_13), (2, ev_184), (3, ev_1167), (6, ev_1317), (9, ev_13), (10, ev_189), (11, ev_1167), (14, ev_865), (17, ev_190), (18, ev_1318), (21, ev_1319), (24, ev_12), (26, ev_167), (27, ev_223), (28, ev_1313)]
noncomputable def zi_282_1 : ZIs := [(31, ev_1314), (34, ev_678), (37, ev_191), (39, ev_167), (40, ev_223), (41, ev_1315), (44, ev_1314), (47, ev_220), (50, ev_7), (51, ev_222), (54, ev_10), (55, ev_13), (56, ev_1291), (59, ev_763), (62, ev_654), (65, ev_7)]
noncomputable def zi_282_2 : ZIs := [(66, ev_222), (69, ev_10), (70, ev_1285), (73, ev_298), (76, ev_10), (77, ev_81), (78, ev_13), (79, ev_10), (80, ev_1320), (83, ev_28), (85, ev_265), (87, ev_527), (90, ev_772), (93, ev_773), (95, ev_81), (96, ev_13)]
noncomputable def zi_282_3 : ZIs := [(97, ev_7), (98, ev_265), (100, ev_184), (101, ev_189), (102, ev_190), (103, ev_12), (105, ev_191), (107, ev_1316), (110, ev_265), (112, ev_81)]
set_option maxRecDepth 100000 in
theorem xi_w282 : zall cX12_arc [zi_282_0, zi_282_1, zi_282_2, zi_282_3] := zall_w _ _ (by decide +kernel)
noncomputable def xi_282 (pc : Nat) : XIs := cond (Nat.blt pc 66) (cond (Nat.blt pc 31) (zx zi_282_0) (zx zi_282_1)) (cond (Nat.blt pc 97) (zx zi_282_2) (zx zi_282_3))
theorem xi_ok282 (pc : Nat) : xi_ok cX12_arc (xi_282 pc) = true := xi_c (xi_c (zq1 xi_w282) (zq1 (zq2 xi_w282))) (xi_c (zq1 (zq2 (zq2 xi_w282))) (zq1 (zq2 (zq2 (zq2 xi_w282)))))
noncomputable def zi_283_0 : ZIs := [(0, ev_13), (1, ev_13), (2, ev_184), (3, ev_1321), (6, ev_13), (7, ev_1291), (10, ev_763), (13, ev_654), (16, ev_7), (17, ev_222), (20, ev_10), (21, ev_1285), (24, ev_298), (27, ev_10), (28, ev_81), (29, ev_13)]
noncomputable def zi_283_1 : ZIs := [(30, ev_30), (31, ev_184), (32, ev_10), (33, ev_10), (34, ev_10), (35, ev_10), (36, ev_10), (37, ev_1316), (40, ev_13), (41, ev_1291), (44, ev_81)]
set_option maxRecDepth 100000 in
theorem xi_w283 : zall cX12_take [zi_283_0, zi_283_1] := zall_w _ _ (by decide +kernel)
noncomputable def xi_283 (pc : Nat) : XIs := cond (Nat.blt pc 30) (zx zi_283_0) (zx zi_283_1)
theorem xi_ok283 (pc : Nat) : xi_ok cX12_take (xi_283 pc) = true := xi_c (zq1 xi_w283) (zq1 (zq2 xi_w283))
noncomputable def zi_284_0 : ZIs := [(0, ev_189), (1, ev_376), (4, ev_190), (5, ev_1318), (8, ev_785), (11, ev_189), (12, ev_7), (13, ev_725), (16, ev_190), (17, ev_167), (18, ev_223), (19, ev_1313), (22, ev_1314), (25, ev_1306), (28, ev_189), (29, ev_30)]
noncomputable def zi_284_1 : ZIs := [(30, ev_754), (33, ev_190), (34, ev_167), (35, ev_223), (36, ev_1315), (39, ev_1314), (42, ev_220), (45, ev_7), (46, ev_222), (49, ev_10), (50, ev_11), (52, ev_13), (53, ev_13), (54, ev_184), (55, ev_1321), (58, ev_647)]
noncomputable def zi_284_2 : ZIs := [(61, ev_12), (63, ev_220), (66, ev_7), (67, ev_222), (70, ev_10), (71, ev_13), (72, ev_1291), (75, ev_763), (78, ev_654), (81, ev_7), (82, ev_222), (85, ev_10), (86, ev_1285), (89, ev_298), (92, ev_10), (93, ev_81)]
noncomputable def zi_284_3 : ZIs := [(94, ev_189), (95, ev_394), (98, ev_13), (99, ev_1037), (102, ev_184), (103, ev_18), (104, ev_1322), (107, ev_189), (108, ev_7), (109, ev_688), (112, ev_13), (113, ev_463), (116, ev_184), (117, ev_18), (118, ev_187), (121, ev_13)]
noncomputable def zi_284_4 : ZIs := [(122, ev_429), (125, ev_184), (126, ev_18), (127, ev_25), (129, ev_13), (130, ev_31), (131, ev_184), (132, ev_189), (133, ev_190), (134, ev_10), (135, ev_10), (136, ev_10), (137, ev_1316), (140, ev_191), (142, ev_81)]
set_option maxRecDepth 100000 in
theorem xi_w284 : zall cX12_set [zi_284_0, zi_284_1, zi_284_2, zi_284_3, zi_284_4] := zall_w _ _ (by decide +kernel)
noncomputable def xi_284 (pc : Nat) : XIs := cond (Nat.blt pc 61) (cond (Nat.blt pc 30) (zx zi_284_0) (zx zi_284_1)) (cond (Nat.blt pc 94) (zx zi_284_2) (cond (Nat.blt pc 122) (zx zi_284_3) (zx zi_284_4)))
theorem xi_ok284 (pc : Nat) : xi_ok cX12_set (xi_284 pc) = true := xi_c (xi_c (zq1 xi_w284) (zq1 (zq2 xi_w284))) (xi_c (zq1 (zq2 (zq2 xi_w284))) (xi_c (zq1 (zq2 (zq2 (zq2 xi_w284)))) (zq1 (zq2 (zq2 (zq2 (zq2 xi_w284)))))))
noncomputable def zi_285_0 : ZIs := [(0, ev_13), (1, ev_13), (2, ev_184), (3, ev_1167), (6, ev_486), (9, ev_189), (10, ev_167), (11, ev_223), (12, ev_1315), (15, ev_1314), (18, ev_220), (21, ev_7), (22, ev_222), (25, ev_10), (26, ev_13), (27, ev_1291)]
noncomputable def zi_285_1 : ZIs := [(30, ev_763), (33, ev_654), (36, ev_7), (37, ev_222), (40, ev_10), (41, ev_1285), (44, ev_298), (47, ev_10), (48, ev_81), (49, ev_13), (50, ev_1296), (53, ev_184), (54, ev_18), (55, ev_289), (56, ev_13), (57, ev_32)]
noncomputable def zi_285_2 : ZIs := [(58, ev_184), (59, ev_189), (60, ev_10), (61, ev_10), (62, ev_10), (63, ev_10), (64, ev_1316), (67, ev_190), (68, ev_81)]
set_option maxRecDepth 100000 in
theorem xi_w285 : zall cX12_label [zi_285_0, zi_285_1, zi_285_2] := zall_w _ _ (by decide +kernel)
noncomputable def xi_285 (pc : Nat) : XIs := cond (Nat.blt pc 30) (zx zi_285_0) (cond (Nat.blt pc 58) (zx zi_285_1) (zx zi_285_2))
theorem xi_ok285 (pc : Nat) : xi_ok cX12_label (xi_285 pc) = true := xi_c (zq1 xi_w285) (xi_c (zq1 (zq2 xi_w285)) (zq1 (zq2 (zq2 xi_w285))))
noncomputable def zi_286_0 : ZIs := [(0, ev_13), (1, ev_184), (2, ev_167), (3, ev_1323), (6, ev_13), (7, ev_1291), (10, ev_167), (11, ev_1314), (14, ev_1174), (17, ev_298), (20, ev_10), (21, ev_81), (22, ev_13), (23, ev_184), (24, ev_1208), (27, ev_184)]
noncomputable def zi_286_1 : ZIs := [(28, ev_1324), (31, ev_13), (32, ev_1297), (35, ev_7), (36, ev_10), (37, ev_293), (38, ev_10), (39, ev_288), (40, ev_189), (41, ev_527), (44, ev_684), (47, ev_13), (48, ev_1288), (51, ev_527), (54, ev_189), (55, ev_22)]
noncomputable def zi_286_2 : ZIs := [(56, ev_10), (57, ev_1299), (58, ev_299), (61, ev_1325), (64, ev_10), (65, ev_288), (66, ev_189), (67, ev_184), (68, ev_1153), (71, ev_13), (72, ev_189), (73, ev_7), (74, ev_1293), (77, ev_299), (80, ev_1154), (83, ev_13)]
noncomputable def zi_286_3 : ZIs := [(84, ev_1295), (87, ev_184), (88, ev_1326), (91, ev_13), (92, ev_1291), (95, ev_222), (98, ev_184), (99, ev_81)]
set_option maxRecDepth 100000 in
theorem xi_w286 : zall cX12_view [zi_286_0, zi_286_1, zi_286_2, zi_286_3] := zall_w _ _ (by decide +kernel)
noncomputable def xi_286 (pc : Nat) : XIs := cond (Nat.blt pc 56) (cond (Nat.blt pc 28) (zx zi_286_0) (zx zi_286_1)) (cond (Nat.blt pc 84) (zx zi_286_2) (zx zi_286_3))
theorem xi_ok286 (pc : Nat) : xi_ok cX12_view (xi_286 pc) = true := xi_c (xi_c (zq1 xi_w286) (zq1 (zq2 xi_w286))) (xi_c (zq1 (zq2 (zq2 xi_w286))) (zq1 (zq2 (zq2 (zq2 xi_w286)))))
noncomputable def zi_287_0 : ZIs := [(0, ev_13), (1, ev_10), (2, ev_1283), (5, ev_13), (6, ev_1291), (9, ev_81)]
set_option maxRecDepth 100000 in
theorem xi_w287 : zall cX12_version [zi_287_0] := zall_w _ _ (by decide +kernel)
noncomputable def xi_287 (pc : Nat) : XIs := zx zi_287_0
theorem xi_ok287 (pc : Nat) : xi_ok cX12_version (xi_287 pc) = true := zq1 xi_w287
noncomputable def zi_288_0 : ZIs := [(0, ev_13), (1, ev_1288), (4, ev_13), (5, ev_1289), (8, ev_184), (9, ev_22), (10, ev_1290), (11, ev_1327), (14, ev_13), (15, ev_1300), (18, ev_13), (19, ev_1289), (22, ev_184), (23, ev_22), (24, ev_18), (25, ev_13)]
noncomputable def zi_288_1 : ZIs := [(26, ev_1036), (29, ev_13), (30, ev_1289), (33, ev_184), (34, ev_22), (35, ev_18), (36, ev_679), (39, ev_7), (40, ev_222), (43, ev_10), (44, ev_81)]
set_option maxRecDepth 100000 in
theorem xi_w288 : zall cX12_isJoint [zi_288_0, zi_288_1] := zall_w _ _ (by decide +kernel)
noncomputable def xi_288 (pc : Nat) : XIs := cond (Nat.blt pc 26) (zx zi_288_0) (zx zi_288_1)
theorem xi_ok288 (pc : Nat) : xi_ok cX12_isJoint (xi_288 pc) = true := xi_c (zq1 xi_w288) (zq1 (zq2 xi_w288))
noncomputable def zi_289_0 : ZIs := [(0, ev_13), (1, ev_184), (2, ev_167), (3, ev_223), (4, ev_1328), (7, ev_1314), (10, ev_1174), (13, ev_298), (16, ev_10), (17, ev_81), (18, ev_10), (19, ev_288), (20, ev_10), (21, ev_289), (22, ev_245), (23, ev_11)]
noncomputable def zi_289_1 : ZIs := [(25, ev_10), (26, ev_25), (28, ev_191), (30, ev_527), (33, ev_447), (36, ev_189), (37, ev_13), (38, ev_1288), (41, ev_13), (42, ev_1289), (45, ev_191), (47, ev_22), (48, ev_1290), (49, ev_220), (52, ev_7), (53, ev_222)]
noncomputable def zi_289_2 : ZIs := [(56, ev_10), (57, ev_22), (58, ev_288), (59, ev_190), (60, ev_13), (61, ev_191), (63, ev_1177), (66, ev_220), (69, ev_7), (70, ev_222), (73, ev_10), (74, ev_22), (75, ev_289), (76, ev_13), (77, ev_1288), (80, ev_13)]
noncomputable def zi_289_3 : ZIs := [(81, ev_1289), (84, ev_191), (86, ev_22), (87, ev_1290), (88, ev_325), (91, ev_191), (93, ev_636), (96, ev_12), (98, ev_11), (100, ev_338), (103, ev_842), (106, ev_184), (107, ev_376), (110, ev_13), (111, ev_1286), (114, ev_1322)]
noncomputable def zi_289_4 : ZIs := [(117, ev_184), (118, ev_7), (119, ev_816), (122, ev_189), (123, ev_1175), (126, ev_184), (127, ev_30), (128, ev_816), (131, ev_190), (132, ev_636), (135, ev_12), (137, ev_81)]
set_option maxRecDepth 100000 in
theorem xi_w289 : zall cX12_size [zi_289_0, zi_289_1, zi_289_2, zi_289_3, zi_289_4] := zall_w _ _ (by decide +kernel)
noncomputable def xi_289 (pc : Nat) : XIs := cond (Nat.blt pc 56) (cond (Nat.blt pc 25) (zx zi_289_0) (zx zi_289_1)) (cond (Nat.blt pc 81) (zx zi_289_2) (cond (Nat.blt pc 117) (zx zi_289_3) (zx zi_289_4)))
theorem xi_ok289 (pc : Nat) : xi_ok cX12_size (xi_289 pc) = true := xi_c (xi_c (zq1 xi_w289) (zq1 (zq2 xi_w289))) (xi_c (zq1 (zq2 (zq2 xi_w289))) (xi_c (zq1 (zq2 (zq2 (zq2 xi_w289)))) (zq1 (zq2 (zq2 (zq2 (zq2 xi_w289)))))))
noncomputable def zi_290_0 : ZIs := [(0, ev_13), (1, ev_184), (2, ev_167), (3, ev_223), (4, ev_1329), (7, ev_1314), (10, ev_486), (13, ev_189), (14, ev_167), (15, ev_223), (16, ev_1330), (19, ev_1314), (22, ev_220), (25, ev_7), (26, ev_222), (29, ev_10)]
noncomputable def zi_290_1 : ZIs := [(30, ev_1174), (33, ev_298), (36, ev_223), (37, ev_479), (38, ev_13), (39, ev_1289), (42, ev_184), (43, ev_22), (44, ev_289), (45, ev_13), (46, ev_1288), (49, ev_190), (50, ev_1290), (51, ev_321), (54, ev_1331), (57, ev_479)]
noncomputable def zi_290_2 : ZIs := [(58, ev_189), (59, ev_1131), (62, ev_13), (63, ev_1300), (66, ev_190), (67, ev_18), (68, ev_167), (69, ev_1332), (72, ev_189), (73, ev_7), (74, ev_925), (77, ev_13), (78, ev_1036), (81, ev_190), (82, ev_18), (83, ev_167)]
noncomputable def zi_290_3 : ZIs := [(84, ev_1305), (87, ev_189), (88, ev_30), (89, ev_925), (92, ev_13), (93, ev_1037), (96, ev_190), (97, ev_18), (98, ev_167), (99, ev_1306), (102, ev_189), (103, ev_31), (104, ev_925), (107, ev_13), (108, ev_463), (111, ev_190)]
noncomputable def zi_290_4 : ZIs := [(112, ev_18), (113, ev_167), (114, ev_631), (117, ev_13), (118, ev_429), (121, ev_190), (122, ev_18), (123, ev_167), (124, ev_479)]
set_option maxRecDepth 100000 in
theorem xi_w290 : zall cX12_told [zi_290_0, zi_290_1, zi_290_2, zi_290_3, zi_290_4] := zall_w _ _ (by decide +kernel)
noncomputable def xi_290 (pc : Nat) : XIs := cond (Nat.blt pc 58) (cond (Nat.blt pc 30) (zx zi_290_0) (zx zi_290_1)) (cond (Nat.blt pc 84) (zx zi_290_2) (cond (Nat.blt pc 112) (zx zi_290_3) (zx zi_290_4)))
theorem xi_ok290 (pc : Nat) : xi_ok cX12_told (xi_290 pc) = true := xi_c (xi_c (zq1 xi_w290) (zq1 (zq2 xi_w290))) (xi_c (zq1 (zq2 (zq2 xi_w290))) (xi_c (zq1 (zq2 (zq2 (zq2 xi_w290)))) (zq1 (zq2 (zq2 (zq2 (zq2 xi_w290)))))))
noncomputable def zi_291_0 : ZIs := [(0, ev_13), (1, ev_13), (2, ev_184), (3, ev_1333), (6, ev_1174), (9, ev_220), (12, ev_10), (13, ev_786), (16, ev_13), (17, ev_1296), (20, ev_168), (22, ev_13), (23, ev_1159), (26, ev_350), (27, ev_184), (28, ev_22)]
noncomputable def zi_291_1 : ZIs := [(29, ev_18), (30, ev_81)]
set_option maxRecDepth 100000 in
theorem xi_w291 : zall cX12_labelOf [zi_291_0, zi_291_1] := zall_w _ _ (by decide +kernel)
noncomputable def xi_291 (pc : Nat) : XIs := cond (Nat.blt pc 29) (zx zi_291_0) (zx zi_291_1)
theorem xi_ok291 (pc : Nat) : xi_ok cX12_labelOf (xi_291 pc) = true := xi_c (zq1 xi_w291) (zq1 (zq2 xi_w291))
noncomputable def zi_292_0 : ZIs := [(0, ev_13), (1, ev_13), (2, ev_184), (3, ev_1333), (6, ev_328), (9, ev_189), (10, ev_167), (11, ev_223), (12, ev_221), (13, ev_1314), (16, ev_929), (19, ev_190), (20, ev_829), (23, ev_7), (24, ev_222), (27, ev_10)]
noncomputable def zi_292_1 : ZIs := [(28, ev_1174), (31, ev_298), (34, ev_10), (35, ev_81), (36, ev_10), (37, ev_11), (39, ev_10), (40, ev_25), (42, ev_191), (44, ev_527), (47, ev_1334), (50, ev_13), (51, ev_1288), (54, ev_13), (55, ev_1289), (58, ev_191)]
noncomputable def zi_292_2 : ZIs := [(60, ev_22), (61, ev_1290), (62, ev_1335), (65, ev_189), (66, ev_1303), (69, ev_13), (70, ev_1300), (73, ev_13), (74, ev_1289), (77, ev_191), (79, ev_22), (80, ev_18), (81, ev_435), (84, ev_13), (85, ev_1036), (88, ev_13)]
noncomputable def zi_292_3 : ZIs := [(89, ev_1289), (92, ev_191), (94, ev_22), (95, ev_18), (96, ev_184), (97, ev_725), (100, ev_12), (102, ev_190), (103, ev_772), (106, ev_191), (108, ev_81), (109, ev_343), (112, ev_338), (115, ev_1336), (118, ev_245), (119, ev_81)]
set_option maxRecDepth 100000 in
theorem xi_w292 : zall cX12_arcAt [zi_292_0, zi_292_1, zi_292_2, zi_292_3] := zall_w _ _ (by decide +kernel)
noncomputable def xi_292 (pc : Nat) : XIs := cond (Nat.blt pc 60) (cond (Nat.blt pc 28) (zx zi_292_0) (zx zi_292_1)) (cond (Nat.blt pc 89) (zx zi_292_2) (zx zi_292_3))
theorem xi_ok292 (pc : Nat) : xi_ok cX12_arcAt (xi_292 pc) = true := xi_c (xi_c (zq1 xi_w292) (zq1 (zq2 xi_w292))) (xi_c (zq1 (zq2 (zq2 xi_w292))) (zq1 (zq2 (zq2 (zq2 xi_w292)))))
noncomputable def zi_293_0 : ZIs := [(0, ev_13), (1, ev_184), (2, ev_167), (3, ev_1337), (6, ev_1338), (9, ev_1314), (12, ev_13), (13, ev_1189), (16, ev_801), (19, ev_654), (22, ev_7), (23, ev_222), (26, ev_10), (27, ev_1285), (30, ev_298), (33, ev_10)]
noncomputable def zi_293_1 : ZIs := [(34, ev_81), (35, ev_13), (36, ev_838), (39, ev_13), (40, ev_1189), (43, ev_184), (44, ev_293), (45, ev_13), (46, ev_1), (47, ev_1189), (50, ev_7), (51, ev_22), (52, ev_1339), (55, ev_13), (56, ev_1189), (59, ev_81)]
set_option maxRecDepth 100000 in
theorem xi_w293 : zall cX12_type [zi_293_0, zi_293_1] := zall_w _ _ (by decide +kernel)
noncomputable def xi_293 (pc : Nat) : XIs := cond (Nat.blt pc 34) (zx zi_293_0) (zx zi_293_1)
theorem xi_ok293 (pc : Nat) : xi_ok cX12_type (xi_293 pc) = true := xi_c (zq1 xi_w293) (zq1 (zq2 xi_w293))
noncomputable def zi_294_0 : ZIs := [(0, ev_13), (1, ev_10), (2, ev_1283), (5, ev_13), (6, ev_1189), (9, ev_683), (10, ev_13), (11, ev_10), (12, ev_1339), (15, ev_184), (16, ev_81)]
set_option maxRecDepth 100000 in
theorem xi_w294 : zall cX12_wipe [zi_294_0] := zall_w _ _ (by decide +kernel)
noncomputable def xi_294 (pc : Nat) : XIs := zx zi_294_0
theorem xi_ok294 (pc : Nat) : xi_ok cX12_wipe (xi_294 pc) = true := zq1 xi_w294
noncomputable def zi_295_0 : ZIs := [(0, ev_13), (1, ev_184), (2, ev_167), (3, ev_223), (4, ev_221), (5, ev_1314), (8, ev_1174), (11, ev_298), (14, ev_10), (15, ev_81), (16, ev_13), (17, ev_1340), (20, ev_321), (23, ev_245), (24, ev_1341), (27, ev_184)]
noncomputable def zi_295_1 : ZIs := [(28, ev_376), (31, ev_13), (32, ev_1340), (35, ev_205), (38, ev_13), (39, ev_1342), (42, ev_81)]
set_option maxRecDepth 100000 in
theorem xi_w295 : zall cX12_fault [zi_295_0, zi_295_1] := zall_w _ _ (by decide +kernel)
noncomputable def xi_295 (pc : Nat) : XIs := cond (Nat.blt pc 28) (zx zi_295_0) (zx zi_295_1)
theorem xi_ok295 (pc : Nat) : xi_ok cX12_fault (xi_295 pc) = true := xi_c (zq1 xi_w295) (zq1 (zq2 xi_w295))
noncomputable def zi_296_0 : ZIs := [(0, ev_480), (1, ev_417), (3, ev_409), (6, ev_480), (7, ev_883), (9, ev_884), (12, ev_7), (13, ev_222), (16, ev_10), (17, ev_81)]
set_option maxRecDepth 100000 in
theorem xi_w296 : zall cX12_isLetter [zi_296_0] := zall_w _ _ (by decide +kernel)
noncomputable def xi_296 (pc : Nat) : XIs := zx zi_296_0
theorem xi_ok296 (pc : Nat) : xi_ok cX12_isLetter (xi_296 pc) = true := zq1 xi_w296
noncomputable def zi_297_0 : ZIs := [(0, ev_480), (1, ev_933), (3, ev_409), (6, ev_480), (7, ev_935), (9, ev_884), (12, ev_7), (13, ev_222), (16, ev_10), (17, ev_81)]
set_option maxRecDepth 100000 in
theorem xi_w297 : zall cX12_isDigit [zi_297_0] := zall_w _ _ (by decide +kernel)
noncomputable def xi_297 (pc : Nat) : XIs := zx zi_297_0
theorem xi_ok297 (pc : Nat) : xi_ok cX12_isDigit (xi_297 pc) = true := zq1 xi_w297
noncomputable def zi_298_0 : ZIs := [(0, ev_13), (1, ev_1340), (4, ev_1131), (7, ev_13), (8, ev_184), (9, ev_1343), (12, ev_13), (13, ev_189), (14, ev_1344), (17, ev_253)]
set_option maxRecDepth 100000 in
theorem xi_w298 : zall cX12_blame [zi_298_0] := zall_w _ _ (by decide +kernel)
noncomputable def xi_298 (pc : Nat) : XIs := zx zi_298_0
theorem xi_ok298 (pc : Nat) : xi_ok cX12_blame (xi_298 pc) = true := zq1 xi_w298
noncomputable def zi_299_0 : ZIs := [(0, ev_13), (1, ev_1345), (4, ev_13), (5, ev_1189), (8, ev_927), (11, ev_13), (12, ev_838), (15, ev_13), (16, ev_1345), (19, ev_18), (20, ev_168), (22, ev_536), (25, ev_13), (26, ev_1), (27, ev_1345), (30, ev_7)]
noncomputable def zi_299_1 : ZIs := [(31, ev_22), (32, ev_1346), (35, ev_287), (38, ev_13), (39, ev_13), (40, ev_1345), (43, ev_1347), (46, ev_13), (47, ev_1345), (50, ev_13), (51, ev_1189), (54, ev_405), (57, ev_13), (58, ev_10), (59, ev_1348), (62, ev_253)]
noncomputable def zi_299_2 : ZIs := [(63, ev_13), (64, ev_838), (67, ev_13), (68, ev_1345), (71, ev_18), (72, ev_683), (73, ev_13), (74, ev_184), (75, ev_1349), (78, ev_184), (79, ev_395), (81, ev_1350), (84, ev_13), (85, ev_1345), (88, ev_7), (89, ev_22)]
noncomputable def zi_299_3 : ZIs := [(90, ev_13), (91, ev_1189), (94, ev_296), (97, ev_13), (98, ev_838), (101, ev_13), (102, ev_1345), (105, ev_7), (106, ev_22), (107, ev_18), (108, ev_1195), (111, ev_220), (114, ev_7), (115, ev_222), (118, ev_10), (119, ev_288)]
noncomputable def zi_299_4 : ZIs := [(120, ev_184), (121, ev_1195), (124, ev_321), (127, ev_189), (128, ev_1351), (131, ev_13), (132, ev_30), (133, ev_1348), (136, ev_13), (137, ev_1), (138, ev_1345), (141, ev_189), (142, ev_220), (145, ev_7), (146, ev_222), (149, ev_10)]
noncomputable def zi_299_5 : ZIs := [(150, ev_22), (151, ev_1346), (154, ev_13), (155, ev_466), (157, ev_1352), (160, ev_13), (161, ev_189), (162, ev_929), (165, ev_13), (166, ev_1353), (169, ev_474), (170, ev_205), (173, ev_13), (174, ev_1353), (177, ev_1354), (180, ev_253)]
noncomputable def zi_299_6 : ZIs := [(181, ev_13), (182, ev_184), (183, ev_1355), (186, ev_220), (189, ev_7), (190, ev_222), (193, ev_31), (194, ev_1348), (197, ev_13), (198, ev_1356), (201, ev_31), (202, ev_753), (205, ev_184), (206, ev_374), (208, ev_1357), (211, ev_13)]
noncomputable def zi_299_7 : ZIs := [(212, ev_7), (213, ev_13), (214, ev_1358), (217, ev_1359), (220, ev_13), (221, ev_1), (222, ev_1345), (225, ev_7), (226, ev_22), (227, ev_1346), (230, ev_253)]
set_option maxRecDepth 100000 in
theorem xi_w299 : zall cX12_nextToken [zi_299_0, zi_299_1, zi_299_2, zi_299_3, zi_299_4, zi_299_5, zi_299_6, zi_299_7] := zall_w _ _ (by decide +kernel)
noncomputable def xi_299 (pc : Nat) : XIs := cond (Nat.blt pc 120) (cond (Nat.blt pc 63) (cond (Nat.blt pc 31) (zx zi_299_0) (zx zi_299_1)) (cond (Nat.blt pc 90) (zx zi_299_2) (zx zi_299_3))) (cond (Nat.blt pc 181) (cond (Nat.blt pc 150) (zx zi_299_4) (zx zi_299_5)) (cond (Nat.blt pc 212) (zx zi_299_6) (zx zi_299_7)))
theorem xi_ok299 (pc : Nat) : xi_ok cX12_nextToken (xi_299 pc) = true := xi_c (xi_c (xi_c (zq1 xi_w299) (zq1 (zq2 xi_w299))) (xi_c (zq1 (zq2 (zq2 xi_w299))) (zq1 (zq2 (zq2 (zq2 xi_w299)))))) (xi_c (xi_c (zq1 (zq2 (zq2 (zq2 (zq2 xi_w299))))) (zq1 (zq2 (zq2 (zq2 (zq2 (zq2 xi_w299))))))) (xi_c (zq1 (zq2 (zq2 (zq2 (zq2 (zq2 (zq2 xi_w299))))))) (zq1 (zq2 (zq2 (zq2 (zq2 (zq2 (zq2 (zq2 xi_w299))))))))))
noncomputable def zi_300_0 : ZIs := [(0, ev_13), (1, ev_1345), (4, ev_288), (5, ev_13), (6, ev_223), (7, ev_1354), (10, ev_13), (11, ev_1345), (14, ev_13), (15, ev_1189), (18, ev_944), (21, ev_13), (22, ev_838), (25, ev_13), (26, ev_1345), (29, ev_18)]
noncomputable def zi_300_1 : ZIs := [(30, ev_1195), (33, ev_1360), (36, ev_13), (37, ev_13), (38, ev_1345), (41, ev_189), (42, ev_16), (43, ev_184), (44, ev_861), (47, ev_1361), (50, ev_13), (51, ev_1353), (54, ev_490), (55, ev_13), (56, ev_838), (59, ev_13)]
noncomputable def zi_300_2 : ZIs := [(60, ev_1345), (63, ev_18), (64, ev_167), (65, ev_455), (66, ev_1362), (69, ev_483), (70, ev_205), (73, ev_13), (74, ev_1353), (77, ev_1354), (80, ev_13), (81, ev_1), (82, ev_1345), (85, ev_7), (86, ev_22), (87, ev_1346)]
noncomputable def zi_300_3 : ZIs := [(90, ev_337), (93, ev_13), (94, ev_1345), (97, ev_189), (98, ev_16), (99, ev_184), (100, ev_1363), (103, ev_13), (104, ev_184), (105, ev_466), (107, ev_816), (110, ev_31), (111, ev_222), (114, ev_32), (115, ev_13), (116, ev_1358)]
noncomputable def zi_300_4 : ZIs := [(119, ev_1359), (122, ev_253)]
set_option maxRecDepth 100000 in
theorem xi_w300 : zall cX12_readNumber [zi_300_0, zi_300_1, zi_300_2, zi_300_3, zi_300_4] := zall_w _ _ (by decide +kernel)
noncomputable def xi_300 (pc : Nat) : XIs := cond (Nat.blt pc 60) (cond (Nat.blt pc 30) (zx zi_300_0) (zx zi_300_1)) (cond (Nat.blt pc 90) (zx zi_300_2) (cond (Nat.blt pc 119) (zx zi_300_3) (zx zi_300_4)))
theorem xi_ok300 (pc : Nat) : xi_ok cX12_readNumber (xi_300 pc) = true := xi_c (xi_c (zq1 xi_w300) (zq1 (zq2 xi_w300))) (xi_c (zq1 (zq2 (zq2 xi_w300))) (xi_c (zq1 (zq2 (zq2 (zq2 xi_w300)))) (zq1 (zq2 (zq2 (zq2 (zq2 xi_w300)))))))
noncomputable def zi_301_0 : ZIs := [(0, ev_184)]
noncomputable def xi_301_1 : XIs := [(1, .lookupswitch 76 #[(97, 45), (110, 35), (116, 65)], 35)]
set_option maxRecDepth 100000 in
theorem xi_ok301_1 : xi_ok cX12_shape xi_301_1 = true := by decide +kernel
noncomputable def zi_301_2 : ZIs := [(36, ev_189), (37, ev_321), (40, ev_7), (41, ev_222), (44, ev_31), (45, ev_81), (46, ev_189), (47, ev_32), (48, ev_654), (51, ev_30), (52, ev_471), (55, ev_189), (56, ev_32), (57, ev_816), (60, ev_7), (61, ev_222)]
noncomputable def zi_301_3 : ZIs := [(64, ev_31), (65, ev_81), (66, ev_189), (67, ev_7), (68, ev_654), (71, ev_30), (72, ev_222), (75, ev_31), (76, ev_81), (77, ev_189), (78, ev_30), (79, ev_654), (82, ev_30), (83, ev_222), (86, ev_31), (87, ev_81)]
set_option maxRecDepth 100000 in
theorem xi_w301 : zall cX12_shape [zi_301_0, zi_301_2, zi_301_3] := zall_w _ _ (by decide +kernel)
noncomputable def xi_301 (pc : Nat) : XIs := cond (Nat.blt pc 36) (cond (Nat.blt pc 1) (zx zi_301_0) (xi_301_1)) (cond (Nat.blt pc 64) (zx zi_301_2) (zx zi_301_3))
theorem xi_ok301 (pc : Nat) : xi_ok cX12_shape (xi_301 pc) = true := xi_c (xi_c (zq1 xi_w301) (xi_ok301_1)) (xi_c (zq1 (zq2 xi_w301)) (zq1 (zq2 (zq2 xi_w301))))
noncomputable def zi_302_0 : ZIs := [(0, ev_13), (1, ev_10), (2, ev_1283), (5, ev_13), (6, ev_10), (7, ev_1343), (10, ev_13), (11, ev_10), (12, ev_1364), (15, ev_13), (16, ev_10), (17, ev_1346), (20, ev_13), (21, ev_1365), (24, ev_13), (25, ev_1366)]
noncomputable def zi_302_1 : ZIs := [(28, ev_13), (29, ev_1356), (32, ev_615), (35, ev_13), (36, ev_1340), (39, ev_1367), (42, ev_13), (43, ev_1368), (46, ev_13), (47, ev_1340), (50, ev_1369), (53, ev_13), (54, ev_1366), (57, ev_851), (60, ev_13), (61, ev_1340)]
noncomputable def zi_302_2 : ZIs := [(64, ev_1370), (67, ev_806), (69, ev_81), (70, ev_10), (71, ev_683), (72, ev_184), (73, ev_13), (74, ev_1371), (77, ev_1372), (80, ev_33), (81, ev_184), (82, ev_350), (83, ev_288), (84, ev_13), (85, ev_1012), (88, ev_184)]
noncomputable def zi_302_3 : ZIs := [(89, ev_18)]
noncomputable def xi_302_4 : XIs := [(90, .lookupswitch 123 #[(97, 53), (110, 34), (116, 104)], 34)]
set_option maxRecDepth 100000 in
theorem xi_ok302_4 : xi_ok cX12_load xi_302_4 = true := by decide +kernel
noncomputable def zi_302_5 : ZIs := [(124, ev_13), (125, ev_10), (126, ev_13), (127, ev_958), (130, ev_189), (131, ev_18), (132, ev_10), (133, ev_10), (134, ev_10), (135, ev_10), (136, ev_10), (137, ev_1316), (140, ev_1373), (143, ev_13), (144, ev_7), (145, ev_13)]
noncomputable def zi_302_6 : ZIs := [(146, ev_10), (147, ev_1320), (150, ev_13), (151, ev_958), (154, ev_189), (155, ev_18), (156, ev_13), (157, ev_958), (160, ev_189), (161, ev_7), (162, ev_22), (163, ev_18), (164, ev_13), (165, ev_958), (168, ev_189), (169, ev_30)]
noncomputable def zi_302_7 : ZIs := [(170, ev_22), (171, ev_18), (172, ev_13), (173, ev_958), (176, ev_189), (177, ev_31), (178, ev_22), (179, ev_18), (180, ev_13), (181, ev_958), (184, ev_189), (185, ev_32), (186, ev_22), (187, ev_18), (188, ev_1316), (191, ev_1374)]
noncomputable def zi_302_8 : ZIs := [(194, ev_13), (195, ev_30), (196, ev_13), (197, ev_958), (200, ev_189), (201, ev_18), (202, ev_10), (203, ev_10), (204, ev_10), (205, ev_10), (206, ev_10), (207, ev_1316), (210, ev_1375), (213, ev_13), (214, ev_31), (215, ev_13)]
noncomputable def zi_302_9 : ZIs := [(216, ev_958), (219, ev_189), (220, ev_18), (221, ev_10), (222, ev_13), (223, ev_958), (226, ev_189), (227, ev_7), (228, ev_22), (229, ev_18), (230, ev_10), (231, ev_10), (232, ev_10), (233, ev_1316), (236, ev_686), (239, ev_1376)]
noncomputable def zi_302_10 : ZIs := [(242, ev_13), (243, ev_1371), (246, ev_81)]
set_option maxRecDepth 100000 in
theorem xi_w302 : zall cX12_load [zi_302_0, zi_302_1, zi_302_2, zi_302_3, zi_302_5, zi_302_6, zi_302_7, zi_302_8, zi_302_9, zi_302_10] := zall_w _ _ (by decide +kernel)
noncomputable def xi_302 (pc : Nat) : XIs := cond (Nat.blt pc 124) (cond (Nat.blt pc 64) (cond (Nat.blt pc 28) (zx zi_302_0) (zx zi_302_1)) (cond (Nat.blt pc 89) (zx zi_302_2) (cond (Nat.blt pc 90) (zx zi_302_3) (xi_302_4)))) (cond (Nat.blt pc 194) (cond (Nat.blt pc 146) (zx zi_302_5) (cond (Nat.blt pc 170) (zx zi_302_6) (zx zi_302_7))) (cond (Nat.blt pc 216) (zx zi_302_8) (cond (Nat.blt pc 242) (zx zi_302_9) (zx zi_302_10))))
theorem xi_ok302 (pc : Nat) : xi_ok cX12_load (xi_302 pc) = true := xi_c (xi_c (xi_c (zq1 xi_w302) (zq1 (zq2 xi_w302))) (xi_c (zq1 (zq2 (zq2 xi_w302))) (xi_c (zq1 (zq2 (zq2 (zq2 xi_w302)))) (xi_ok302_4)))) (xi_c (xi_c (zq1 (zq2 (zq2 (zq2 (zq2 xi_w302))))) (xi_c (zq1 (zq2 (zq2 (zq2 (zq2 (zq2 xi_w302)))))) (zq1 (zq2 (zq2 (zq2 (zq2 (zq2 (zq2 xi_w302))))))))) (xi_c (zq1 (zq2 (zq2 (zq2 (zq2 (zq2 (zq2 (zq2 xi_w302)))))))) (xi_c (zq1 (zq2 (zq2 (zq2 (zq2 (zq2 (zq2 (zq2 (zq2 xi_w302))))))))) (zq1 (zq2 (zq2 (zq2 (zq2 (zq2 (zq2 (zq2 (zq2 (zq2 xi_w302)))))))))))))
noncomputable def zi_303_0 : ZIs := [(0, ev_13), (1, ev_1297), (4, ev_30), (5, ev_13), (6, ev_1297), (9, ev_10), (10, ev_18), (11, ev_293), (12, ev_10), (13, ev_683), (14, ev_184), (15, ev_527), (18, ev_941), (21, ev_13), (22, ev_1288), (25, ev_1377)]
noncomputable def zi_303_1 : ZIs := [(28, ev_184), (29, ev_22), (30, ev_13), (31, ev_1288), (34, ev_184), (35, ev_1290), (36, ev_1299), (37, ev_686), (40, ev_560), (43, ev_253)]
set_option maxRecDepth 100000 in
theorem xi_w303 : zall cX12_copyGraph [zi_303_0, zi_303_1] := zall_w _ _ (by decide +kernel)
noncomputable def xi_303 (pc : Nat) : XIs := cond (Nat.blt pc 28) (zx zi_303_0) (zx zi_303_1)
theorem xi_ok303 (pc : Nat) : xi_ok cX12_copyGraph (xi_303 pc) = true := xi_c (zq1 xi_w303) (zq1 (zq2 xi_w303))
noncomputable def zi_304_0 : ZIs := [(0, ev_13), (1, ev_1358), (4, ev_683), (5, ev_13), (6, ev_1378), (9, ev_288), (10, ev_13), (11, ev_1356), (14, ev_7), (15, ev_969), (18, ev_189), (19, ev_942), (21, ev_983), (24, ev_189), (25, ev_417), (27, ev_1379)]
noncomputable def zi_304_1 : ZIs := [(30, ev_189), (31, ev_1380), (33, ev_696), (36, ev_189), (37, ev_1381), (39, ev_1382), (42, ev_13), (43, ev_30), (44, ev_13), (45, ev_1358), (48, ev_1359), (51, ev_253), (52, ev_10), (53, ev_289), (54, ev_7), (55, ev_11)]
noncomputable def zi_304_2 : ZIs := [(57, ev_12), (59, ev_1383), (62, ev_13), (63, ev_1340), (66, ev_1384), (69, ev_13), (70, ev_1366), (73, ev_13), (74, ev_189), (75, ev_190), (76, ev_1385), (79, ev_25), (81, ev_13), (82, ev_1340), (85, ev_1386), (88, ev_13)]
noncomputable def zi_304_3 : ZIs := [(89, ev_1356), (92, ev_191), (94, ev_753), (97, ev_191), (99, ev_31), (100, ev_1387), (103, ev_13), (104, ev_1378), (107, ev_374), (109, ev_1357), (112, ev_13), (113, ev_30), (114, ev_13), (115, ev_1358), (118, ev_1359), (121, ev_191)]
noncomputable def zi_304_4 : ZIs := [(123, ev_31), (124, ev_679), (127, ev_7), (128, ev_222), (131, ev_10), (132, ev_11), (134, ev_13), (135, ev_1340), (138, ev_1388), (141, ev_12), (143, ev_865), (146, ev_13), (147, ev_958), (150, ev_33), (151, ev_13), (152, ev_1371)]
noncomputable def zi_304_5 : ZIs := [(155, ev_350), (156, ev_190), (157, ev_22), (158, ev_191), (160, ev_7), (161, ev_925), (164, ev_13), (165, ev_1378), (168, ev_417), (170, ev_16), (171, ev_984), (174, ev_13), (175, ev_1353), (178, ev_989), (179, ev_293), (180, ev_294)]
noncomputable def zi_304_6 : ZIs := [(183, ev_1389), (186, ev_13), (187, ev_1340), (190, ev_1390), (193, ev_13), (194, ev_1012), (197, ev_13), (198, ev_1371), (201, ev_189), (202, ev_293), (203, ev_13), (204, ev_189), (205, ev_33), (206, ev_13), (207, ev_1371), (210, ev_350)]
noncomputable def zi_304_7 : ZIs := [(211, ev_1391), (214, ev_388), (217, ev_13), (218, ev_1291), (221, ev_13), (222, ev_1371), (225, ev_22), (226, ev_763), (229, ev_1392), (232, ev_13), (233, ev_32), (234, ev_184), (235, ev_1359), (238, ev_13), (239, ev_1), (240, ev_1371)]
noncomputable def zi_304_8 : ZIs := [(243, ev_7), (244, ev_22), (245, ev_1364), (248, ev_253)]
set_option maxRecDepth 100000 in
theorem xi_w304 : zall cX12_command [zi_304_0, zi_304_1, zi_304_2, zi_304_3, zi_304_4, zi_304_5, zi_304_6, zi_304_7, zi_304_8] := zall_w _ _ (by decide +kernel)
noncomputable def xi_304 (pc : Nat) : XIs := cond (Nat.blt pc 123) (cond (Nat.blt pc 57) (cond (Nat.blt pc 30) (zx zi_304_0) (zx zi_304_1)) (cond (Nat.blt pc 89) (zx zi_304_2) (zx zi_304_3))) (cond (Nat.blt pc 183) (cond (Nat.blt pc 155) (zx zi_304_4) (zx zi_304_5)) (cond (Nat.blt pc 211) (zx zi_304_6) (cond (Nat.blt pc 243) (zx zi_304_7) (zx zi_304_8))))
theorem xi_ok304 (pc : Nat) : xi_ok cX12_command (xi_304 pc) = true := xi_c (xi_c (xi_c (zq1 xi_w304) (zq1 (zq2 xi_w304))) (xi_c (zq1 (zq2 (zq2 xi_w304))) (zq1 (zq2 (zq2 (zq2 xi_w304)))))) (xi_c (xi_c (zq1 (zq2 (zq2 (zq2 (zq2 xi_w304))))) (zq1 (zq2 (zq2 (zq2 (zq2 (zq2 xi_w304))))))) (xi_c (zq1 (zq2 (zq2 (zq2 (zq2 (zq2 (zq2 xi_w304))))))) (xi_c (zq1 (zq2 (zq2 (zq2 (zq2 (zq2 (zq2 (zq2 xi_w304)))))))) (zq1 (zq2 (zq2 (zq2 (zq2 (zq2 (zq2 (zq2 (zq2 xi_w304))))))))))))
noncomputable def zi_305_0 : ZIs := [(0, ev_13), (1, ev_958), (4, ev_189), (5, ev_18), (6, ev_289), (7, ev_13), (8, ev_958), (11, ev_189), (12, ev_7), (13, ev_22), (14, ev_18), (15, ev_11), (17, ev_184)]
noncomputable def xi_305_1 : XIs := [(18, .lookupswitch 240 #[(97, 61), (110, 34), (116, 173)], 34)]
set_option maxRecDepth 100000 in
theorem xi_ok305_1 : xi_ok cX12_isDone xi_305_1 = true := by decide +kernel
noncomputable def zi_305_2 : ZIs := [(52, ev_13), (53, ev_1297), (56, ev_30), (57, ev_311), (58, ev_18), (59, ev_7), (60, ev_22), (61, ev_293), (62, ev_13), (63, ev_1297), (66, ev_30), (67, ev_18), (68, ev_168), (70, ev_884), (73, ev_7), (74, ev_222)]
noncomputable def zi_305_3 : ZIs := [(77, ev_10), (78, ev_81), (79, ev_13), (80, ev_30), (81, ev_1320), (84, ev_25), (86, ev_191), (88, ev_527), (91, ev_1393), (94, ev_190), (95, ev_167), (96, ev_223), (97, ev_13), (98, ev_1297), (101, ev_30), (102, ev_18)]
noncomputable def zi_305_4 : ZIs := [(103, ev_7), (104, ev_16), (105, ev_167), (106, ev_1314), (109, ev_348), (112, ev_12), (114, ev_167), (115, ev_223), (116, ev_13), (117, ev_1297), (120, ev_30), (121, ev_18), (122, ev_7), (123, ev_16), (124, ev_167), (125, ev_1314)]
noncomputable def zi_305_5 : ZIs := [(128, ev_865), (131, ev_13), (132, ev_958), (135, ev_189), (136, ev_30), (137, ev_22), (138, ev_18), (139, ev_1318), (142, ev_1168), (145, ev_13), (146, ev_958), (149, ev_189), (150, ev_31), (151, ev_22), (152, ev_18), (153, ev_167)]
noncomputable def zi_305_6 : ZIs := [(154, ev_223), (155, ev_1313), (158, ev_1314), (161, ev_220), (164, ev_7), (165, ev_222), (168, ev_10), (169, ev_28), (171, ev_265), (173, ev_769), (176, ev_13), (177, ev_1288), (180, ev_1377), (183, ev_191), (185, ev_22), (186, ev_7)]
noncomputable def zi_305_7 : ZIs := [(187, ev_1299), (188, ev_265), (190, ev_81), (191, ev_190), (192, ev_167), (193, ev_223), (194, ev_1329), (197, ev_1314), (200, ev_1394), (203, ev_13), (204, ev_1288), (207, ev_1377), (210, ev_190), (211, ev_167), (212, ev_223), (213, ev_1329)]
noncomputable def zi_305_8 : ZIs := [(216, ev_1314), (219, ev_220), (222, ev_190), (223, ev_222), (226, ev_10), (227, ev_22), (228, ev_1290), (229, ev_220), (232, ev_7), (233, ev_222), (236, ev_10), (237, ev_269), (239, ev_270), (241, ev_1002), (244, ev_13), (245, ev_1288)]
noncomputable def zi_305_9 : ZIs := [(248, ev_1377), (251, ev_190), (252, ev_22), (253, ev_10), (254, ev_1299), (255, ev_270), (257, ev_81), (258, ev_190), (259, ev_167), (260, ev_223), (261, ev_1329), (264, ev_1314), (267, ev_937), (270, ev_13), (271, ev_1288), (274, ev_1377)]
noncomputable def zi_305_10 : ZIs := [(277, ev_190), (278, ev_167), (279, ev_223), (280, ev_1329), (283, ev_1314), (286, ev_220), (289, ev_190), (290, ev_222), (293, ev_10), (294, ev_22), (295, ev_1290), (296, ev_769), (299, ev_12), (301, ev_1318), (304, ev_220), (307, ev_7)]
noncomputable def zi_305_11 : ZIs := [(308, ev_222), (311, ev_10), (312, ev_81)]
set_option maxRecDepth 100000 in
theorem xi_w305 : zall cX12_isDone [zi_305_0, zi_305_2, zi_305_3, zi_305_4, zi_305_5, zi_305_6, zi_305_7, zi_305_8, zi_305_9, zi_305_10, zi_305_11] := zall_w _ _ (by decide +kernel)
noncomputable def xi_305 (pc : Nat) : XIs := cond (Nat.blt pc 154) (cond (Nat.blt pc 77) (cond (Nat.blt pc 18) (zx zi_305_0) (cond (Nat.blt pc 52) (xi_305_1) (zx zi_305_2))) (cond (Nat.blt pc 103) (zx zi_305_3) (cond (Nat.blt pc 128) (zx zi_305_4) (zx zi_305_5)))) (cond (Nat.blt pc 248) (cond (Nat.blt pc 187) (zx zi_305_6) (cond (Nat.blt pc 216) (zx zi_305_7) (zx zi_305_8))) (cond (Nat.blt pc 277) (zx zi_305_9) (cond (Nat.blt pc 308) (zx zi_305_10) (zx zi_305_11))))
theorem xi_ok305 (pc : Nat) : xi_ok cX12_isDone (xi_305 pc) = true := xi_c (xi_c (xi_c (zq1 xi_w305) (xi_c (xi_ok305_1) (zq1 (zq2 xi_w305)))) (xi_c (zq1 (zq2 (zq2 xi_w305))) (xi_c (zq1 (zq2 (zq2 (zq2 xi_w305)))) (zq1 (zq2 (zq2 (zq2 (zq2 xi_w305)))))))) (xi_c (xi_c (zq1 (zq2 (zq2 (zq2 (zq2 (zq2 xi_w305)))))) (xi_c (zq1 (zq2 (zq2 (zq2 (zq2 (zq2 (zq2 xi_w305))))))) (zq1 (zq2 (zq2 (zq2 (zq2 (zq2 (zq2 (zq2 xi_w305)))))))))) (xi_c (zq1 (zq2 (zq2 (zq2 (zq2 (zq2 (zq2 (zq2 (zq2 xi_w305))))))))) (xi_c (zq1 (zq2 (zq2 (zq2 (zq2 (zq2 (zq2 (zq2 (zq2 (zq2 xi_w305)))))))))) (zq1 (zq2 (zq2 (zq2 (zq2 (zq2 (zq2 (zq2 (zq2 (zq2 (zq2 xi_w305))))))))))))))
noncomputable def zi_306_0 : ZIs := [(0, ev_13), (1, ev_843), (4, ev_13), (5, ev_1395), (8, ev_184), (9, ev_293), (10, ev_13), (11, ev_1), (12, ev_1395), (15, ev_7), (16, ev_22), (17, ev_1396), (20, ev_253)]
set_option maxRecDepth 100000 in
theorem xi_w306 : zall cX12_put [zi_306_0] := zall_w _ _ (by decide +kernel)
noncomputable def xi_306 (pc : Nat) : XIs := zx zi_306_0
theorem xi_ok306 (pc : Nat) : xi_ok cX12_put (xi_306 pc) = true := zq1 xi_w306
noncomputable def zi_307_0 : ZIs := [(0, ev_13), (1, ev_168), (3, ev_1397), (6, ev_184), (7, ev_948), (10, ev_13), (11, ev_395), (13, ev_1397), (16, ev_184), (17, ev_1398), (20, ev_184), (21, ev_305), (22, ev_222), (25, ev_184), (26, ev_288), (27, ev_7)]
noncomputable def zi_307_1 : ZIs := [(28, ev_289), (29, ev_189), (30, ev_190), (31, ev_580), (32, ev_408), (34, ev_1399), (37, ev_190), (38, ev_408), (40, ev_350), (41, ev_289), (42, ev_799), (45, ev_190), (46, ev_1400), (49, ev_13), (50, ev_933), (52, ev_189)]
noncomputable def zi_307_2 : ZIs := [(53, ev_190), (54, ev_580), (55, ev_408), (57, ev_506), (58, ev_22), (59, ev_1397), (62, ev_190), (63, ev_408), (65, ev_580), (66, ev_289), (67, ev_622), (70, ev_253)]
set_option maxRecDepth 100000 in
theorem xi_w307 : zall cX12_putNumber [zi_307_0, zi_307_1, zi_307_2] := zall_w _ _ (by decide +kernel)
noncomputable def xi_307 (pc : Nat) : XIs := cond (Nat.blt pc 28) (zx zi_307_0) (cond (Nat.blt pc 53) (zx zi_307_1) (zx zi_307_2))
theorem xi_ok307 (pc : Nat) : xi_ok cX12_putNumber (xi_307 pc) = true := xi_c (zq1 xi_w307) (xi_c (zq1 (zq2 xi_w307)) (zq1 (zq2 (zq2 xi_w307))))
noncomputable def zi_308_0 : ZIs := [(0, ev_13), (1, ev_10), (2, ev_1283), (5, ev_13), (6, ev_10), (7, ev_1396), (10, ev_10), (11, ev_683), (12, ev_184), (13, ev_13), (14, ev_1286), (17, ev_1401), (20, ev_13), (21, ev_942), (23, ev_1397), (26, ev_13)]
noncomputable def zi_308_1 : ZIs := [(27, ev_168), (29, ev_1397), (32, ev_13), (33, ev_417), (35, ev_13), (36, ev_1296), (39, ev_168), (41, ev_13), (42, ev_1159), (45, ev_350), (46, ev_184), (47, ev_22), (48, ev_18), (49, ev_22), (50, ev_1397), (53, ev_13)]
noncomputable def zi_308_2 : ZIs := [(54, ev_374), (56, ev_1397), (59, ev_686), (62, ev_1402), (65, ev_13), (66, ev_1289), (69, ev_683), (70, ev_184), (71, ev_13), (72, ev_1289), (75, ev_527), (78, ev_22), (79, ev_1403), (82, ev_13), (83, ev_1288), (86, ev_184)]
noncomputable def zi_308_3 : ZIs := [(87, ev_1290), (88, ev_1404), (91, ev_13), (92, ev_417), (94, ev_1397), (97, ev_13), (98, ev_13), (99, ev_1300), (102, ev_184), (103, ev_18), (104, ev_1405), (107, ev_13), (108, ev_13), (109, ev_1036), (112, ev_184), (113, ev_18)]
noncomputable def zi_308_4 : ZIs := [(114, ev_1405), (117, ev_13), (118, ev_13), (119, ev_1037), (122, ev_184), (123, ev_18), (124, ev_1405), (127, ev_13), (128, ev_13), (129, ev_463), (132, ev_184), (133, ev_18), (134, ev_1405), (137, ev_13), (138, ev_168), (140, ev_1397)]
noncomputable def zi_308_5 : ZIs := [(143, ev_13), (144, ev_417), (146, ev_13), (147, ev_429), (150, ev_184), (151, ev_18), (152, ev_22), (153, ev_1397), (156, ev_13), (157, ev_374), (159, ev_1397), (162, ev_686), (165, ev_954), (168, ev_13), (169, ev_1395), (172, ev_81)]
set_option maxRecDepth 100000 in
theorem xi_w308 : zall cX12_print [zi_308_0, zi_308_1, zi_308_2, zi_308_3, zi_308_4, zi_308_5] := zall_w _ _ (by decide +kernel)
noncomputable def xi_308 (pc : Nat) : XIs := cond (Nat.blt pc 87) (cond (Nat.blt pc 27) (zx zi_308_0) (cond (Nat.blt pc 54) (zx zi_308_1) (zx zi_308_2))) (cond (Nat.blt pc 114) (zx zi_308_3) (cond (Nat.blt pc 143) (zx zi_308_4) (zx zi_308_5)))
theorem xi_ok308 (pc : Nat) : xi_ok cX12_print (xi_308 pc) = true := xi_c (xi_c (zq1 xi_w308) (xi_c (zq1 (zq2 xi_w308)) (zq1 (zq2 (zq2 xi_w308))))) (xi_c (zq1 (zq2 (zq2 (zq2 xi_w308)))) (xi_c (zq1 (zq2 (zq2 (zq2 (zq2 xi_w308))))) (zq1 (zq2 (zq2 (zq2 (zq2 (zq2 xi_w308))))))))
noncomputable def zi_309_0 : ZIs := [(0, ev_13), (1, ev_184), (2, ev_676), (5, ev_184), (6, ev_13), (7, ev_1395), (10, ev_654), (13, ev_7), (14, ev_222), (17, ev_10), (18, ev_1174), (21, ev_220), (24, ev_10), (25, ev_187), (28, ev_13), (29, ev_843)]
noncomputable def zi_309_1 : ZIs := [(32, ev_184), (33, ev_18), (34, ev_81)]
set_option maxRecDepth 100000 in
theorem xi_w309 : zall cX12_printed [zi_309_0, zi_309_1] := zall_w _ _ (by decide +kernel)
noncomputable def xi_309 (pc : Nat) : XIs := cond (Nat.blt pc 32) (zx zi_309_0) (zx zi_309_1)
theorem xi_ok309 (pc : Nat) : xi_ok cX12_printed (xi_309 pc) = true := xi_c (zq1 xi_w309) (zq1 (zq2 xi_w309))
noncomputable def zi_310_0 : ZIs := [(0, ev_10), (1, ev_11), (3, ev_12), (5, ev_13), (6, ev_1286), (9, ev_927), (12, ev_13), (13, ev_956), (16, ev_12), (18, ev_12), (20, ev_190), (21, ev_816), (24, ev_10), (25, ev_205), (28, ev_7), (29, ev_12)]
noncomputable def zi_310_1 : ZIs := [(31, ev_271), (32, ev_293), (33, ev_343), (36, ev_859), (39, ev_10), (40, ev_11), (42, ev_12), (44, ev_527), (47, ev_320), (50, ev_13), (51, ev_1300), (54, ev_13), (55, ev_1289), (58, ev_12), (60, ev_22), (61, ev_18)]
noncomputable def zi_310_2 : ZIs := [(62, ev_25), (64, ev_13), (65, ev_1036), (68, ev_13), (69, ev_1289), (72, ev_12), (74, ev_22), (75, ev_18), (76, ev_28), (78, ev_13), (79, ev_1288), (82, ev_13), (83, ev_1289), (86, ev_12), (88, ev_22), (89, ev_1290)]
noncomputable def zi_310_3 : ZIs := [(90, ev_1406), (93, ev_12), (95, ev_189), (96, ev_1407), (99, ev_191), (101, ev_190), (102, ev_1408), (105, ev_265), (107, ev_190), (108, ev_1409), (111, ev_13), (112, ev_956), (115, ev_191), (117, ev_311), (118, ev_18), (119, ev_7)]
noncomputable def zi_310_4 : ZIs := [(120, ev_265), (122, ev_271), (123, ev_272), (124, ev_293), (125, ev_13), (126, ev_956), (129, ev_265), (131, ev_311), (132, ev_18), (133, ev_184), (134, ev_380), (137, ev_7), (138, ev_191), (140, ev_271), (141, ev_222), (144, ev_10)]
noncomputable def zi_310_5 : ZIs := [(145, ev_272), (146, ev_293), (147, ev_343), (150, ev_1410), (153, ev_10), (154, ev_11), (156, ev_12), (158, ev_13), (159, ev_1286), (162, ev_609), (165, ev_10), (166, ev_25), (168, ev_191), (170, ev_13), (171, ev_1286), (174, ev_719)]
noncomputable def zi_310_6 : ZIs := [(177, ev_13), (178, ev_956), (181, ev_191), (183, ev_311), (184, ev_18), (185, ev_13), (186, ev_956), (189, ev_191), (191, ev_18), (192, ev_12), (194, ev_297), (195, ev_7), (196, ev_20), (197, ev_7), (198, ev_925), (201, ev_13)]
noncomputable def zi_310_7 : ZIs := [(202, ev_956), (205, ev_12), (207, ev_18), (208, ev_222), (211, ev_10), (212, ev_272), (213, ev_293), (214, ev_338), (217, ev_651), (220, ev_343), (223, ev_1411), (226, ev_253)]
set_option maxRecDepth 100000 in
theorem xi_w310 : zall cX12_close [zi_310_0, zi_310_1, zi_310_2, zi_310_3, zi_310_4, zi_310_5, zi_310_6, zi_310_7] := zall_w _ _ (by decide +kernel)
noncomputable def xi_310 (pc : Nat) : XIs := cond (Nat.blt pc 120) (cond (Nat.blt pc 62) (cond (Nat.blt pc 31) (zx zi_310_0) (zx zi_310_1)) (cond (Nat.blt pc 90) (zx zi_310_2) (zx zi_310_3))) (cond (Nat.blt pc 177) (cond (Nat.blt pc 145) (zx zi_310_4) (zx zi_310_5)) (cond (Nat.blt pc 202) (zx zi_310_6) (zx zi_310_7)))
theorem xi_ok310 (pc : Nat) : xi_ok cX12_close (xi_310 pc) = true := xi_c (xi_c (xi_c (zq1 xi_w310) (zq1 (zq2 xi_w310))) (xi_c (zq1 (zq2 (zq2 xi_w310))) (zq1 (zq2 (zq2 (zq2 xi_w310)))))) (xi_c (xi_c (zq1 (zq2 (zq2 (zq2 (zq2 xi_w310))))) (zq1 (zq2 (zq2 (zq2 (zq2 (zq2 xi_w310))))))) (xi_c (zq1 (zq2 (zq2 (zq2 (zq2 (zq2 (zq2 xi_w310))))))) (zq1 (zq2 (zq2 (zq2 (zq2 (zq2 (zq2 (zq2 xi_w310))))))))))
noncomputable def zi_311_0 : ZIs := [(0, ev_480), (1, ev_184), (2, ev_297), (3, ev_7), (4, ev_20), (5, ev_7), (6, ev_816), (9, ev_7), (10, ev_222), (13, ev_10), (14, ev_81)]
set_option maxRecDepth 100000 in
theorem xi_w311 : zall cX12_has [zi_311_0] := zall_w _ _ (by decide +kernel)
noncomputable def xi_311 (pc : Nat) : XIs := zx zi_311_0
theorem xi_ok311 (pc : Nat) : xi_ok cX12_has (xi_311 pc) = true := zq1 xi_w311
noncomputable def zi_312_0 : ZIs := [(0, ev_10), (1, ev_289), (2, ev_190), (3, ev_13), (4, ev_1286), (7, ev_941), (10, ev_13), (11, ev_714), (14, ev_190), (15, ev_1331), (18, ev_186), (19, ev_13), (20, ev_302), (23, ev_190), (24, ev_10), (25, ev_293)]
noncomputable def zi_312_1 : ZIs := [(26, ev_294), (29, ev_355), (32, ev_13), (33, ev_714), (36, ev_184), (37, ev_223), (38, ev_186), (39, ev_7), (40, ev_289), (41, ev_10), (42, ev_11), (44, ev_12), (46, ev_13), (47, ev_1286), (50, ev_1412), (53, ev_190)]
noncomputable def zi_312_2 : ZIs := [(54, ev_1413), (57, ev_10), (58, ev_289), (59, ev_13), (60, ev_1289), (63, ev_25), (65, ev_191), (67, ev_13), (68, ev_1289), (71, ev_527), (74, ev_22), (75, ev_1414), (78, ev_13), (79, ev_1288), (82, ev_191), (84, ev_1290)]
noncomputable def zi_312_3 : ZIs := [(85, ev_1415), (88, ev_189), (89, ev_13), (90, ev_1300), (93, ev_191), (95, ev_18), (96, ev_1416), (99, ev_1417), (102, ev_189), (103, ev_13), (104, ev_1036), (107, ev_191), (109, ev_18), (110, ev_1416), (113, ev_1418), (116, ev_13)]
noncomputable def zi_312_4 : ZIs := [(117, ev_714), (120, ev_13), (121, ev_1036), (124, ev_191), (126, ev_18), (127, ev_437), (128, ev_1331), (131, ev_438), (132, ev_1419), (135, ev_13), (136, ev_714), (139, ev_13), (140, ev_1036), (143, ev_191), (145, ev_18), (146, ev_437)]
noncomputable def zi_312_5 : ZIs := [(147, ev_13), (148, ev_1037), (151, ev_191), (153, ev_18), (154, ev_167), (155, ev_455), (156, ev_58), (158, ev_13), (159, ev_302), (162, ev_13), (163, ev_1036), (166, ev_191), (168, ev_18), (169, ev_18), (170, ev_7), (171, ev_22)]
noncomputable def zi_312_6 : ZIs := [(172, ev_308), (174, ev_458), (176, ev_13), (177, ev_714), (180, ev_13), (181, ev_1300), (184, ev_191), (186, ev_18), (187, ev_437), (188, ev_438), (189, ev_1420), (192, ev_13), (193, ev_714), (196, ev_13), (197, ev_1300), (200, ev_191)]
noncomputable def zi_312_7 : ZIs := [(202, ev_18), (203, ev_458), (205, ev_186), (206, ev_13), (207, ev_302), (210, ev_13), (211, ev_1300), (214, ev_191), (216, ev_18), (217, ev_309), (219, ev_293), (220, ev_7), (221, ev_289), (222, ev_338), (225, ev_1421), (228, ev_343)]
noncomputable def zi_312_8 : ZIs := [(231, ev_1422), (234, ev_190), (235, ev_298), (238, ev_10), (239, ev_81), (240, ev_13), (241, ev_184), (242, ev_189), (243, ev_1423), (246, ev_7), (247, ev_81)]
set_option maxRecDepth 100000 in
theorem xi_w312 : zall cX12_toGoal [zi_312_0, zi_312_1, zi_312_2, zi_312_3, zi_312_4, zi_312_5, zi_312_6, zi_312_7, zi_312_8] := zall_w _ _ (by decide +kernel)
noncomputable def xi_312 (pc : Nat) : XIs := cond (Nat.blt pc 117) (cond (Nat.blt pc 54) (cond (Nat.blt pc 26) (zx zi_312_0) (zx zi_312_1)) (cond (Nat.blt pc 85) (zx zi_312_2) (zx zi_312_3))) (cond (Nat.blt pc 172) (cond (Nat.blt pc 147) (zx zi_312_4) (zx zi_312_5)) (cond (Nat.blt pc 202) (zx zi_312_6) (cond (Nat.blt pc 231) (zx zi_312_7) (zx zi_312_8))))
theorem xi_ok312 (pc : Nat) : xi_ok cX12_toGoal (xi_312 pc) = true := xi_c (xi_c (xi_c (zq1 xi_w312) (zq1 (zq2 xi_w312))) (xi_c (zq1 (zq2 (zq2 xi_w312))) (zq1 (zq2 (zq2 (zq2 xi_w312)))))) (xi_c (xi_c (zq1 (zq2 (zq2 (zq2 (zq2 xi_w312))))) (zq1 (zq2 (zq2 (zq2 (zq2 (zq2 xi_w312))))))) (xi_c (zq1 (zq2 (zq2 (zq2 (zq2 (zq2 (zq2 xi_w312))))))) (xi_c (zq1 (zq2 (zq2 (zq2 (zq2 (zq2 (zq2 (zq2 xi_w312)))))))) (zq1 (zq2 (zq2 (zq2 (zq2 (zq2 (zq2 (zq2 (zq2 xi_w312))))))))))))
noncomputable def zi_313_0 : ZIs := [(0, ev_10), (1, ev_289), (2, ev_190), (3, ev_13), (4, ev_1286), (7, ev_988), (10, ev_13), (11, ev_302), (14, ev_190), (15, ev_190), (16, ev_184), (17, ev_816), (20, ev_10), (21, ev_202), (24, ev_801), (27, ev_293)]
noncomputable def zi_313_1 : ZIs := [(28, ev_294), (31, ev_851), (34, ev_10), (35, ev_289), (36, ev_190), (37, ev_13), (38, ev_1286), (41, ev_1424), (44, ev_13), (45, ev_1289), (48, ev_11), (50, ev_12), (52, ev_13), (53, ev_1289), (56, ev_527), (59, ev_22)]
noncomputable def zi_313_2 : ZIs := [(60, ev_1372), (63, ev_13), (64, ev_1288), (67, ev_12), (69, ev_1290), (70, ev_1425), (73, ev_189), (74, ev_13), (75, ev_1300), (78, ev_12), (80, ev_18), (81, ev_1416), (84, ev_1426), (87, ev_189), (88, ev_13), (89, ev_1036)]
noncomputable def zi_313_3 : ZIs := [(92, ev_12), (94, ev_18), (95, ev_1416), (98, ev_1427), (101, ev_13), (102, ev_714), (105, ev_13), (106, ev_1036), (109, ev_12), (111, ev_18), (112, ev_437), (113, ev_1331), (116, ev_438), (117, ev_1428), (120, ev_13), (121, ev_714)]
noncomputable def zi_313_4 : ZIs := [(124, ev_13), (125, ev_1300), (128, ev_12), (130, ev_18), (131, ev_437), (132, ev_13), (133, ev_714), (136, ev_13), (137, ev_1036), (140, ev_12), (142, ev_18), (143, ev_437), (144, ev_13), (145, ev_1037), (148, ev_12), (150, ev_18)]
noncomputable def zi_313_5 : ZIs := [(151, ev_167), (152, ev_455), (153, ev_438), (154, ev_323), (157, ev_13), (158, ev_302), (161, ev_13), (162, ev_1036), (165, ev_12), (167, ev_18), (168, ev_18), (169, ev_7), (170, ev_22), (171, ev_25), (173, ev_13), (174, ev_302)]
noncomputable def zi_313_6 : ZIs := [(177, ev_13), (178, ev_1300), (181, ev_12), (183, ev_18), (184, ev_191), (186, ev_13), (187, ev_302), (190, ev_13), (191, ev_1300), (194, ev_12), (196, ev_18), (197, ev_18), (198, ev_858), (201, ev_191), (203, ev_435), (206, ev_13)]
noncomputable def zi_313_7 : ZIs := [(207, ev_302), (210, ev_13), (211, ev_1300), (214, ev_12), (216, ev_18), (217, ev_18), (218, ev_293), (219, ev_343), (222, ev_1429), (225, ev_294), (228, ev_1430), (231, ev_253)]
set_option maxRecDepth 100000 in
theorem xi_w313 : zall cX12_fewest [zi_313_0, zi_313_1, zi_313_2, zi_313_3, zi_313_4, zi_313_5, zi_313_6, zi_313_7] := zall_w _ _ (by decide +kernel)
noncomputable def xi_313 (pc : Nat) : XIs := cond (Nat.blt pc 124) (cond (Nat.blt pc 60) (cond (Nat.blt pc 28) (zx zi_313_0) (zx zi_313_1)) (cond (Nat.blt pc 92) (zx zi_313_2) (zx zi_313_3))) (cond (Nat.blt pc 177) (cond (Nat.blt pc 151) (zx zi_313_4) (zx zi_313_5)) (cond (Nat.blt pc 207) (zx zi_313_6) (zx zi_313_7)))
theorem xi_ok313 (pc : Nat) : xi_ok cX12_fewest (xi_313 pc) = true := xi_c (xi_c (xi_c (zq1 xi_w313) (zq1 (zq2 xi_w313))) (xi_c (zq1 (zq2 (zq2 xi_w313))) (zq1 (zq2 (zq2 (zq2 xi_w313)))))) (xi_c (xi_c (zq1 (zq2 (zq2 (zq2 (zq2 xi_w313))))) (zq1 (zq2 (zq2 (zq2 (zq2 (zq2 xi_w313))))))) (xi_c (zq1 (zq2 (zq2 (zq2 (zq2 (zq2 (zq2 xi_w313))))))) (zq1 (zq2 (zq2 (zq2 (zq2 (zq2 (zq2 (zq2 xi_w313))))))))))
noncomputable def zi_314_0 : ZIs := [(0, ev_13), (1, ev_10), (2, ev_245), (3, ev_245), (4, ev_1431), (7, ev_10), (8, ev_289), (9, ev_10), (10, ev_11), (12, ev_12), (14, ev_13), (15, ev_1286), (18, ev_1401), (21, ev_190), (22, ev_13), (23, ev_956)]
noncomputable def zi_314_1 : ZIs := [(26, ev_184), (27, ev_18), (28, ev_12), (30, ev_1416), (33, ev_1432), (36, ev_13), (37, ev_956), (40, ev_12), (42, ev_18), (43, ev_189), (44, ev_1416), (47, ev_380), (50, ev_7), (51, ev_12), (53, ev_271), (54, ev_222)]
noncomputable def zi_314_2 : ZIs := [(57, ev_10), (58, ev_272), (59, ev_289), (60, ev_343), (63, ev_906), (66, ev_190), (67, ev_81)]
set_option maxRecDepth 100000 in
theorem xi_w314 : zall cX12_between [zi_314_0, zi_314_1, zi_314_2] := zall_w _ _ (by decide +kernel)
noncomputable def xi_314 (pc : Nat) : XIs := cond (Nat.blt pc 26) (zx zi_314_0) (cond (Nat.blt pc 57) (zx zi_314_1) (zx zi_314_2))
theorem xi_ok314 (pc : Nat) : xi_ok cX12_between (xi_314 pc) = true := xi_c (zq1 xi_w314) (xi_c (zq1 (zq2 xi_w314)) (zq1 (zq2 (zq2 xi_w314))))
noncomputable def zi_315_0 : ZIs := [(0, ev_13), (1, ev_13), (2, ev_184), (3, ev_1333), (6, ev_769), (9, ev_13), (10, ev_189), (11, ev_1333), (14, ev_220), (17, ev_7), (18, ev_222), (21, ev_10), (22, ev_1174), (25, ev_298), (28, ev_223), (29, ev_479)]
noncomputable def zi_315_1 : ZIs := [(30, ev_13), (31, ev_184), (32, ev_189), (33, ev_1433), (36, ev_289), (37, ev_190), (38, ev_990), (41, ev_1331), (44, ev_1434), (47, ev_13), (48, ev_189), (49, ev_190), (50, ev_1435), (53, ev_647), (56, ev_13), (57, ev_714)]
noncomputable def zi_315_2 : ZIs := [(60, ev_184), (61, ev_437), (62, ev_202), (65, ev_1436), (68, ev_479)]
set_option maxRecDepth 100000 in
theorem xi_w315 : zall cX12_distance [zi_315_0, zi_315_1, zi_315_2] := zall_w _ _ (by decide +kernel)
noncomputable def xi_315 (pc : Nat) : XIs := cond (Nat.blt pc 30) (zx zi_315_0) (cond (Nat.blt pc 60) (zx zi_315_1) (zx zi_315_2))
theorem xi_ok315 (pc : Nat) : xi_ok cX12_distance (xi_315 pc) = true := xi_c (zq1 xi_w315) (xi_c (zq1 (zq2 xi_w315)) (zq1 (zq2 (zq2 xi_w315))))
noncomputable def zi_316_0 : ZIs := [(0, ev_13), (1, ev_13), (2, ev_184), (3, ev_1333), (6, ev_486), (9, ev_13), (10, ev_189), (11, ev_1333), (14, ev_929), (17, ev_190), (18, ev_829), (21, ev_7), (22, ev_222), (25, ev_10), (26, ev_1174), (29, ev_298)]
noncomputable def zi_316_1 : ZIs := [(32, ev_10), (33, ev_81), (34, ev_13), (35, ev_184), (36, ev_189), (37, ev_1433), (40, ev_11), (42, ev_12), (44, ev_767), (47, ev_13), (48, ev_189), (49, ev_12), (51, ev_1435), (54, ev_632), (57, ev_190), (58, ev_13)]
noncomputable def zi_316_2 : ZIs := [(59, ev_302), (62, ev_184), (63, ev_18), (64, ev_991), (67, ev_245), (68, ev_81), (69, ev_184), (70, ev_25), (72, ev_245), (73, ev_28), (75, ev_10), (76, ev_269), (78, ev_270), (80, ev_190), (81, ev_1412), (84, ev_245)]
noncomputable def zi_316_3 : ZIs := [(85, ev_28), (87, ev_1437), (90, ev_308), (92, ev_309), (94, ev_1438), (97, ev_13), (98, ev_1289), (101, ev_309), (103, ev_22), (104, ev_322), (106, ev_13), (107, ev_1288), (110, ev_324), (112, ev_1290), (113, ev_1351), (116, ev_13)]
noncomputable def zi_316_4 : ZIs := [(117, ev_1300), (120, ev_324), (122, ev_18), (123, ev_191), (125, ev_1439), (128, ev_12), (130, ev_13), (131, ev_1036), (134, ev_324), (136, ev_18), (137, ev_1416), (140, ev_1168), (143, ev_13), (144, ev_714), (147, ev_13), (148, ev_1036)]
noncomputable def zi_316_5 : ZIs := [(151, ev_324), (153, ev_18), (154, ev_437), (155, ev_1331), (158, ev_438), (159, ev_484), (162, ev_7), (163, ev_222), (166, ev_10), (167, ev_445), (169, ev_446), (171, ev_550), (174, ev_13), (175, ev_714), (178, ev_191), (180, ev_437)]
noncomputable def zi_316_6 : ZIs := [(181, ev_13), (182, ev_714), (185, ev_13), (186, ev_1036), (189, ev_324), (191, ev_18), (192, ev_437), (193, ev_13), (194, ev_1037), (197, ev_324), (199, ev_18), (200, ev_167), (201, ev_455), (202, ev_438), (203, ev_1440), (206, ev_13)]
noncomputable def zi_316_7 : ZIs := [(207, ev_302), (210, ev_191), (212, ev_18), (213, ev_13), (214, ev_302), (217, ev_13), (218, ev_1036), (221, ev_324), (223, ev_18), (224, ev_18), (225, ev_7), (226, ev_22), (227, ev_538), (230, ev_309), (232, ev_636), (235, ev_265)]
noncomputable def zi_316_8 : ZIs := [(237, ev_28), (239, ev_1441), (242, ev_1042), (245, ev_13), (246, ev_1036), (249, ev_13), (250, ev_1289), (253, ev_265), (255, ev_22), (256, ev_18), (257, ev_25), (259, ev_953), (262, ev_1442), (265, ev_265), (267, ev_81)]
set_option maxRecDepth 100000 in
theorem xi_w316 : zall cX12_way [zi_316_0, zi_316_1, zi_316_2, zi_316_3, zi_316_4, zi_316_5, zi_316_6, zi_316_7, zi_316_8] := zall_w _ _ (by decide +kernel)
noncomputable def xi_316 (pc : Nat) : XIs := cond (Nat.blt pc 117) (cond (Nat.blt pc 59) (cond (Nat.blt pc 32) (zx zi_316_0) (zx zi_316_1)) (cond (Nat.blt pc 85) (zx zi_316_2) (zx zi_316_3))) (cond (Nat.blt pc 181) (cond (Nat.blt pc 151) (zx zi_316_4) (zx zi_316_5)) (cond (Nat.blt pc 207) (zx zi_316_6) (cond (Nat.blt pc 237) (zx zi_316_7) (zx zi_316_8))))
theorem xi_ok316 (pc : Nat) : xi_ok cX12_way (xi_316 pc) = true := xi_c (xi_c (xi_c (zq1 xi_w316) (zq1 (zq2 xi_w316))) (xi_c (zq1 (zq2 (zq2 xi_w316))) (zq1 (zq2 (zq2 (zq2 xi_w316)))))) (xi_c (xi_c (zq1 (zq2 (zq2 (zq2 (zq2 xi_w316))))) (zq1 (zq2 (zq2 (zq2 (zq2 (zq2 xi_w316))))))) (xi_c (zq1 (zq2 (zq2 (zq2 (zq2 (zq2 (zq2 xi_w316))))))) (xi_c (zq1 (zq2 (zq2 (zq2 (zq2 (zq2 (zq2 (zq2 xi_w316)))))))) (zq1 (zq2 (zq2 (zq2 (zq2 (zq2 (zq2 (zq2 (zq2 xi_w316))))))))))))
noncomputable def zi_317_0 : ZIs := [(0, ev_13), (1, ev_13), (2, ev_184), (3, ev_1333), (6, ev_769), (9, ev_13), (10, ev_189), (11, ev_1333), (14, ev_220), (17, ev_7), (18, ev_222), (21, ev_10), (22, ev_1174), (25, ev_298), (28, ev_10), (29, ev_81)]
noncomputable def zi_317_1 : ZIs := [(30, ev_10), (31, ev_289), (32, ev_190), (33, ev_13), (34, ev_1286), (37, ev_988), (40, ev_13), (41, ev_960), (44, ev_190), (45, ev_190), (46, ev_184), (47, ev_405), (50, ev_1443), (53, ev_222), (56, ev_245), (57, ev_293)]
noncomputable def zi_317_2 : ZIs := [(58, ev_294), (61, ev_851), (64, ev_10), (65, ev_289), (66, ev_190), (67, ev_13), (68, ev_1286), (71, ev_1444), (74, ev_13), (75, ev_1289), (78, ev_11), (80, ev_12), (82, ev_13), (83, ev_1289), (86, ev_527), (89, ev_22)]
noncomputable def zi_317_3 : ZIs := [(90, ev_1445), (93, ev_13), (94, ev_1288), (97, ev_12), (99, ev_1290), (100, ev_555), (103, ev_13), (104, ev_960), (107, ev_13), (108, ev_1300), (111, ev_12), (113, ev_18), (114, ev_18), (115, ev_1446), (118, ev_13), (119, ev_463)]
noncomputable def zi_317_4 : ZIs := [(122, ev_12), (124, ev_18), (125, ev_13), (126, ev_960), (129, ev_13), (130, ev_1300), (133, ev_12), (135, ev_18), (136, ev_18), (137, ev_1447), (140, ev_13), (141, ev_463), (144, ev_12), (146, ev_18), (147, ev_435), (150, ev_13)]
noncomputable def zi_317_5 : ZIs := [(151, ev_960), (154, ev_13), (155, ev_1300), (158, ev_12), (160, ev_18), (161, ev_18), (162, ev_25), (164, ev_13), (165, ev_960), (168, ev_13), (169, ev_1036), (172, ev_12), (174, ev_18), (175, ev_191), (177, ev_13), (178, ev_960)]
noncomputable def zi_317_6 : ZIs := [(181, ev_13), (182, ev_1036), (185, ev_12), (187, ev_18), (188, ev_18), (189, ev_263), (192, ev_191), (194, ev_435), (197, ev_13), (198, ev_960), (201, ev_13), (202, ev_1036), (205, ev_12), (207, ev_18), (208, ev_18), (209, ev_293)]
noncomputable def zi_317_7 : ZIs := [(210, ev_343), (213, ev_1448), (216, ev_294), (219, ev_1449), (222, ev_13), (223, ev_960), (226, ev_189), (227, ev_18), (228, ev_81)]
set_option maxRecDepth 100000 in
theorem xi_w317 : zall cX12_width [zi_317_0, zi_317_1, zi_317_2, zi_317_3, zi_317_4, zi_317_5, zi_317_6, zi_317_7] := zall_w _ _ (by decide +kernel)
noncomputable def xi_317 (pc : Nat) : XIs := cond (Nat.blt pc 122) (cond (Nat.blt pc 58) (cond (Nat.blt pc 30) (zx zi_317_0) (zx zi_317_1)) (cond (Nat.blt pc 90) (zx zi_317_2) (zx zi_317_3))) (cond (Nat.blt pc 181) (cond (Nat.blt pc 151) (zx zi_317_4) (zx zi_317_5)) (cond (Nat.blt pc 210) (zx zi_317_6) (zx zi_317_7)))
theorem xi_ok317 (pc : Nat) : xi_ok cX12_width (xi_317 pc) = true := xi_c (xi_c (xi_c (zq1 xi_w317) (zq1 (zq2 xi_w317))) (xi_c (zq1 (zq2 (zq2 xi_w317))) (zq1 (zq2 (zq2 (zq2 xi_w317)))))) (xi_c (xi_c (zq1 (zq2 (zq2 (zq2 (zq2 xi_w317))))) (zq1 (zq2 (zq2 (zq2 (zq2 (zq2 xi_w317))))))) (xi_c (zq1 (zq2 (zq2 (zq2 (zq2 (zq2 (zq2 xi_w317))))))) (zq1 (zq2 (zq2 (zq2 (zq2 (zq2 (zq2 (zq2 xi_w317))))))))))
noncomputable def zi_318_0 : ZIs := [(0, ev_13), (1, ev_1450), (4, ev_1044), (7, ev_1451), (10, ev_33), (11, ev_13), (12, ev_1450), (15, ev_350), (16, ev_28), (18, ev_13), (19, ev_1452), (22, ev_265), (24, ev_184), (25, ev_293), (26, ev_13), (27, ev_1452)]
noncomputable def zi_318_1 : ZIs := [(30, ev_265), (32, ev_7), (33, ev_22), (34, ev_189), (35, ev_293), (36, ev_13), (37, ev_1452), (40, ev_265), (42, ev_30), (43, ev_22), (44, ev_190), (45, ev_293), (46, ev_13), (47, ev_1452), (50, ev_265), (52, ev_31)]
noncomputable def zi_318_2 : ZIs := [(53, ev_22), (54, ev_12), (56, ev_293), (57, ev_13), (58, ev_1452), (61, ev_265), (63, ev_32), (64, ev_22), (65, ev_191), (67, ev_293), (68, ev_223), (69, ev_919), (71, ev_7), (72, ev_322), (74, ev_324), (76, ev_184)]
noncomputable def zi_318_3 : ZIs := [(77, ev_428), (80, ev_920), (82, ev_13), (83, ev_1037), (86, ev_13), (87, ev_1289), (90, ev_13), (91, ev_1452), (94, ev_265), (96, ev_324), (98, ev_22), (99, ev_18), (100, ev_22), (101, ev_18), (102, ev_167), (103, ev_455)]
noncomputable def zi_318_4 : ZIs := [(104, ev_919), (106, ev_1453), (109, ev_287), (112, ev_13), (113, ev_290), (116, ev_13), (117, ev_1450), (120, ev_920), (122, ev_186), (123, ev_13), (124, ev_1), (125, ev_1450), (128, ev_7), (129, ev_22), (130, ev_1454), (133, ev_253)]
set_option maxRecDepth 100000 in
theorem xi_w318 : zall cX12_addShort [zi_318_0, zi_318_1, zi_318_2, zi_318_3, zi_318_4] := zall_w _ _ (by decide +kernel)
noncomputable def xi_318 (pc : Nat) : XIs := cond (Nat.blt pc 53) (cond (Nat.blt pc 30) (zx zi_318_0) (zx zi_318_1)) (cond (Nat.blt pc 77) (zx zi_318_2) (cond (Nat.blt pc 104) (zx zi_318_3) (zx zi_318_4)))
theorem xi_ok318 (pc : Nat) : xi_ok cX12_addShort (xi_318 pc) = true := xi_c (xi_c (zq1 xi_w318) (zq1 (zq2 xi_w318))) (xi_c (zq1 (zq2 (zq2 xi_w318))) (xi_c (zq1 (zq2 (zq2 (zq2 xi_w318)))) (zq1 (zq2 (zq2 (zq2 (zq2 xi_w318)))))))
noncomputable def zi_319_0 : ZIs := [(0, ev_13), (1, ev_1288), (4, ev_13), (5, ev_1289), (8, ev_184), (9, ev_22), (10, ev_1290), (11, ev_865), (14, ev_13), (15, ev_1300), (18, ev_13), (19, ev_1289), (22, ev_184), (23, ev_22), (24, ev_18), (25, ev_189)]
noncomputable def zi_319_1 : ZIs := [(26, ev_1455), (29, ev_190), (30, ev_13), (31, ev_1036), (34, ev_13), (35, ev_1289), (38, ev_184), (39, ev_22), (40, ev_18), (41, ev_1416), (44, ev_321), (47, ev_7), (48, ev_222), (51, ev_10), (52, ev_81)]
set_option maxRecDepth 100000 in
theorem xi_w319 : zall cX12_goesOn [zi_319_0, zi_319_1] := zall_w _ _ (by decide +kernel)
noncomputable def xi_319 (pc : Nat) : XIs := cond (Nat.blt pc 26) (zx zi_319_0) (zx zi_319_1)
theorem xi_ok319 (pc : Nat) : xi_ok cX12_goesOn (xi_319 pc) = true := xi_c (zq1 xi_w319) (zq1 (zq2 xi_w319))
noncomputable def zi_320_0 : ZIs := [(0, ev_13), (1, ev_10), (2, ev_1454), (5, ev_10), (6, ev_289), (7, ev_190), (8, ev_527), (11, ev_431), (14, ev_13), (15, ev_1450), (18, ev_1044), (21, ev_1456), (24, ev_13), (25, ev_190), (26, ev_184), (27, ev_7)]
noncomputable def zi_320_1 : ZIs := [(28, ev_184), (29, ev_271), (30, ev_1457), (33, ev_1335), (36, ev_13), (37, ev_1036), (40, ev_13), (41, ev_1289), (44, ev_190), (45, ev_22), (46, ev_18), (47, ev_11), (49, ev_12), (51, ev_189), (52, ev_725), (55, ev_13)]
noncomputable def zi_320_2 : ZIs := [(56, ev_7), (57, ev_190), (58, ev_10), (59, ev_10), (60, ev_10), (61, ev_1458), (64, ev_900), (67, ev_13), (68, ev_190), (69, ev_12), (71, ev_7), (72, ev_184), (73, ev_271), (74, ev_7), (75, ev_12), (77, ev_271)]
noncomputable def zi_320_3 : ZIs := [(78, ev_272), (79, ev_189), (80, ev_1459), (83, ev_294), (86, ev_561), (89, ev_253)]
set_option maxRecDepth 100000 in
theorem xi_w320 : zall cX12_findShorts [zi_320_0, zi_320_1, zi_320_2, zi_320_3] := zall_w _ _ (by decide +kernel)
noncomputable def xi_320 (pc : Nat) : XIs := cond (Nat.blt pc 56) (cond (Nat.blt pc 28) (zx zi_320_0) (zx zi_320_1)) (cond (Nat.blt pc 78) (zx zi_320_2) (zx zi_320_3))
theorem xi_ok320 (pc : Nat) : xi_ok cX12_findShorts (xi_320 pc) = true := xi_c (xi_c (zq1 xi_w320) (zq1 (zq2 xi_w320))) (xi_c (zq1 (zq2 (zq2 xi_w320))) (zq1 (zq2 (zq2 (zq2 xi_w320)))))
noncomputable def zi_321_0 : ZIs := [(0, ev_10), (1, ev_25), (3, ev_191), (5, ev_527), (8, ev_877), (11, ev_13), (12, ev_1450), (15, ev_1044), (18, ev_1460), (21, ev_13), (22, ev_191), (24, ev_189), (25, ev_190), (26, ev_1457), (29, ev_1461), (32, ev_13)]
noncomputable def zi_321_1 : ZIs := [(33, ev_1036), (36, ev_13), (37, ev_1289), (40, ev_191), (42, ev_22), (43, ev_18), (44, ev_28), (46, ev_265), (48, ev_12), (50, ev_536), (53, ev_13), (54, ev_30), (55, ev_184), (56, ev_191), (58, ev_10), (59, ev_10)]
noncomputable def zi_321_2 : ZIs := [(60, ev_1458), (63, ev_1462), (66, ev_13), (67, ev_184), (68, ev_191), (70, ev_265), (72, ev_190), (73, ev_7), (74, ev_265), (76, ev_271), (77, ev_272), (78, ev_12), (80, ev_1463), (83, ev_338), (86, ev_881), (89, ev_253)]
set_option maxRecDepth 100000 in
theorem xi_w321 : zall cX12_second [zi_321_0, zi_321_1, zi_321_2] := zall_w _ _ (by decide +kernel)
noncomputable def xi_321 (pc : Nat) : XIs := cond (Nat.blt pc 33) (zx zi_321_0) (cond (Nat.blt pc 60) (zx zi_321_1) (zx zi_321_2))
theorem xi_ok321 (pc : Nat) : xi_ok cX12_second (xi_321 pc) = true := xi_c (zq1 xi_w321) (xi_c (zq1 (zq2 xi_w321)) (zq1 (zq2 (zq2 xi_w321))))
noncomputable def zi_322_0 : ZIs := [(0, ev_10), (1, ev_28), (3, ev_265), (5, ev_527), (8, ev_1464), (11, ev_13), (12, ev_1450), (15, ev_1044), (18, ev_1465), (21, ev_13), (22, ev_265), (24, ev_190), (25, ev_12), (27, ev_1457), (30, ev_1466), (33, ev_13)]
noncomputable def zi_322_1 : ZIs := [(34, ev_1036), (37, ev_13), (38, ev_1289), (41, ev_265), (43, ev_22), (44, ev_18), (45, ev_269), (47, ev_270), (49, ev_191), (51, ev_536), (54, ev_13), (55, ev_31), (56, ev_184), (57, ev_189), (58, ev_265), (60, ev_10)]
noncomputable def zi_322_2 : ZIs := [(61, ev_1458), (64, ev_1467), (67, ev_10), (68, ev_308), (70, ev_309), (72, ev_527), (75, ev_1468), (78, ev_13), (79, ev_1288), (82, ev_13), (83, ev_1289), (86, ev_309), (88, ev_22), (89, ev_1290), (90, ev_1317), (93, ev_13)]
noncomputable def zi_322_3 : ZIs := [(94, ev_1300), (97, ev_13), (98, ev_1289), (101, ev_309), (103, ev_22), (104, ev_18), (105, ev_270), (107, ev_889), (110, ev_13), (111, ev_1036), (114, ev_13), (115, ev_1289), (118, ev_309), (120, ev_22), (121, ev_18), (122, ev_191)]
noncomputable def zi_322_4 : ZIs := [(124, ev_796), (127, ev_13), (128, ev_32), (129, ev_184), (130, ev_189), (131, ev_265), (133, ev_309), (135, ev_1458), (138, ev_313), (141, ev_1469), (144, ev_315), (147, ev_1470), (150, ev_253)]
set_option maxRecDepth 100000 in
theorem xi_w322 : zall cX12_third [zi_322_0, zi_322_1, zi_322_2, zi_322_3, zi_322_4] := zall_w _ _ (by decide +kernel)
noncomputable def xi_322 (pc : Nat) : XIs := cond (Nat.blt pc 61) (cond (Nat.blt pc 34) (zx zi_322_0) (zx zi_322_1)) (cond (Nat.blt pc 94) (zx zi_322_2) (cond (Nat.blt pc 124) (zx zi_322_3) (zx zi_322_4)))
theorem xi_ok322 (pc : Nat) : xi_ok cX12_third (xi_322 pc) = true := xi_c (xi_c (zq1 xi_w322) (zq1 (zq2 xi_w322))) (xi_c (zq1 (zq2 (zq2 xi_w322))) (xi_c (zq1 (zq2 (zq2 (zq2 xi_w322)))) (zq1 (zq2 (zq2 (zq2 (zq2 xi_w322)))))))
noncomputable def zi_323_0 : ZIs := [(0, ev_13), (1, ev_290), (4, ev_184), (5, ev_437), (6, ev_13), (7, ev_290), (10, ev_189), (11, ev_437), (12, ev_438), (13, ev_546), (16, ev_13), (17, ev_290), (20, ev_184), (21, ev_437), (22, ev_13), (23, ev_290)]
noncomputable def zi_323_1 : ZIs := [(26, ev_189), (27, ev_437), (28, ev_438), (29, ev_484), (32, ev_7), (33, ev_222), (36, ev_10), (37, ev_81), (38, ev_13), (39, ev_1452), (42, ev_33), (43, ev_184), (44, ev_350), (45, ev_18), (46, ev_13), (47, ev_1452)]
noncomputable def zi_323_2 : ZIs := [(50, ev_33), (51, ev_189), (52, ev_350), (53, ev_18), (54, ev_1471), (57, ev_13), (58, ev_1452), (61, ev_33), (62, ev_184), (63, ev_350), (64, ev_18), (65, ev_13), (66, ev_1452), (69, ev_33), (70, ev_189), (71, ev_350)]
noncomputable def zi_323_3 : ZIs := [(72, ev_18), (73, ev_654), (76, ev_7), (77, ev_222), (80, ev_10), (81, ev_81), (82, ev_7), (83, ev_289), (84, ev_190), (85, ev_13), (86, ev_1452), (89, ev_33), (90, ev_184), (91, ev_350), (92, ev_18), (93, ev_1472)]
noncomputable def zi_323_4 : ZIs := [(96, ev_13), (97, ev_1452), (100, ev_33), (101, ev_184), (102, ev_350), (103, ev_190), (104, ev_22), (105, ev_18), (106, ev_13), (107, ev_1452), (110, ev_33), (111, ev_189), (112, ev_350), (113, ev_190), (114, ev_22), (115, ev_18)]
noncomputable def zi_323_5 : ZIs := [(116, ev_1473), (119, ev_13), (120, ev_1452), (123, ev_33), (124, ev_184), (125, ev_350), (126, ev_190), (127, ev_22), (128, ev_18), (129, ev_13), (130, ev_1452), (133, ev_33), (134, ev_189), (135, ev_350), (136, ev_190), (137, ev_22)]
noncomputable def zi_323_6 : ZIs := [(138, ev_18), (139, ev_654), (142, ev_7), (143, ev_222), (146, ev_10), (147, ev_81), (148, ev_294), (151, ev_1411), (154, ev_10), (155, ev_81)]
set_option maxRecDepth 100000 in
theorem xi_w323 : zall cX12_isBefore [zi_323_0, zi_323_1, zi_323_2, zi_323_3, zi_323_4, zi_323_5, zi_323_6] := zall_w _ _ (by decide +kernel)
noncomputable def xi_323 (pc : Nat) : XIs := cond (Nat.blt pc 72) (cond (Nat.blt pc 26) (zx zi_323_0) (cond (Nat.blt pc 50) (zx zi_323_1) (zx zi_323_2))) (cond (Nat.blt pc 116) (cond (Nat.blt pc 96) (zx zi_323_3) (zx zi_323_4)) (cond (Nat.blt pc 138) (zx zi_323_5) (zx zi_323_6)))
theorem xi_ok323 (pc : Nat) : xi_ok cX12_isBefore (xi_323 pc) = true := xi_c (xi_c (zq1 xi_w323) (xi_c (zq1 (zq2 xi_w323)) (zq1 (zq2 (zq2 xi_w323))))) (xi_c (xi_c (zq1 (zq2 (zq2 (zq2 xi_w323)))) (zq1 (zq2 (zq2 (zq2 (zq2 xi_w323)))))) (xi_c (zq1 (zq2 (zq2 (zq2 (zq2 (zq2 xi_w323)))))) (zq1 (zq2 (zq2 (zq2 (zq2 (zq2 (zq2 xi_w323)))))))))
noncomputable def zi_324_0 : ZIs := [(0, ev_10), (1, ev_683), (2, ev_184), (3, ev_13), (4, ev_1450), (7, ev_1113), (10, ev_13), (11, ev_552), (14, ev_184), (15, ev_184), (16, ev_293), (17, ev_686), (20, ev_1474), (23, ev_7), (24, ev_683), (25, ev_184)]
noncomputable def zi_324_1 : ZIs := [(26, ev_13), (27, ev_1450), (30, ev_1475), (33, ev_10), (34, ev_288), (35, ev_189), (36, ev_13), (37, ev_1450), (40, ev_1476), (43, ev_189), (44, ev_184), (45, ev_22), (46, ev_13), (47, ev_1450), (50, ev_470), (53, ev_189)]
noncomputable def zi_324_2 : ZIs := [(54, ev_184), (55, ev_22), (56, ev_205), (59, ev_13), (60, ev_1450), (63, ev_289), (64, ev_189), (65, ev_30), (66, ev_184), (67, ev_350), (68, ev_22), (69, ev_13), (70, ev_1450), (73, ev_1477), (76, ev_189), (77, ev_30)]
noncomputable def zi_324_3 : ZIs := [(78, ev_184), (79, ev_350), (80, ev_22), (81, ev_205), (84, ev_13), (85, ev_1450), (88, ev_11), (90, ev_189), (91, ev_25), (93, ev_190), (94, ev_28), (96, ev_189), (97, ev_269), (99, ev_270), (101, ev_12), (103, ev_1478)]
noncomputable def zi_324_4 : ZIs := [(106, ev_191), (108, ev_190), (109, ev_291), (112, ev_265), (114, ev_12), (116, ev_1479), (119, ev_13), (120, ev_13), (121, ev_552), (124, ev_265), (126, ev_18), (127, ev_13), (128, ev_552), (131, ev_191), (133, ev_18), (134, ev_1480)]
noncomputable def zi_324_5 : ZIs := [(137, ev_321), (140, ev_7), (141, ev_222), (144, ev_10), (145, ev_308), (147, ev_13), (148, ev_553), (151, ev_270), (153, ev_309), (155, ev_632), (158, ev_13), (159, ev_552), (162, ev_191), (164, ev_18), (165, ev_631), (168, ev_13)]
noncomputable def zi_324_6 : ZIs := [(169, ev_552), (172, ev_265), (174, ev_18), (175, ev_293), (176, ev_191), (178, ev_309), (180, ev_220), (183, ev_7), (184, ev_222), (187, ev_10), (188, ev_22), (189, ev_25), (191, ev_265), (193, ev_309), (195, ev_220), (198, ev_10)]
noncomputable def zi_324_7 : ZIs := [(199, ev_222), (202, ev_7), (203, ev_22), (204, ev_28), (206, ev_953), (209, ev_1481), (212, ev_189), (213, ev_30), (214, ev_184), (215, ev_350), (216, ev_22), (217, ev_288), (218, ev_1482), (221, ev_10), (222, ev_288), (223, ev_189)]
noncomputable def zi_324_8 : ZIs := [(224, ev_13), (225, ev_1450), (228, ev_359), (231, ev_13), (232, ev_552), (235, ev_189), (236, ev_13), (237, ev_553), (240, ev_189), (241, ev_18), (242, ev_293), (243, ev_299), (246, ev_709), (249, ev_184), (250, ev_30), (251, ev_350)]
noncomputable def zi_324_9 : ZIs := [(252, ev_683), (253, ev_1483), (256, ev_253)]
set_option maxRecDepth 100000 in
theorem xi_w324 : zall cX12_sortShorts [zi_324_0, zi_324_1, zi_324_2, zi_324_3, zi_324_4, zi_324_5, zi_324_6, zi_324_7, zi_324_8, zi_324_9] := zall_w _ _ (by decide +kernel)
noncomputable def xi_324 (pc : Nat) : XIs := cond (Nat.blt pc 137) (cond (Nat.blt pc 54) (cond (Nat.blt pc 26) (zx zi_324_0) (zx zi_324_1)) (cond (Nat.blt pc 78) (zx zi_324_2) (cond (Nat.blt pc 106) (zx zi_324_3) (zx zi_324_4)))) (cond (Nat.blt pc 199) (cond (Nat.blt pc 169) (zx zi_324_5) (zx zi_324_6)) (cond (Nat.blt pc 224) (zx zi_324_7) (cond (Nat.blt pc 252) (zx zi_324_8) (zx zi_324_9))))
theorem xi_ok324 (pc : Nat) : xi_ok cX12_sortShorts (xi_324 pc) = true := xi_c (xi_c (xi_c (zq1 xi_w324) (zq1 (zq2 xi_w324))) (xi_c (zq1 (zq2 (zq2 xi_w324))) (xi_c (zq1 (zq2 (zq2 (zq2 xi_w324)))) (zq1 (zq2 (zq2 (zq2 (zq2 xi_w324)))))))) (xi_c (xi_c (zq1 (zq2 (zq2 (zq2 (zq2 (zq2 xi_w324)))))) (zq1 (zq2 (zq2 (zq2 (zq2 (zq2 (zq2 xi_w324)))))))) (xi_c (zq1 (zq2 (zq2 (zq2 (zq2 (zq2 (zq2 (zq2 xi_w324)))))))) (xi_c (zq1 (zq2 (zq2 (zq2 (zq2 (zq2 (zq2 (zq2 (zq2 xi_w324))))))))) (zq1 (zq2 (zq2 (zq2 (zq2 (zq2 (zq2 (zq2 (zq2 (zq2 xi_w324)))))))))))))
noncomputable def zi_325_0 : ZIs := [(0, ev_13), (1, ev_13), (2, ev_184), (3, ev_1333), (6, ev_678), (9, ev_13), (10, ev_189), (11, ev_1333), (14, ev_647), (17, ev_184), (18, ev_189), (19, ev_679), (22, ev_7), (23, ev_222), (26, ev_10), (27, ev_1174)]
noncomputable def zi_325_1 : ZIs := [(30, ev_298), (33, ev_10), (34, ev_81), (35, ev_13), (36, ev_184), (37, ev_189), (38, ev_1484), (41, ev_13), (42, ev_1450), (45, ev_1044), (48, ev_263), (51, ev_1045), (53, ev_205), (56, ev_13), (57, ev_1450), (60, ev_81)]
set_option maxRecDepth 100000 in
theorem xi_w325 : zall cX12_shorts [zi_325_0, zi_325_1] := zall_w _ _ (by decide +kernel)
noncomputable def xi_325 (pc : Nat) : XIs := cond (Nat.blt pc 30) (zx zi_325_0) (zx zi_325_1)
theorem xi_ok325 (pc : Nat) : xi_ok cX12_shorts (xi_325 pc) = true := xi_c (zq1 xi_w325) (zq1 (zq2 xi_w325))
noncomputable def zi_326_0 : ZIs := [(0, ev_13), (1, ev_13), (2, ev_184), (3, ev_1333), (6, ev_411), (9, ev_13), (10, ev_189), (11, ev_1333), (14, ev_328), (17, ev_184), (18, ev_189), (19, ev_275), (22, ev_190), (23, ev_1108), (26, ev_12), (28, ev_829)]
noncomputable def zi_326_1 : ZIs := [(31, ev_7), (32, ev_222), (35, ev_10), (36, ev_1174), (39, ev_298), (42, ev_10), (43, ev_81), (44, ev_13), (45, ev_184), (46, ev_189), (47, ev_1484), (50, ev_13), (51, ev_1450), (54, ev_1044), (57, ev_1120), (60, ev_190)]
noncomputable def zi_326_2 : ZIs := [(61, ev_13), (62, ev_1450), (65, ev_991), (68, ev_245), (69, ev_81), (70, ev_13), (71, ev_1485), (74, ev_33), (75, ev_13), (76, ev_552), (79, ev_190), (80, ev_18), (81, ev_350), (82, ev_25), (84, ev_12), (86, ev_13)]
noncomputable def zi_326_3 : ZIs := [(87, ev_1452), (90, ev_191), (92, ev_18), (93, ev_1486), (96, ev_13), (97, ev_1452), (100, ev_191), (102, ev_7), (103, ev_22), (104, ev_12), (106, ev_22), (107, ev_18), (108, ev_222), (111, ev_245), (112, ev_81)]
set_option maxRecDepth 100000 in
theorem xi_w326 : zall cX12_shortArc [zi_326_0, zi_326_1, zi_326_2, zi_326_3] := zall_w _ _ (by decide +kernel)
noncomputable def xi_326 (pc : Nat) : XIs := cond (Nat.blt pc 61) (cond (Nat.blt pc 31) (zx zi_326_0) (zx zi_326_1)) (cond (Nat.blt pc 87) (zx zi_326_2) (zx zi_326_3))
theorem xi_ok326 (pc : Nat) : xi_ok cX12_shortArc (xi_326 pc) = true := xi_c (xi_c (zq1 xi_w326) (zq1 (zq2 xi_w326))) (xi_c (zq1 (zq2 (zq2 xi_w326))) (zq1 (zq2 (zq2 (zq2 xi_w326)))))
noncomputable def zi_327_0 : ZIs := [(0, ev_10), (1, ev_683), (2, ev_480), (3, ev_184), (4, ev_1416), (7, ev_990), (10, ev_686), (13, ev_1487), (16, ev_184), (17, ev_81)]
set_option maxRecDepth 100000 in
theorem xi_w327 : zall cX12_least [zi_327_0] := zall_w _ _ (by decide +kernel)
noncomputable def xi_327 (pc : Nat) : XIs := zx zi_327_0
theorem xi_ok327 (pc : Nat) : xi_ok cX12_least (xi_327 pc) = true := zq1 xi_w327
noncomputable def zi_328_0 : ZIs := [(0, ev_13), (1, ev_184), (2, ev_167), (3, ev_223), (4, ev_221), (5, ev_1314), (8, ev_769), (11, ev_13), (12, ev_189), (13, ev_1333), (16, ev_220), (19, ev_7), (20, ev_222), (23, ev_10), (24, ev_1174), (27, ev_298)]
noncomputable def zi_328_1 : ZIs := [(30, ev_10), (31, ev_81), (32, ev_13), (33, ev_184), (34, ev_7), (35, ev_816), (38, ev_7), (39, ev_222), (42, ev_10), (43, ev_245), (44, ev_245), (45, ev_1431), (48, ev_10), (49, ev_289), (50, ev_13), (51, ev_956)]
noncomputable def zi_328_2 : ZIs := [(54, ev_189), (55, ev_18), (56, ev_190), (57, ev_1416), (60, ev_412), (63, ev_13), (64, ev_956), (67, ev_190), (68, ev_18), (69, ev_189), (70, ev_1416), (73, ev_990), (76, ev_294), (79, ev_851), (82, ev_190), (83, ev_81)]
set_option maxRecDepth 100000 in
theorem xi_w328 : zall cX12_part [zi_328_0, zi_328_1, zi_328_2] := zall_w _ _ (by decide +kernel)
noncomputable def xi_328 (pc : Nat) : XIs := cond (Nat.blt pc 30) (zx zi_328_0) (cond (Nat.blt pc 54) (zx zi_328_1) (zx zi_328_2))
theorem xi_ok328 (pc : Nat) : xi_ok cX12_part (xi_328 pc) = true := xi_c (zq1 xi_w328) (xi_c (zq1 (zq2 xi_w328)) (zq1 (zq2 (zq2 xi_w328))))
noncomputable def zi_329_0 : ZIs := [(0, ev_13), (1, ev_7), (2, ev_184), (3, ev_189), (4, ev_1431), (7, ev_10), (8, ev_289), (9, ev_10), (10, ev_11), (12, ev_12), (14, ev_13), (15, ev_1286), (18, ev_469), (21, ev_190), (22, ev_12), (24, ev_189)]
noncomputable def zi_329_1 : ZIs := [(25, ev_682), (28, ev_13), (29, ev_956), (32, ev_12), (34, ev_18), (35, ev_1488), (38, ev_12), (40, ev_816), (43, ev_7), (44, ev_222), (47, ev_10), (48, ev_22), (49, ev_289), (50, ev_343), (53, ev_1489), (56, ev_190)]
noncomputable def zi_329_2 : ZIs := [(57, ev_81)]
set_option maxRecDepth 100000 in
theorem xi_w329 : zall cX12_weakParts [zi_329_0, zi_329_1, zi_329_2] := zall_w _ _ (by decide +kernel)
noncomputable def xi_329 (pc : Nat) : XIs := cond (Nat.blt pc 25) (zx zi_329_0) (cond (Nat.blt pc 57) (zx zi_329_1) (zx zi_329_2))
theorem xi_ok329 (pc : Nat) : xi_ok cX12_weakParts (xi_329 pc) = true := xi_c (zq1 xi_w329) (xi_c (zq1 (zq2 xi_w329)) (zq1 (zq2 (zq2 xi_w329))))
noncomputable def zi_330_0 : ZIs := [(0, ev_13), (1, ev_13), (2, ev_184), (3, ev_1490), (6, ev_1174), (9, ev_298), (12, ev_10), (13, ev_81), (14, ev_13), (15, ev_184), (16, ev_245), (17, ev_1491), (20, ev_13), (21, ev_245), (22, ev_245), (23, ev_1491)]
noncomputable def zi_330_1 : ZIs := [(26, ev_939), (29, ev_7), (30, ev_222), (33, ev_10), (34, ev_81)]
set_option maxRecDepth 100000 in
theorem xi_w330 : zall cX12_bridge [zi_330_0, zi_330_1] := zall_w _ _ (by decide +kernel)
noncomputable def xi_330 (pc : Nat) : XIs := cond (Nat.blt pc 26) (zx zi_330_0) (zx zi_330_1)
theorem xi_ok330 (pc : Nat) : xi_ok cX12_bridge (xi_330 pc) = true := xi_c (zq1 xi_w330) (zq1 (zq2 xi_w330))
noncomputable def zi_331_0 : ZIs := [(0, ev_13), (1, ev_13), (2, ev_184), (3, ev_1333), (6, ev_1174), (9, ev_298), (12, ev_10), (13, ev_81), (14, ev_13), (15, ev_245), (16, ev_184), (17, ev_1491), (20, ev_13), (21, ev_245), (22, ev_245), (23, ev_1491)]
noncomputable def zi_331_1 : ZIs := [(26, ev_939), (29, ev_7), (30, ev_222), (33, ev_10), (34, ev_81)]
set_option maxRecDepth 100000 in
theorem xi_w331 : zall cX12_cut [zi_331_0, zi_331_1] := zall_w _ _ (by decide +kernel)
noncomputable def xi_331 (pc : Nat) : XIs := cond (Nat.blt pc 26) (zx zi_331_0) (zx zi_331_1)
theorem xi_ok331 (pc : Nat) : xi_ok cX12_cut (xi_331 pc) = true := xi_c (zq1 xi_w331) (zq1 (zq2 xi_w331))
noncomputable def zi_332_0 : ZIs := [(0, ev_13), (1, ev_184), (2, ev_829), (5, ev_7), (6, ev_222), (9, ev_10), (10, ev_1174), (13, ev_298), (16, ev_10), (17, ev_81), (18, ev_10), (19, ev_288), (20, ev_245), (21, ev_289), (22, ev_245), (23, ev_11)]
noncomputable def zi_332_1 : ZIs := [(25, ev_10), (26, ev_25), (28, ev_191), (30, ev_13), (31, ev_1286), (34, ev_1492), (37, ev_245), (38, ev_289), (39, ev_13), (40, ev_1286), (43, ev_7), (44, ev_16), (45, ev_28), (47, ev_265), (49, ev_1493), (52, ev_189)]
noncomputable def zi_332_2 : ZIs := [(53, ev_265), (55, ev_1416), (58, ev_321), (61, ev_7), (62, ev_222), (65, ev_10), (66, ev_269), (68, ev_13), (69, ev_1289), (72, ev_308), (74, ev_309), (76, ev_13), (77, ev_1289), (80, ev_527), (83, ev_22), (84, ev_722)]
noncomputable def zi_332_3 : ZIs := [(87, ev_270), (89, ev_1494), (92, ev_13), (93, ev_1288), (96, ev_309), (98, ev_1290), (99, ev_411), (102, ev_13), (103, ev_1036), (106, ev_309), (108, ev_18), (109, ev_265), (111, ev_1495), (114, ev_189), (115, ev_13), (116, ev_1300)]
noncomputable def zi_332_4 : ZIs := [(119, ev_309), (121, ev_18), (122, ev_1416), (125, ev_220), (128, ev_7), (129, ev_222), (132, ev_10), (133, ev_269), (135, ev_313), (138, ev_1496), (141, ev_270), (143, ev_325), (146, ev_265), (148, ev_222), (151, ev_190), (152, ev_289)]
noncomputable def zi_332_5 : ZIs := [(153, ev_1497), (156, ev_327), (159, ev_190), (160, ev_245), (161, ev_689), (164, ev_245), (165, ev_81), (166, ev_189), (167, ev_7), (168, ev_190), (169, ev_271), (170, ev_272), (171, ev_288), (172, ev_191), (174, ev_184), (175, ev_816)]
noncomputable def zi_332_6 : ZIs := [(178, ev_190), (179, ev_636), (182, ev_12), (184, ev_11), (186, ev_338), (189, ev_1498), (192, ev_12), (194, ev_81)]
set_option maxRecDepth 100000 in
theorem xi_w332 : zall cX12_order [zi_332_0, zi_332_1, zi_332_2, zi_332_3, zi_332_4, zi_332_5, zi_332_6] := zall_w _ _ (by decide +kernel)
noncomputable def xi_332 (pc : Nat) : XIs := cond (Nat.blt pc 87) (cond (Nat.blt pc 25) (zx zi_332_0) (cond (Nat.blt pc 53) (zx zi_332_1) (zx zi_332_2))) (cond (Nat.blt pc 153) (cond (Nat.blt pc 119) (zx zi_332_3) (zx zi_332_4)) (cond (Nat.blt pc 178) (zx zi_332_5) (zx zi_332_6)))
theorem xi_ok332 (pc : Nat) : xi_ok cX12_order (xi_332 pc) = true := xi_c (xi_c (zq1 xi_w332) (xi_c (zq1 (zq2 xi_w332)) (zq1 (zq2 (zq2 xi_w332))))) (xi_c (xi_c (zq1 (zq2 (zq2 (zq2 xi_w332)))) (zq1 (zq2 (zq2 (zq2 (zq2 xi_w332)))))) (xi_c (zq1 (zq2 (zq2 (zq2 (zq2 (zq2 xi_w332)))))) (zq1 (zq2 (zq2 (zq2 (zq2 (zq2 (zq2 xi_w332)))))))))
noncomputable def zi_333_0 : ZIs := [(0, ev_10), (1, ev_289), (2, ev_10), (3, ev_11), (5, ev_12), (7, ev_527), (10, ev_1499), (13, ev_13), (14, ev_12), (16, ev_1177), (19, ev_1500), (22, ev_13), (23, ev_1300), (26, ev_13), (27, ev_1289), (30, ev_12)]
noncomputable def zi_333_1 : ZIs := [(32, ev_22), (33, ev_18), (34, ev_25), (36, ev_13), (37, ev_1036), (40, ev_13), (41, ev_1289), (44, ev_12), (46, ev_22), (47, ev_18), (48, ev_28), (50, ev_190), (51, ev_191), (53, ev_184), (54, ev_688), (57, ev_189)]
noncomputable def zi_333_2 : ZIs := [(58, ev_265), (60, ev_1416), (63, ev_1303), (66, ev_265), (68, ev_184), (69, ev_536), (72, ev_189), (73, ev_191), (75, ev_1416), (78, ev_220), (81, ev_7), (82, ev_222), (85, ev_10), (86, ev_22), (87, ev_289), (88, ev_343)]
noncomputable def zi_333_3 : ZIs := [(91, ev_1501), (94, ev_190), (95, ev_81)]
set_option maxRecDepth 100000 in
theorem xi_w333 : zall cX12_jointsWith [zi_333_0, zi_333_1, zi_333_2, zi_333_3] := zall_w _ _ (by decide +kernel)
noncomputable def xi_333 (pc : Nat) : XIs := cond (Nat.blt pc 58) (cond (Nat.blt pc 32) (zx zi_333_0) (zx zi_333_1)) (cond (Nat.blt pc 91) (zx zi_333_2) (zx zi_333_3))
theorem xi_ok333 (pc : Nat) : xi_ok cX12_jointsWith (xi_333 pc) = true := xi_c (xi_c (zq1 xi_w333) (zq1 (zq2 xi_w333))) (xi_c (zq1 (zq2 (zq2 xi_w333))) (zq1 (zq2 (zq2 (zq2 xi_w333)))))
noncomputable def zi_334_0 : ZIs := [(0, ev_13), (1, ev_13), (2, ev_184), (3, ev_1333), (6, ev_1174), (9, ev_298), (12, ev_10), (13, ev_81), (14, ev_13), (15, ev_1286), (18, ev_168), (20, ev_816), (23, ev_245), (24, ev_193), (27, ev_7), (28, ev_13)]
noncomputable def zi_334_1 : ZIs := [(29, ev_1286), (32, ev_271), (33, ev_7), (34, ev_16), (35, ev_288), (36, ev_10), (37, ev_289), (38, ev_10), (39, ev_11), (41, ev_189), (42, ev_184), (43, ev_1416), (46, ev_1502), (49, ev_190), (50, ev_11), (52, ev_294)]
noncomputable def zi_334_2 : ZIs := [(55, ev_7), (56, ev_25), (58, ev_191), (60, ev_348), (63, ev_10), (64, ev_25), (66, ev_10), (67, ev_28), (69, ev_265), (71, ev_13), (72, ev_1286), (75, ev_687), (78, ev_189), (79, ev_265), (81, ev_1416), (84, ev_1168)]
noncomputable def zi_334_3 : ZIs := [(87, ev_13), (88, ev_265), (90, ev_189), (91, ev_1503), (94, ev_190), (95, ev_1153), (98, ev_189), (99, ev_7), (100, ev_265), (102, ev_271), (103, ev_245), (104, ev_312), (105, ev_20), (106, ev_288), (107, ev_7), (108, ev_25)]
noncomputable def zi_334_4 : ZIs := [(110, ev_315), (113, ev_970), (116, ev_352), (119, ev_742), (122, ev_12), (124, ev_81)]
set_option maxRecDepth 100000 in
theorem xi_w334 : zall cX12_core [zi_334_0, zi_334_1, zi_334_2, zi_334_3, zi_334_4] := zall_w _ _ (by decide +kernel)
noncomputable def xi_334 (pc : Nat) : XIs := cond (Nat.blt pc 55) (cond (Nat.blt pc 29) (zx zi_334_0) (zx zi_334_1)) (cond (Nat.blt pc 87) (zx zi_334_2) (cond (Nat.blt pc 110) (zx zi_334_3) (zx zi_334_4)))
theorem xi_ok334 (pc : Nat) : xi_ok cX12_core (xi_334 pc) = true := xi_c (xi_c (zq1 xi_w334) (zq1 (zq2 xi_w334))) (xi_c (zq1 (zq2 (zq2 xi_w334))) (xi_c (zq1 (zq2 (zq2 (zq2 xi_w334)))) (zq1 (zq2 (zq2 (zq2 (zq2 xi_w334)))))))
noncomputable def zi_335_0 : ZIs := [(0, ev_10), (1, ev_683), (2, ev_184), (3, ev_13), (4, ev_1286), (7, ev_1113), (10, ev_13), (11, ev_1504), (14, ev_184), (15, ev_10), (16, ev_293), (17, ev_686), (20, ev_1474), (23, ev_10), (24, ev_683), (25, ev_184)]
noncomputable def zi_335_1 : ZIs := [(26, ev_527), (29, ev_877), (32, ev_13), (33, ev_184), (34, ev_1177), (37, ev_1505), (40, ev_13), (41, ev_1504), (44, ev_13), (45, ev_1300), (48, ev_13), (49, ev_1289), (52, ev_184), (53, ev_22), (54, ev_18), (55, ev_311)]
noncomputable def zi_335_2 : ZIs := [(56, ev_18), (57, ev_7), (58, ev_13), (59, ev_1036), (62, ev_13), (63, ev_1289), (66, ev_184), (67, ev_22), (68, ev_18), (69, ev_271), (70, ev_272), (71, ev_293), (72, ev_13), (73, ev_1504), (76, ev_13), (77, ev_1036)]
noncomputable def zi_335_3 : ZIs := [(80, ev_13), (81, ev_1289), (84, ev_184), (85, ev_22), (86, ev_18), (87, ev_311), (88, ev_18), (89, ev_7), (90, ev_13), (91, ev_1300), (94, ev_13), (95, ev_1289), (98, ev_184), (99, ev_22), (100, ev_18), (101, ev_271)]
noncomputable def zi_335_4 : ZIs := [(102, ev_272), (103, ev_293), (104, ev_686), (107, ev_1506), (110, ev_253)]
set_option maxRecDepth 100000 in
theorem xi_w335 : zall cX12_findBeside [zi_335_0, zi_335_1, zi_335_2, zi_335_3, zi_335_4] := zall_w _ _ (by decide +kernel)
noncomputable def xi_335 (pc : Nat) : XIs := cond (Nat.blt pc 56) (cond (Nat.blt pc 26) (zx zi_335_0) (zx zi_335_1)) (cond (Nat.blt pc 80) (zx zi_335_2) (cond (Nat.blt pc 102) (zx zi_335_3) (zx zi_335_4)))
theorem xi_ok335 (pc : Nat) : xi_ok cX12_findBeside (xi_335 pc) = true := xi_c (xi_c (zq1 xi_w335) (zq1 (zq2 xi_w335))) (xi_c (zq1 (zq2 (zq2 xi_w335))) (xi_c (zq1 (zq2 (zq2 (zq2 xi_w335)))) (zq1 (zq2 (zq2 (zq2 (zq2 xi_w335)))))))
noncomputable def zi_336_0 : ZIs := [(0, ev_10), (1, ev_683), (2, ev_10), (3, ev_288), (4, ev_189), (5, ev_168), (7, ev_681), (10, ev_184), (11, ev_480), (12, ev_189), (13, ev_297), (14, ev_7), (15, ev_20), (16, ev_22), (17, ev_683), (18, ev_299)]
noncomputable def zi_336_1 : ZIs := [(21, ev_1507), (24, ev_184), (25, ev_81)]
set_option maxRecDepth 100000 in
theorem xi_w336 : zall cX12_count [zi_336_0, zi_336_1] := zall_w _ _ (by decide +kernel)
noncomputable def xi_336 (pc : Nat) : XIs := cond (Nat.blt pc 21) (zx zi_336_0) (zx zi_336_1)
theorem xi_ok336 (pc : Nat) : xi_ok cX12_count (xi_336 pc) = true := xi_c (zq1 xi_w336) (zq1 (zq2 xi_w336))
noncomputable def zi_337_0 : ZIs := [(0, ev_13), (1, ev_1508), (4, ev_10), (5, ev_683), (6, ev_10), (7, ev_288), (8, ev_10), (9, ev_289), (10, ev_13), (11, ev_1509), (14, ev_10), (15, ev_13), (16, ev_1286), (19, ev_168), (21, ev_816), (24, ev_245)]
noncomputable def zi_337_1 : ZIs := [(25, ev_193), (28, ev_7), (29, ev_13), (30, ev_1286), (33, ev_271), (34, ev_7), (35, ev_16), (36, ev_293), (37, ev_13), (38, ev_1510), (41, ev_10), (42, ev_10), (43, ev_293), (44, ev_190), (45, ev_1511), (48, ev_190)]
noncomputable def zi_337_2 : ZIs := [(49, ev_189), (50, ev_1512), (53, ev_190), (54, ev_288), (55, ev_13), (56, ev_1510), (59, ev_190), (60, ev_18), (61, ev_683), (62, ev_13), (63, ev_1509), (66, ev_190), (67, ev_18), (68, ev_388), (71, ev_190), (72, ev_13)]
noncomputable def zi_337_3 : ZIs := [(73, ev_1509), (76, ev_190), (77, ev_18), (78, ev_1513), (81, ev_22), (82, ev_189), (83, ev_1514), (86, ev_476), (89, ev_728), (92, ev_13), (93, ev_1509), (96, ev_190), (97, ev_18), (98, ev_1488), (101, ev_11), (103, ev_13)]
noncomputable def zi_337_4 : ZIs := [(104, ev_1509), (107, ev_190), (108, ev_311), (109, ev_18), (110, ev_7), (111, ev_12), (113, ev_271), (114, ev_245), (115, ev_312), (116, ev_20), (117, ev_293), (118, ev_13), (119, ev_1509), (122, ev_190), (123, ev_7), (124, ev_22)]
noncomputable def zi_337_5 : ZIs := [(125, ev_13), (126, ev_1509), (129, ev_190), (130, ev_18), (131, ev_13), (132, ev_1504), (135, ev_12), (137, ev_18), (138, ev_20), (139, ev_293), (140, ev_13), (141, ev_1510), (144, ev_190), (145, ev_7), (146, ev_22), (147, ev_13)]
noncomputable def zi_337_6 : ZIs := [(148, ev_1510), (151, ev_190), (152, ev_18), (153, ev_7), (154, ev_12), (156, ev_271), (157, ev_272), (158, ev_293), (159, ev_294), (162, ev_718), (165, ev_184), (166, ev_81)]
set_option maxRecDepth 100000 in
theorem xi_w337 : zall cX12_findClique [zi_337_0, zi_337_1, zi_337_2, zi_337_3, zi_337_4, zi_337_5, zi_337_6] := zall_w _ _ (by decide +kernel)
noncomputable def xi_337 (pc : Nat) : XIs := cond (Nat.blt pc 73) (cond (Nat.blt pc 25) (zx zi_337_0) (cond (Nat.blt pc 49) (zx zi_337_1) (zx zi_337_2))) (cond (Nat.blt pc 125) (cond (Nat.blt pc 104) (zx zi_337_3) (zx zi_337_4)) (cond (Nat.blt pc 148) (zx zi_337_5) (zx zi_337_6)))
theorem xi_ok337 (pc : Nat) : xi_ok cX12_findClique (xi_337 pc) = true := xi_c (xi_c (zq1 xi_w337) (xi_c (zq1 (zq2 xi_w337)) (zq1 (zq2 (zq2 xi_w337))))) (xi_c (xi_c (zq1 (zq2 (zq2 (zq2 xi_w337)))) (zq1 (zq2 (zq2 (zq2 (zq2 xi_w337)))))) (xi_c (zq1 (zq2 (zq2 (zq2 (zq2 (zq2 xi_w337)))))) (zq1 (zq2 (zq2 (zq2 (zq2 (zq2 (zq2 xi_w337)))))))))
noncomputable def zi_338_0 : ZIs := [(0, ev_13), (1, ev_184), (2, ev_829), (5, ev_7), (6, ev_222), (9, ev_10), (10, ev_1174), (13, ev_298), (16, ev_10), (17, ev_81), (18, ev_13), (19, ev_1515), (22, ev_288), (23, ev_10), (24, ev_289), (25, ev_10)]
noncomputable def zi_338_1 : ZIs := [(26, ev_11), (28, ev_12), (30, ev_13), (31, ev_1286), (34, ev_861), (37, ev_189), (38, ev_12), (40, ev_1416), (43, ev_1002), (46, ev_190), (47, ev_184), (48, ev_772), (51, ev_12), (53, ev_81), (54, ev_294), (57, ev_343)]
noncomputable def zi_338_2 : ZIs := [(60, ev_691), (63, ev_245), (64, ev_81)]
set_option maxRecDepth 100000 in
theorem xi_w338 : zall cX12_clique [zi_338_0, zi_338_1, zi_338_2] := zall_w _ _ (by decide +kernel)
noncomputable def xi_338 (pc : Nat) : XIs := cond (Nat.blt pc 26) (zx zi_338_0) (cond (Nat.blt pc 60) (zx zi_338_1) (zx zi_338_2))
theorem xi_ok338 (pc : Nat) : xi_ok cX12_clique (xi_338 pc) = true := xi_c (zq1 xi_w338) (xi_c (zq1 (zq2 xi_w338)) (zq1 (zq2 (zq2 xi_w338))))
noncomputable def zi_339_0 : ZIs := [(0, ev_10), (1, ev_288), (2, ev_10), (3, ev_289), (4, ev_190), (5, ev_13), (6, ev_1286), (9, ev_719), (12, ev_189), (13, ev_13), (14, ev_1504), (17, ev_184), (18, ev_18), (19, ev_190), (20, ev_1416), (23, ev_767)]
noncomputable def zi_339_1 : ZIs := [(26, ev_13), (27, ev_1516), (30, ev_190), (31, ev_18), (32, ev_1156), (35, ev_7), (36, ev_13), (37, ev_1516), (40, ev_190), (41, ev_18), (42, ev_271), (43, ev_222), (46, ev_10), (47, ev_272), (48, ev_288), (49, ev_294)]
noncomputable def zi_339_2 : ZIs := [(52, ev_568), (55, ev_189), (56, ev_81)]
set_option maxRecDepth 100000 in
theorem xi_w339 : zall cX12_barsOf [zi_339_0, zi_339_1, zi_339_2] := zall_w _ _ (by decide +kernel)
noncomputable def xi_339 (pc : Nat) : XIs := cond (Nat.blt pc 26) (zx zi_339_0) (cond (Nat.blt pc 52) (zx zi_339_1) (zx zi_339_2))
theorem xi_ok339 (pc : Nat) : xi_ok cX12_barsOf (xi_339 pc) = true := xi_c (zq1 xi_w339) (xi_c (zq1 (zq2 xi_w339)) (zq1 (zq2 (zq2 xi_w339))))
noncomputable def zi_340_0 : ZIs := [(0, ev_245), (1, ev_288), (2, ev_10), (3, ev_289), (4, ev_10), (5, ev_11), (7, ev_10), (8, ev_25), (10, ev_191), (12, ev_13), (13, ev_1286), (16, ev_1403), (19, ev_13), (20, ev_1517), (23, ev_191), (25, ev_1416)]
noncomputable def zi_340_1 : ZIs := [(28, ev_1518), (31, ev_13), (32, ev_1516), (35, ev_191), (37, ev_18), (38, ev_1519), (41, ev_184), (42, ev_13), (43, ev_191), (45, ev_1520), (48, ev_1513), (51, ev_16), (52, ev_28), (54, ev_13), (55, ev_1504), (58, ev_191)]
noncomputable def zi_340_2 : ZIs := [(60, ev_18), (61, ev_1513), (64, ev_269), (66, ev_189), (67, ev_1169), (70, ev_265), (72, ev_190), (73, ev_1521), (76, ev_265), (78, ev_190), (79, ev_1050), (82, ev_270), (84, ev_12), (86, ev_1522), (89, ev_191), (91, ev_288)]
noncomputable def zi_340_3 : ZIs := [(92, ev_265), (94, ev_289), (95, ev_270), (97, ev_11), (99, ev_338), (102, ev_637), (105, ev_189), (106, ev_81)]
set_option maxRecDepth 100000 in
theorem xi_w340 : zall cX12_tightest [zi_340_0, zi_340_1, zi_340_2, zi_340_3] := zall_w _ _ (by decide +kernel)
noncomputable def xi_340 (pc : Nat) : XIs := cond (Nat.blt pc 60) (cond (Nat.blt pc 28) (zx zi_340_0) (zx zi_340_1)) (cond (Nat.blt pc 92) (zx zi_340_2) (zx zi_340_3))
theorem xi_ok340 (pc : Nat) : xi_ok cX12_tightest (xi_340 pc) = true := xi_c (xi_c (zq1 xi_w340) (zq1 (zq2 xi_w340))) (xi_c (zq1 (zq2 (zq2 xi_w340))) (zq1 (zq2 (zq2 (zq2 xi_w340)))))
noncomputable def zi_341_0 : ZIs := [(0, ev_10), (1, ev_288), (2, ev_10), (3, ev_289), (4, ev_190), (5, ev_13), (6, ev_1286), (9, ev_641), (12, ev_189), (13, ev_13), (14, ev_1516), (17, ev_190), (18, ev_18), (19, ev_948), (22, ev_7), (23, ev_190)]
noncomputable def zi_341_1 : ZIs := [(24, ev_271), (25, ev_222), (28, ev_10), (29, ev_272), (30, ev_288), (31, ev_294), (34, ev_643), (37, ev_7), (38, ev_289), (39, ev_190), (40, ev_1523), (43, ev_10), (44, ev_289), (45, ev_10), (46, ev_11), (48, ev_12)]
noncomputable def zi_341_2 : ZIs := [(50, ev_13), (51, ev_1286), (54, ev_936), (57, ev_189), (58, ev_12), (60, ev_1416), (63, ev_865), (66, ev_184), (67, ev_13), (68, ev_12), (70, ev_1520), (73, ev_1513), (76, ev_16), (77, ev_13), (78, ev_1504), (81, ev_12)]
noncomputable def zi_341_3 : ZIs := [(83, ev_18), (84, ev_189), (85, ev_20), (86, ev_1513), (89, ev_1524), (92, ev_189), (93, ev_7), (94, ev_12), (96, ev_271), (97, ev_245), (98, ev_312), (99, ev_20), (100, ev_288), (101, ev_7), (102, ev_289), (103, ev_343)]
noncomputable def zi_341_4 : ZIs := [(106, ev_352), (109, ev_1033), (112, ev_189), (113, ev_81)]
set_option maxRecDepth 100000 in
theorem xi_w341 : zall cX12_tough [zi_341_0, zi_341_1, zi_341_2, zi_341_3, zi_341_4] := zall_w _ _ (by decide +kernel)
noncomputable def xi_341 (pc : Nat) : XIs := cond (Nat.blt pc 50) (cond (Nat.blt pc 24) (zx zi_341_0) (zx zi_341_1)) (cond (Nat.blt pc 83) (zx zi_341_2) (cond (Nat.blt pc 106) (zx zi_341_3) (zx zi_341_4)))
theorem xi_ok341 (pc : Nat) : xi_ok cX12_tough (xi_341 pc) = true := xi_c (xi_c (zq1 xi_w341) (zq1 (zq2 xi_w341))) (xi_c (zq1 (zq2 (zq2 xi_w341))) (xi_c (zq1 (zq2 (zq2 (zq2 xi_w341)))) (zq1 (zq2 (zq2 (zq2 (zq2 xi_w341)))))))
noncomputable def zi_342_0 : ZIs := [(0, ev_7), (1, ev_184), (2, ev_271), (3, ev_289), (4, ev_10), (5, ev_11), (7, ev_190), (8, ev_12), (10, ev_1525), (13, ev_190), (14, ev_11), (16, ev_10), (17, ev_25), (19, ev_191), (21, ev_13), (22, ev_1286)]
noncomputable def zi_342_1 : ZIs := [(25, ev_291), (28, ev_190), (29, ev_12), (31, ev_191), (33, ev_1416), (36, ev_769), (39, ev_13), (40, ev_1504), (43, ev_191), (45, ev_18), (46, ev_189), (47, ev_20), (48, ev_222), (51, ev_10), (52, ev_272), (53, ev_289)]
noncomputable def zi_342_2 : ZIs := [(54, ev_338), (57, ev_581), (60, ev_1526), (63, ev_190), (64, ev_81)]
set_option maxRecDepth 100000 in
theorem xi_w342 : zall cX12_hanging [zi_342_0, zi_342_1, zi_342_2] := zall_w _ _ (by decide +kernel)
noncomputable def xi_342 (pc : Nat) : XIs := cond (Nat.blt pc 25) (zx zi_342_0) (cond (Nat.blt pc 54) (zx zi_342_1) (zx zi_342_2))
theorem xi_ok342 (pc : Nat) : xi_ok cX12_hanging (xi_342 pc) = true := xi_c (zq1 xi_w342) (xi_c (zq1 (zq2 xi_w342)) (zq1 (zq2 (zq2 xi_w342))))
noncomputable def zi_343_0 : ZIs := [(0, ev_10), (1, ev_288), (2, ev_10), (3, ev_289), (4, ev_190), (5, ev_13), (6, ev_1286), (9, ev_1527), (12, ev_13), (13, ev_1516), (16, ev_190), (17, ev_13), (18, ev_1528), (21, ev_190), (22, ev_18), (23, ev_293)]
noncomputable def zi_343_1 : ZIs := [(24, ev_13), (25, ev_1528), (28, ev_190), (29, ev_18), (30, ev_189), (31, ev_599), (34, ev_13), (35, ev_1528), (38, ev_190), (39, ev_18), (40, ev_7), (41, ev_22), (42, ev_222), (45, ev_189), (46, ev_288), (47, ev_294)]
noncomputable def zi_343_2 : ZIs := [(50, ev_1529), (53, ev_13), (54, ev_184), (55, ev_1530), (58, ev_289), (59, ev_7), (60, ev_11), (62, ev_12), (64, ev_1523), (67, ev_190), (68, ev_1531), (71, ev_13), (72, ev_13), (73, ev_190), (74, ev_1488), (77, ev_190)]
noncomputable def zi_343_3 : ZIs := [(78, ev_1532), (81, ev_1533), (84, ev_190), (85, ev_13), (86, ev_1517), (89, ev_245), (90, ev_312), (91, ev_20), (92, ev_289), (93, ev_13), (94, ev_184), (95, ev_189), (96, ev_1534), (99, ev_11), (101, ev_10), (102, ev_25)]
noncomputable def zi_343_4 : ZIs := [(104, ev_191), (106, ev_13), (107, ev_1286), (110, ev_341), (113, ev_13), (114, ev_1516), (117, ev_191), (119, ev_13), (120, ev_1528), (123, ev_191), (125, ev_18), (126, ev_293), (127, ev_338), (130, ev_560), (133, ev_1469), (136, ev_12)]
noncomputable def zi_343_5 : ZIs := [(138, ev_81)]
set_option maxRecDepth 100000 in
theorem xi_w343 : zall cX12_isColourable [zi_343_0, zi_343_1, zi_343_2, zi_343_3, zi_343_4, zi_343_5] := zall_w _ _ (by decide +kernel)
noncomputable def xi_343 (pc : Nat) : XIs := cond (Nat.blt pc 78) (cond (Nat.blt pc 24) (zx zi_343_0) (cond (Nat.blt pc 50) (zx zi_343_1) (zx zi_343_2))) (cond (Nat.blt pc 104) (zx zi_343_3) (cond (Nat.blt pc 138) (zx zi_343_4) (zx zi_343_5)))
theorem xi_ok343 (pc : Nat) : xi_ok cX12_isColourable (xi_343 pc) = true := xi_c (xi_c (zq1 xi_w343) (xi_c (zq1 (zq2 xi_w343)) (zq1 (zq2 (zq2 xi_w343))))) (xi_c (zq1 (zq2 (zq2 (zq2 xi_w343)))) (xi_c (zq1 (zq2 (zq2 (zq2 (zq2 xi_w343))))) (zq1 (zq2 (zq2 (zq2 (zq2 (zq2 xi_w343))))))))
noncomputable def zi_344_0 : ZIs := [(0, ev_12), (2, ev_168), (4, ev_816), (7, ev_245), (8, ev_187), (11, ev_7), (12, ev_12), (14, ev_271), (15, ev_7), (16, ev_16), (17, ev_25), (19, ev_13), (20, ev_1535), (23, ev_184), (24, ev_189), (25, ev_293)]
noncomputable def zi_344_1 : ZIs := [(26, ev_13), (27, ev_1536), (30, ev_184), (31, ev_190), (32, ev_293), (33, ev_13), (34, ev_1537), (37, ev_184), (38, ev_191), (40, ev_13), (41, ev_189), (42, ev_1520), (45, ev_245), (46, ev_312), (47, ev_20), (48, ev_190)]
noncomputable def zi_344_2 : ZIs := [(49, ev_12), (51, ev_1538), (54, ev_20), (55, ev_293), (56, ev_10), (57, ev_28), (59, ev_10), (60, ev_269), (62, ev_270), (64, ev_184), (65, ev_341), (68, ev_265), (70, ev_7), (71, ev_13), (72, ev_1535), (75, ev_270)]
noncomputable def zi_344_3 : ZIs := [(77, ev_18), (78, ev_271), (79, ev_272), (80, ev_28), (82, ev_953), (85, ev_709), (88, ev_13), (89, ev_1539), (92, ev_184), (93, ev_190), (94, ev_7), (95, ev_22), (96, ev_12), (98, ev_858), (101, ev_265), (103, ev_1118)]
noncomputable def zi_344_4 : ZIs := [(106, ev_265), (108, ev_13), (109, ev_1504), (112, ev_189), (113, ev_18), (114, ev_20), (115, ev_293), (116, ev_253)]
set_option maxRecDepth 100000 in
theorem xi_w344 : zall cX12_begin [zi_344_0, zi_344_1, zi_344_2, zi_344_3, zi_344_4] := zall_w _ _ (by decide +kernel)
noncomputable def xi_344 (pc : Nat) : XIs := cond (Nat.blt pc 49) (cond (Nat.blt pc 26) (zx zi_344_0) (zx zi_344_1)) (cond (Nat.blt pc 77) (zx zi_344_2) (cond (Nat.blt pc 106) (zx zi_344_3) (zx zi_344_4)))
theorem xi_ok344 (pc : Nat) : xi_ok cX12_begin (xi_344 pc) = true := xi_c (xi_c (zq1 xi_w344) (zq1 (zq2 xi_w344))) (xi_c (zq1 (zq2 (zq2 xi_w344))) (xi_c (zq1 (zq2 (zq2 (zq2 xi_w344)))) (zq1 (zq2 (zq2 (zq2 (zq2 xi_w344)))))))
noncomputable def zi_345_0 : ZIs := [(0, ev_10), (1, ev_289), (2, ev_13), (3, ev_10), (4, ev_13), (5, ev_184), (6, ev_1540), (9, ev_189), (10, ev_184), (11, ev_1541), (14, ev_190), (15, ev_1542), (18, ev_13), (19, ev_1535), (22, ev_190), (23, ev_18)]
noncomputable def zi_345_1 : ZIs := [(24, ev_11), (26, ev_13), (27, ev_1516), (30, ev_12), (32, ev_245), (33, ev_293), (34, ev_13), (35, ev_1537), (38, ev_190), (39, ev_18), (40, ev_1543), (43, ev_13), (44, ev_1539), (47, ev_190), (48, ev_18), (49, ev_25)]
noncomputable def zi_345_2 : ZIs := [(51, ev_476), (54, ev_190), (55, ev_1544), (58, ev_191), (60, ev_13), (61, ev_1535), (64, ev_190), (65, ev_18), (66, ev_1416), (69, ev_1367), (72, ev_13), (73, ev_1516), (76, ev_13), (77, ev_1535), (80, ev_190), (81, ev_18)]
noncomputable def zi_345_3 : ZIs := [(82, ev_245), (83, ev_293), (84, ev_476), (87, ev_859), (90, ev_190), (91, ev_680), (94, ev_13), (95, ev_1539), (98, ev_190), (99, ev_311), (100, ev_18), (101, ev_191), (103, ev_7), (104, ev_13), (105, ev_1535), (108, ev_190)]
noncomputable def zi_345_4 : ZIs := [(109, ev_18), (110, ev_271), (111, ev_245), (112, ev_312), (113, ev_20), (114, ev_272), (115, ev_293), (116, ev_1545), (119, ev_13), (120, ev_1537), (123, ev_190), (124, ev_18), (125, ev_1488), (128, ev_25), (130, ev_13), (131, ev_1537)]
noncomputable def zi_345_5 : ZIs := [(134, ev_190), (135, ev_311), (136, ev_18), (137, ev_7), (138, ev_191), (140, ev_271), (141, ev_245), (142, ev_312), (143, ev_20), (144, ev_293), (145, ev_13), (146, ev_1516), (149, ev_12), (151, ev_191), (153, ev_293), (154, ev_13)]
noncomputable def zi_345_6 : ZIs := [(155, ev_184), (156, ev_1540), (159, ev_28), (161, ev_265), (163, ev_1546), (166, ev_7), (167, ev_81), (168, ev_294), (171, ev_13), (172, ev_190), (173, ev_265), (175, ev_191), (177, ev_13), (178, ev_1536), (181, ev_190), (182, ev_7)]
noncomputable def zi_345_7 : ZIs := [(183, ev_16), (184, ev_18), (185, ev_1547), (188, ev_191), (190, ev_7), (191, ev_22), (192, ev_193), (195, ev_13), (196, ev_1536), (199, ev_190), (200, ev_7), (201, ev_16), (202, ev_18), (203, ev_184), (204, ev_1541), (207, ev_1548)]
noncomputable def zi_345_8 : ZIs := [(210, ev_10), (211, ev_81)]
set_option maxRecDepth 100000 in
theorem xi_w345 : zall cX12_isPartColourable [zi_345_0, zi_345_1, zi_345_2, zi_345_3, zi_345_4, zi_345_5, zi_345_6, zi_345_7, zi_345_8] := zall_w _ _ (by decide +kernel)
noncomputable def xi_345 (pc : Nat) : XIs := cond (Nat.blt pc 109) (cond (Nat.blt pc 51) (cond (Nat.blt pc 24) (zx zi_345_0) (zx zi_345_1)) (cond (Nat.blt pc 82) (zx zi_345_2) (zx zi_345_3))) (cond (Nat.blt pc 155) (cond (Nat.blt pc 134) (zx zi_345_4) (zx zi_345_5)) (cond (Nat.blt pc 183) (zx zi_345_6) (cond (Nat.blt pc 210) (zx zi_345_7) (zx zi_345_8))))
theorem xi_ok345 (pc : Nat) : xi_ok cX12_isPartColourable (xi_345 pc) = true := xi_c (xi_c (xi_c (zq1 xi_w345) (zq1 (zq2 xi_w345))) (xi_c (zq1 (zq2 (zq2 xi_w345))) (zq1 (zq2 (zq2 (zq2 xi_w345)))))) (xi_c (xi_c (zq1 (zq2 (zq2 (zq2 (zq2 xi_w345))))) (zq1 (zq2 (zq2 (zq2 (zq2 (zq2 xi_w345))))))) (xi_c (zq1 (zq2 (zq2 (zq2 (zq2 (zq2 (zq2 xi_w345))))))) (xi_c (zq1 (zq2 (zq2 (zq2 (zq2 (zq2 (zq2 (zq2 xi_w345)))))))) (zq1 (zq2 (zq2 (zq2 (zq2 (zq2 (zq2 (zq2 (zq2 xi_w345))))))))))))
noncomputable def zi_346_0 : ZIs := [(0, ev_480), (1, ev_7), (2, ev_22), (3, ev_184), (4, ev_470), (7, ev_480), (8, ev_7), (9, ev_22), (10, ev_222), (13, ev_184), (14, ev_288), (15, ev_189), (16, ev_168), (18, ev_611), (21, ev_245), (22, ev_984)]
noncomputable def zi_346_1 : ZIs := [(25, ev_7), (26, ev_189), (27, ev_271), (28, ev_7), (29, ev_16), (30, ev_81)]
set_option maxRecDepth 100000 in
theorem xi_w346 : zall cX12_capped [zi_346_0, zi_346_1] := zall_w _ _ (by decide +kernel)
noncomputable def xi_346 (pc : Nat) : XIs := cond (Nat.blt pc 25) (zx zi_346_0) (zx zi_346_1)
theorem xi_ok346 (pc : Nat) : xi_ok cX12_capped (xi_346 pc) = true := xi_c (zq1 xi_w346) (zq1 (zq2 xi_w346))
noncomputable def zi_347_0 : ZIs := [(0, ev_13), (1, ev_13), (2, ev_184), (3, ev_1333), (6, ev_1174), (9, ev_298), (12, ev_10), (13, ev_81), (14, ev_13), (15, ev_1515), (18, ev_1513), (21, ev_288), (22, ev_10), (23, ev_289), (24, ev_190), (25, ev_13)]
noncomputable def zi_347_1 : ZIs := [(26, ev_1286), (29, ev_1113), (32, ev_13), (33, ev_1528), (36, ev_190), (37, ev_245), (38, ev_293), (39, ev_294), (42, ev_1474), (45, ev_13), (46, ev_189), (47, ev_1549), (50, ev_990), (53, ev_299), (56, ev_1487), (59, ev_10)]
noncomputable def zi_347_2 : ZIs := [(60, ev_289), (61, ev_190), (62, ev_184), (63, ev_1550), (66, ev_245), (67, ev_11), (69, ev_10), (70, ev_25), (72, ev_191), (74, ev_1551), (77, ev_343), (80, ev_13), (81, ev_1528), (84, ev_190), (85, ev_245), (86, ev_293)]
noncomputable def zi_347_3 : ZIs := [(87, ev_10), (88, ev_28), (90, ev_265), (92, ev_13), (93, ev_1286), (96, ev_341), (99, ev_13), (100, ev_1516), (103, ev_265), (105, ev_13), (106, ev_1528), (109, ev_265), (111, ev_18), (112, ev_293), (113, ev_315), (116, ev_560)]
noncomputable def zi_347_4 : ZIs := [(119, ev_13), (120, ev_190), (121, ev_1520), (124, ev_12), (126, ev_1416), (129, ev_1552), (132, ev_13), (133, ev_1528), (136, ev_190), (137, ev_12), (139, ev_293), (140, ev_13), (141, ev_189), (142, ev_1549), (145, ev_25), (147, ev_842)]
noncomputable def zi_347_5 : ZIs := [(150, ev_294), (153, ev_637), (156, ev_13), (157, ev_1528), (160, ev_184), (161, ev_18), (162, ev_81)]
set_option maxRecDepth 100000 in
theorem xi_w347 : zall cX12_colour [zi_347_0, zi_347_1, zi_347_2, zi_347_3, zi_347_4, zi_347_5] := zall_w _ _ (by decide +kernel)
noncomputable def xi_347 (pc : Nat) : XIs := cond (Nat.blt pc 87) (cond (Nat.blt pc 26) (zx zi_347_0) (cond (Nat.blt pc 60) (zx zi_347_1) (zx zi_347_2))) (cond (Nat.blt pc 119) (zx zi_347_3) (cond (Nat.blt pc 150) (zx zi_347_4) (zx zi_347_5)))
theorem xi_ok347 (pc : Nat) : xi_ok cX12_colour (xi_347 pc) = true := xi_c (xi_c (zq1 xi_w347) (xi_c (zq1 (zq2 xi_w347)) (zq1 (zq2 (zq2 xi_w347))))) (xi_c (zq1 (zq2 (zq2 (zq2 xi_w347)))) (xi_c (zq1 (zq2 (zq2 (zq2 (zq2 xi_w347))))) (zq1 (zq2 (zq2 (zq2 (zq2 (zq2 xi_w347))))))))
noncomputable def zi_348_0 : ZIs := [(0, ev_10), (1, ev_288), (2, ev_189), (3, ev_13), (4, ev_1286), (7, ev_1113), (10, ev_13), (11, ev_736), (14, ev_189), (15, ev_245), (16, ev_293), (17, ev_299), (20, ev_1474), (23, ev_13), (24, ev_736), (27, ev_184)]
noncomputable def zi_348_1 : ZIs := [(28, ev_801), (31, ev_293), (32, ev_10), (33, ev_288), (34, ev_7), (35, ev_289), (36, ev_13), (37, ev_959), (40, ev_10), (41, ev_184), (42, ev_293), (43, ev_189), (44, ev_190), (45, ev_1553), (48, ev_13), (49, ev_959)]
noncomputable def zi_348_2 : ZIs := [(52, ev_189), (53, ev_18), (54, ev_11), (56, ev_299), (59, ev_10), (60, ev_25), (62, ev_191), (64, ev_527), (67, ev_1424), (70, ev_13), (71, ev_1289), (74, ev_191), (76, ev_22), (77, ev_28), (79, ev_13), (80, ev_1288)]
noncomputable def zi_348_3 : ZIs := [(83, ev_265), (85, ev_1290), (86, ev_304), (89, ev_13), (90, ev_1300), (93, ev_265), (95, ev_18), (96, ev_12), (98, ev_1554), (101, ev_13), (102, ev_736), (105, ev_13), (106, ev_1036), (109, ev_265), (111, ev_18), (112, ev_18)]
noncomputable def zi_348_4 : ZIs := [(113, ev_1555), (116, ev_13), (117, ev_1556), (120, ev_191), (122, ev_437), (123, ev_13), (124, ev_463), (127, ev_265), (129, ev_18), (130, ev_167), (131, ev_438), (132, ev_625), (135, ev_13), (136, ev_736), (139, ev_13), (140, ev_1036)]
noncomputable def zi_348_5 : ZIs := [(143, ev_265), (145, ev_18), (146, ev_191), (148, ev_293), (149, ev_13), (150, ev_959), (153, ev_190), (154, ev_13), (155, ev_1036), (158, ev_265), (160, ev_18), (161, ev_293), (162, ev_294), (165, ev_1557), (168, ev_13), (169, ev_1288)]
noncomputable def zi_348_6 : ZIs := [(172, ev_265), (174, ev_1290), (175, ev_1502), (178, ev_13), (179, ev_1036), (182, ev_265), (184, ev_18), (185, ev_12), (187, ev_1558), (190, ev_13), (191, ev_736), (194, ev_13), (195, ev_1300), (198, ev_265), (200, ev_18), (201, ev_18)]
noncomputable def zi_348_7 : ZIs := [(202, ev_1559), (205, ev_13), (206, ev_1556), (209, ev_191), (211, ev_437), (212, ev_223), (213, ev_438), (214, ev_1560), (217, ev_13), (218, ev_736), (221, ev_13), (222, ev_1300), (225, ev_265), (227, ev_18), (228, ev_1182), (231, ev_191)]
noncomputable def zi_348_8 : ZIs := [(233, ev_22), (234, ev_293), (235, ev_13), (236, ev_959), (239, ev_190), (240, ev_13), (241, ev_1300), (244, ev_265), (246, ev_18), (247, ev_293), (248, ev_294), (251, ev_338), (254, ev_1430), (257, ev_1561), (260, ev_253)]
set_option maxRecDepth 100000 in
theorem xi_w348 : zall cX12_search [zi_348_0, zi_348_1, zi_348_2, zi_348_3, zi_348_4, zi_348_5, zi_348_6, zi_348_7, zi_348_8] := zall_w _ _ (by decide +kernel)
noncomputable def xi_348 (pc : Nat) : XIs := cond (Nat.blt pc 113) (cond (Nat.blt pc 52) (cond (Nat.blt pc 28) (zx zi_348_0) (zx zi_348_1)) (cond (Nat.blt pc 83) (zx zi_348_2) (zx zi_348_3))) (cond (Nat.blt pc 172) (cond (Nat.blt pc 143) (zx zi_348_4) (zx zi_348_5)) (cond (Nat.blt pc 202) (zx zi_348_6) (cond (Nat.blt pc 233) (zx zi_348_7) (zx zi_348_8))))
theorem xi_ok348 (pc : Nat) : xi_ok cX12_search (xi_348 pc) = true := xi_c (xi_c (xi_c (zq1 xi_w348) (zq1 (zq2 xi_w348))) (xi_c (zq1 (zq2 (zq2 xi_w348))) (zq1 (zq2 (zq2 (zq2 xi_w348)))))) (xi_c (xi_c (zq1 (zq2 (zq2 (zq2 (zq2 xi_w348))))) (zq1 (zq2 (zq2 (zq2 (zq2 (zq2 xi_w348))))))) (xi_c (zq1 (zq2 (zq2 (zq2 (zq2 (zq2 (zq2 xi_w348))))))) (xi_c (zq1 (zq2 (zq2 (zq2 (zq2 (zq2 (zq2 (zq2 xi_w348)))))))) (zq1 (zq2 (zq2 (zq2 (zq2 (zq2 (zq2 (zq2 (zq2 xi_w348))))))))))))
noncomputable def zi_349_0 : ZIs := [(0, ev_13), (1, ev_736), (4, ev_184), (5, ev_18), (6, ev_288), (7, ev_189), (8, ev_1182), (11, ev_1105), (14, ev_13), (15, ev_1036), (18, ev_13), (19, ev_1289), (22, ev_189), (23, ev_22), (24, ev_1182), (27, ev_16)]
noncomputable def zi_349_1 : ZIs := [(28, ev_18), (29, ev_1175), (32, ev_13), (33, ev_1300), (36, ev_13), (37, ev_1289), (40, ev_189), (41, ev_22), (42, ev_18), (43, ev_81)]
set_option maxRecDepth 100000 in
theorem xi_w349 : zall cX12_before [zi_349_0, zi_349_1] := zall_w _ _ (by decide +kernel)
noncomputable def xi_349 (pc : Nat) : XIs := cond (Nat.blt pc 28) (zx zi_349_0) (zx zi_349_1)
theorem xi_ok349 (pc : Nat) : xi_ok cX12_before (xi_349 pc) = true := xi_c (zq1 xi_w349) (zq1 (zq2 xi_w349))
noncomputable def zi_350_0 : ZIs := [(0, ev_13), (1, ev_736), (4, ev_184), (5, ev_18), (6, ev_288), (7, ev_189), (8, ev_1182), (11, ev_1521), (14, ev_13), (15, ev_1556), (18, ev_189), (19, ev_1182), (22, ev_16), (23, ev_437), (24, ev_711), (27, ev_13)]
noncomputable def zi_350_1 : ZIs := [(28, ev_463), (31, ev_13), (32, ev_1289), (35, ev_189), (36, ev_22), (37, ev_18), (38, ev_167), (39, ev_13), (40, ev_1556), (43, ev_189), (44, ev_437), (45, ev_483), (46, ev_479)]
set_option maxRecDepth 100000 in
theorem xi_w350 : zall cX12_roomOn [zi_350_0, zi_350_1] := zall_w _ _ (by decide +kernel)
noncomputable def xi_350 (pc : Nat) : XIs := cond (Nat.blt pc 28) (zx zi_350_0) (zx zi_350_1)
theorem xi_ok350 (pc : Nat) : xi_ok cX12_roomOn (xi_350 pc) = true := xi_c (zq1 xi_w350) (zq1 (zq2 xi_w350))
noncomputable def zi_351_0 : ZIs := [(0, ev_13), (1, ev_736), (4, ev_184), (5, ev_18), (6, ev_11), (8, ev_12), (10, ev_1182), (13, ev_1105), (16, ev_13), (17, ev_1556), (20, ev_12), (22, ev_1182), (25, ev_16), (26, ev_311), (27, ev_437), (28, ev_487)]
noncomputable def zi_351_1 : ZIs := [(29, ev_483), (30, ev_186), (31, ev_1175), (34, ev_13), (35, ev_1556), (38, ev_12), (40, ev_311), (41, ev_437), (42, ev_487), (43, ev_455), (44, ev_186), (45, ev_253)]
set_option maxRecDepth 100000 in
theorem xi_w351 : zall cX12_push [zi_351_0, zi_351_1] := zall_w _ _ (by decide +kernel)
noncomputable def xi_351 (pc : Nat) : XIs := cond (Nat.blt pc 29) (zx zi_351_0) (zx zi_351_1)
theorem xi_ok351 (pc : Nat) : xi_ok cX12_push (xi_351 pc) = true := xi_c (zq1 xi_w351) (zq1 (zq2 xi_w351))
noncomputable def zi_352_0 : ZIs := [(0, ev_10), (1, ev_289), (2, ev_190), (3, ev_527), (6, ev_1113), (9, ev_13), (10, ev_1556), (13, ev_190), (14, ev_223), (15, ev_186), (16, ev_294), (19, ev_1507), (22, ev_223), (23, ev_922), (24, ev_13), (25, ev_184)]
noncomputable def zi_352_1 : ZIs := [(26, ev_1562), (29, ev_13), (30, ev_736), (33, ev_189), (34, ev_18), (35, ev_1563), (38, ev_1564), (41, ev_572), (43, ev_189), (44, ev_269), (46, ev_270), (48, ev_184), (49, ev_1409), (52, ev_13), (53, ev_270), (55, ev_1565)]
noncomputable def zi_352_2 : ZIs := [(58, ev_499), (60, ev_438), (61, ev_1566), (64, ev_13), (65, ev_270), (67, ev_1565), (70, ev_636), (73, ev_499), (75, ev_572), (77, ev_13), (78, ev_270), (80, ev_1567), (83, ev_269), (85, ev_717), (88, ev_189), (89, ev_269)]
noncomputable def zi_352_3 : ZIs := [(91, ev_270), (93, ev_184), (94, ev_841), (97, ev_13), (98, ev_270), (100, ev_1567), (103, ev_308), (105, ev_13), (106, ev_270), (108, ev_499), (110, ev_1568), (113, ev_309), (115, ev_269), (117, ev_560), (120, ev_482), (121, ev_499)]
noncomputable def zi_352_4 : ZIs := [(123, ev_455), (124, ev_922), (125, ev_13), (126, ev_184), (127, ev_1562), (130, ev_1569), (133, ev_482), (134, ev_479)]
set_option maxRecDepth 100000 in
theorem xi_w352 : zall cX12_most [zi_352_0, zi_352_1, zi_352_2, zi_352_3, zi_352_4] := zall_w _ _ (by decide +kernel)
noncomputable def xi_352 (pc : Nat) : XIs := cond (Nat.blt pc 58) (cond (Nat.blt pc 26) (zx zi_352_0) (zx zi_352_1)) (cond (Nat.blt pc 91) (zx zi_352_2) (cond (Nat.blt pc 123) (zx zi_352_3) (zx zi_352_4)))
theorem xi_ok352 (pc : Nat) : xi_ok cX12_most (xi_352 pc) = true := xi_c (xi_c (zq1 xi_w352) (zq1 (zq2 xi_w352))) (xi_c (zq1 (zq2 (zq2 xi_w352))) (xi_c (zq1 (zq2 (zq2 (zq2 xi_w352)))) (zq1 (zq2 (zq2 (zq2 (zq2 xi_w352)))))))
noncomputable def zi_353_0 : ZIs := [(0, ev_13), (1, ev_184), (2, ev_1333), (5, ev_678), (8, ev_13), (9, ev_189), (10, ev_1333), (13, ev_647), (16, ev_184), (17, ev_189), (18, ev_679), (21, ev_7), (22, ev_222), (25, ev_10), (26, ev_81)]
set_option maxRecDepth 100000 in
theorem xi_w353 : zall cX12_twoNodes [zi_353_0] := zall_w _ _ (by decide +kernel)
noncomputable def xi_353 (pc : Nat) : XIs := zx zi_353_0
theorem xi_ok353 (pc : Nat) : xi_ok cX12_twoNodes (xi_353 pc) = true := zq1 xi_w353
noncomputable def zi_354_0 : ZIs := [(0, ev_13), (1, ev_13), (2, ev_184), (3, ev_189), (4, ev_1570), (7, ev_1174), (10, ev_220), (13, ev_223), (14, ev_187), (17, ev_13), (18, ev_184), (19, ev_189), (20, ev_1571), (23, ev_479)]
set_option maxRecDepth 100000 in
theorem xi_w354 : zall cX12_flow [zi_354_0] := zall_w _ _ (by decide +kernel)
noncomputable def xi_354 (pc : Nat) : XIs := zx zi_354_0
theorem xi_ok354 (pc : Nat) : xi_ok cX12_flow (xi_354 pc) = true := zq1 xi_w354
noncomputable def zi_355_0 : ZIs := [(0, ev_13), (1, ev_13), (2, ev_184), (3, ev_189), (4, ev_1570), (7, ev_769), (10, ev_13), (11, ev_190), (12, ev_1333), (15, ev_220), (18, ev_7), (19, ev_222), (22, ev_10), (23, ev_1174), (26, ev_298), (29, ev_10)]
noncomputable def zi_355_1 : ZIs := [(30, ev_81), (31, ev_13), (32, ev_184), (33, ev_189), (34, ev_1571), (37, ev_440), (39, ev_13), (40, ev_736), (43, ev_190), (44, ev_18), (45, ev_829), (48, ev_7), (49, ev_222), (52, ev_10), (53, ev_81)]
set_option maxRecDepth 100000 in
theorem xi_w355 : zall cX12_side [zi_355_0, zi_355_1] := zall_w _ _ (by decide +kernel)
noncomputable def xi_355 (pc : Nat) : XIs := cond (Nat.blt pc 30) (zx zi_355_0) (zx zi_355_1)
theorem xi_ok355 (pc : Nat) : xi_ok cX12_side (xi_355 pc) = true := xi_c (zq1 xi_w355) (zq1 (zq2 xi_w355))
noncomputable def zi_356_0 : ZIs := [(0, ev_10), (1, ev_288), (2, ev_189), (3, ev_13), (4, ev_1286), (7, ev_941), (10, ev_13), (11, ev_1572), (14, ev_189), (15, ev_1331), (18, ev_186), (19, ev_13), (20, ev_736), (23, ev_189), (24, ev_245), (25, ev_293)]
noncomputable def zi_356_1 : ZIs := [(26, ev_299), (29, ev_355), (32, ev_13), (33, ev_1572), (36, ev_184), (37, ev_223), (38, ev_186), (39, ev_13), (40, ev_736), (43, ev_184), (44, ev_801), (47, ev_293), (48, ev_7), (49, ev_288), (50, ev_189), (51, ev_1573)]
noncomputable def zi_356_2 : ZIs := [(54, ev_10), (55, ev_288), (56, ev_10), (57, ev_289), (58, ev_190), (59, ev_527), (62, ev_1574), (65, ev_13), (66, ev_1289), (69, ev_190), (70, ev_22), (71, ev_11), (73, ev_13), (74, ev_1288), (77, ev_12), (79, ev_1290)]
noncomputable def zi_356_3 : ZIs := [(80, ev_1575), (83, ev_13), (84, ev_1556), (87, ev_190), (88, ev_437), (89, ev_13), (90, ev_463), (93, ev_12), (95, ev_18), (96, ev_167), (97, ev_438), (98, ev_1576), (101, ev_13), (102, ev_1572), (105, ev_13), (106, ev_1300)]
noncomputable def zi_356_4 : ZIs := [(109, ev_12), (111, ev_18), (112, ev_437), (113, ev_1331), (116, ev_438), (117, ev_1577), (120, ev_13), (121, ev_1572), (124, ev_13), (125, ev_1300), (128, ev_12), (130, ev_18), (131, ev_437), (132, ev_13), (133, ev_1037), (136, ev_12)]
noncomputable def zi_356_5 : ZIs := [(138, ev_18), (139, ev_167), (140, ev_455), (141, ev_13), (142, ev_1572), (145, ev_13), (146, ev_1036), (149, ev_12), (151, ev_18), (152, ev_437), (153, ev_438), (154, ev_1578), (157, ev_13), (158, ev_1572), (161, ev_13), (162, ev_1036)]
noncomputable def zi_356_6 : ZIs := [(165, ev_12), (167, ev_18), (168, ev_13), (169, ev_1572), (172, ev_13), (173, ev_1300), (176, ev_12), (178, ev_18), (179, ev_437), (180, ev_13), (181, ev_1037), (184, ev_12), (186, ev_18), (187, ev_167), (188, ev_455), (189, ev_186)]
noncomputable def zi_356_7 : ZIs := [(190, ev_13), (191, ev_736), (194, ev_13), (195, ev_1036), (198, ev_12), (200, ev_18), (201, ev_190), (202, ev_293), (203, ev_7), (204, ev_288), (205, ev_13), (206, ev_1556), (209, ev_190), (210, ev_437), (211, ev_223), (212, ev_438)]
noncomputable def zi_356_8 : ZIs := [(213, ev_1579), (216, ev_13), (217, ev_1572), (220, ev_13), (221, ev_1036), (224, ev_12), (226, ev_18), (227, ev_437), (228, ev_1331), (231, ev_438), (232, ev_1580), (235, ev_13), (236, ev_1572), (239, ev_13), (240, ev_1036), (243, ev_12)]
noncomputable def zi_356_9 : ZIs := [(245, ev_18), (246, ev_437), (247, ev_13), (248, ev_1037), (251, ev_12), (253, ev_18), (254, ev_167), (255, ev_483), (256, ev_13), (257, ev_1572), (260, ev_13), (261, ev_1300), (264, ev_12), (266, ev_18), (267, ev_437), (268, ev_438)]
noncomputable def zi_356_10 : ZIs := [(269, ev_1555), (272, ev_13), (273, ev_1572), (276, ev_13), (277, ev_1300), (280, ev_12), (282, ev_18), (283, ev_13), (284, ev_1572), (287, ev_13), (288, ev_1036), (291, ev_12), (293, ev_18), (294, ev_437), (295, ev_13), (296, ev_1037)]
noncomputable def zi_356_11 : ZIs := [(299, ev_12), (301, ev_18), (302, ev_167), (303, ev_483), (304, ev_186), (305, ev_13), (306, ev_736), (309, ev_13), (310, ev_1300), (313, ev_12), (315, ev_18), (316, ev_1182), (319, ev_190), (320, ev_22), (321, ev_293), (322, ev_7)]
noncomputable def zi_356_12 : ZIs := [(323, ev_288), (324, ev_294), (327, ev_1581), (330, ev_1582), (333, ev_253)]
set_option maxRecDepth 100000 in
theorem xi_w356 : zall cX12_cheapest [zi_356_0, zi_356_1, zi_356_2, zi_356_3, zi_356_4, zi_356_5, zi_356_6, zi_356_7, zi_356_8, zi_356_9, zi_356_10, zi_356_11, zi_356_12] := zall_w _ _ (by decide +kernel)
noncomputable def xi_356 (pc : Nat) : XIs := cond (Nat.blt pc 165) (cond (Nat.blt pc 80) (cond (Nat.blt pc 26) (zx zi_356_0) (cond (Nat.blt pc 54) (zx zi_356_1) (zx zi_356_2))) (cond (Nat.blt pc 109) (zx zi_356_3) (cond (Nat.blt pc 138) (zx zi_356_4) (zx zi_356_5)))) (cond (Nat.blt pc 245) (cond (Nat.blt pc 190) (zx zi_356_6) (cond (Nat.blt pc 213) (zx zi_356_7) (zx zi_356_8))) (cond (Nat.blt pc 299) (cond (Nat.blt pc 269) (zx zi_356_9) (zx zi_356_10)) (cond (Nat.blt pc 323) (zx zi_356_11) (zx zi_356_12))))
theorem xi_ok356 (pc : Nat) : xi_ok cX12_cheapest (xi_356 pc) = true := xi_c (xi_c (xi_c (zq1 xi_w356) (xi_c (zq1 (zq2 xi_w356)) (zq1 (zq2 (zq2 xi_w356))))) (xi_c (zq1 (zq2 (zq2 (zq2 xi_w356)))) (xi_c (zq1 (zq2 (zq2 (zq2 (zq2 xi_w356))))) (zq1 (zq2 (zq2 (zq2 (zq2 (zq2 xi_w356))))))))) (xi_c (xi_c (zq1 (zq2 (zq2 (zq2 (zq2 (zq2 (zq2 xi_w356))))))) (xi_c (zq1 (zq2 (zq2 (zq2 (zq2 (zq2 (zq2 (zq2 xi_w356)))))))) (zq1 (zq2 (zq2 (zq2 (zq2 (zq2 (zq2 (zq2 (zq2 xi_w356))))))))))) (xi_c (xi_c (zq1 (zq2 (zq2 (zq2 (zq2 (zq2 (zq2 (zq2 (zq2 (zq2 xi_w356)))))))))) (zq1 (zq2 (zq2 (zq2 (zq2 (zq2 (zq2 (zq2 (zq2 (zq2 (zq2 xi_w356)))))))))))) (xi_c (zq1 (zq2 (zq2 (zq2 (zq2 (zq2 (zq2 (zq2 (zq2 (zq2 (zq2 (zq2 xi_w356)))))))))))) (zq1 (zq2 (zq2 (zq2 (zq2 (zq2 (zq2 (zq2 (zq2 (zq2 (zq2 (zq2 (zq2 xi_w356))))))))))))))))
noncomputable def zi_357_0 : ZIs := [(0, ev_13), (1, ev_13), (2, ev_184), (3, ev_189), (4, ev_1570), (7, ev_486), (10, ev_190), (11, ev_167), (12, ev_223), (13, ev_1583), (16, ev_1314), (19, ev_220), (22, ev_7), (23, ev_222), (26, ev_10), (27, ev_1174)]
noncomputable def zi_357_1 : ZIs := [(30, ev_298), (33, ev_223), (34, ev_479), (35, ev_10), (36, ev_11), (38, ev_12), (40, ev_13), (41, ev_1286), (44, ev_1584), (47, ev_13), (48, ev_582), (51, ev_12), (53, ev_12), (55, ev_184), (56, ev_538), (59, ev_190)]
noncomputable def zi_357_2 : ZIs := [(60, ev_167), (61, ev_757), (64, ev_12), (66, ev_189), (67, ev_405), (70, ev_190), (71, ev_305), (72, ev_167), (73, ev_222), (76, ev_223), (77, ev_186), (78, ev_343), (81, ev_403), (84, ev_10), (85, ev_11), (87, ev_12)]
noncomputable def zi_357_3 : ZIs := [(89, ev_527), (92, ev_1585), (95, ev_13), (96, ev_1289), (99, ev_12), (101, ev_22), (102, ev_25), (104, ev_13), (105, ev_1556), (108, ev_12), (110, ev_13), (111, ev_1288), (114, ev_191), (116, ev_1290), (117, ev_1432), (120, ev_13)]
noncomputable def zi_357_4 : ZIs := [(121, ev_1037), (124, ev_191), (126, ev_18), (127, ev_1586), (130, ev_13), (131, ev_463), (134, ev_191), (136, ev_18), (137, ev_167), (138, ev_222), (141, ev_223), (142, ev_186), (143, ev_13), (144, ev_1288), (147, ev_191), (149, ev_1290)]
noncomputable def zi_357_5 : ZIs := [(150, ev_980), (153, ev_13), (154, ev_582), (157, ev_13), (158, ev_1300), (161, ev_191), (163, ev_18), (164, ev_311), (165, ev_437), (166, ev_13), (167, ev_1556), (170, ev_12), (172, ev_437), (173, ev_483), (174, ev_186), (175, ev_13)]
noncomputable def zi_357_6 : ZIs := [(176, ev_582), (179, ev_13), (180, ev_1036), (183, ev_191), (185, ev_18), (186, ev_311), (187, ev_437), (188, ev_13), (189, ev_1556), (192, ev_12), (194, ev_437), (195, ev_455), (196, ev_186), (197, ev_343), (200, ev_1587), (203, ev_7)]
noncomputable def zi_357_7 : ZIs := [(204, ev_11), (206, ev_10), (207, ev_25), (209, ev_191), (211, ev_13), (212, ev_1286), (215, ev_509), (218, ev_12), (220, ev_1069), (223, ev_13), (224, ev_582), (227, ev_191), (229, ev_437), (230, ev_223), (231, ev_438), (232, ev_744)]
noncomputable def zi_357_8 : ZIs := [(235, ev_12), (237, ev_1002), (240, ev_13), (241, ev_191), (243, ev_1588), (246, ev_11), (248, ev_314), (251, ev_338), (254, ev_728), (257, ev_223), (258, ev_572), (260, ev_10), (261, ev_269), (263, ev_270), (265, ev_527), (268, ev_1589)]
noncomputable def zi_357_9 : ZIs := [(271, ev_499), (273, ev_13), (274, ev_1288), (277, ev_13), (278, ev_1289), (281, ev_270), (283, ev_22), (284, ev_1290), (285, ev_559), (288, ev_13), (289, ev_1556), (292, ev_270), (294, ev_437), (295, ev_13), (296, ev_1037), (299, ev_13)]
noncomputable def zi_357_10 : ZIs := [(300, ev_1289), (303, ev_270), (305, ev_22), (306, ev_18), (307, ev_167), (308, ev_490), (309, ev_222), (312, ev_223), (313, ev_455), (314, ev_572), (316, ev_953), (319, ev_501), (322, ev_12), (324, ev_325), (327, ev_499), (329, ev_202)]
noncomputable def zi_357_11 : ZIs := [(332, ev_1331), (335, ev_479)]
set_option maxRecDepth 100000 in
theorem xi_w357 : zall cX12_cost [zi_357_0, zi_357_1, zi_357_2, zi_357_3, zi_357_4, zi_357_5, zi_357_6, zi_357_7, zi_357_8, zi_357_9, zi_357_10, zi_357_11] := zall_w _ _ (by decide +kernel)
noncomputable def xi_357 (pc : Nat) : XIs := cond (Nat.blt pc 176) (cond (Nat.blt pc 89) (cond (Nat.blt pc 30) (zx zi_357_0) (cond (Nat.blt pc 60) (zx zi_357_1) (zx zi_357_2))) (cond (Nat.blt pc 121) (zx zi_357_3) (cond (Nat.blt pc 150) (zx zi_357_4) (zx zi_357_5)))) (cond (Nat.blt pc 271) (cond (Nat.blt pc 204) (zx zi_357_6) (cond (Nat.blt pc 235) (zx zi_357_7) (zx zi_357_8))) (cond (Nat.blt pc 300) (zx zi_357_9) (cond (Nat.blt pc 332) (zx zi_357_10) (zx zi_357_11))))
theorem xi_ok357 (pc : Nat) : xi_ok cX12_cost (xi_357 pc) = true := xi_c (xi_c (xi_c (zq1 xi_w357) (xi_c (zq1 (zq2 xi_w357)) (zq1 (zq2 (zq2 xi_w357))))) (xi_c (zq1 (zq2 (zq2 (zq2 xi_w357)))) (xi_c (zq1 (zq2 (zq2 (zq2 (zq2 xi_w357))))) (zq1 (zq2 (zq2 (zq2 (zq2 (zq2 xi_w357))))))))) (xi_c (xi_c (zq1 (zq2 (zq2 (zq2 (zq2 (zq2 (zq2 xi_w357))))))) (xi_c (zq1 (zq2 (zq2 (zq2 (zq2 (zq2 (zq2 (zq2 xi_w357)))))))) (zq1 (zq2 (zq2 (zq2 (zq2 (zq2 (zq2 (zq2 (zq2 xi_w357))))))))))) (xi_c (zq1 (zq2 (zq2 (zq2 (zq2 (zq2 (zq2 (zq2 (zq2 (zq2 xi_w357)))))))))) (xi_c (zq1 (zq2 (zq2 (zq2 (zq2 (zq2 (zq2 (zq2 (zq2 (zq2 (zq2 xi_w357))))))))))) (zq1 (zq2 (zq2 (zq2 (zq2 (zq2 (zq2 (zq2 (zq2 (zq2 (zq2 (zq2 xi_w357)))))))))))))))
noncomputable def zi_358_0 : ZIs := [(0, ev_13), (1, ev_184), (2, ev_1590), (5, ev_245), (6, ev_288), (7, ev_10), (8, ev_289), (9, ev_190), (10, ev_13), (11, ev_1286), (14, ev_1591), (17, ev_13), (18, ev_582), (21, ev_190), (22, ev_437), (23, ev_223)]
noncomputable def zi_358_1 : ZIs := [(24, ev_438), (25, ev_1592), (28, ev_13), (29, ev_1572), (32, ev_190), (33, ev_437), (34, ev_1331), (37, ev_438), (38, ev_1593), (41, ev_189), (42, ev_1594), (45, ev_13), (46, ev_1572), (49, ev_190), (50, ev_437), (51, ev_13)]
noncomputable def zi_358_2 : ZIs := [(52, ev_1572), (55, ev_189), (56, ev_437), (57, ev_438), (58, ev_484), (61, ev_190), (62, ev_222), (65, ev_189), (66, ev_288), (67, ev_294), (70, ev_397), (73, ev_189), (74, ev_1546), (77, ev_10), (78, ev_81), (79, ev_13)]
noncomputable def zi_358_3 : ZIs := [(80, ev_582), (83, ev_184), (84, ev_437), (85, ev_13), (86, ev_582), (89, ev_189), (90, ev_437), (91, ev_474), (92, ev_438), (93, ev_1566), (96, ev_13), (97, ev_582), (100, ev_184), (101, ev_437), (102, ev_631), (105, ev_13)]
noncomputable def zi_358_4 : ZIs := [(106, ev_582), (109, ev_189), (110, ev_437), (111, ev_474), (112, ev_922), (113, ev_189), (114, ev_25), (116, ev_191), (118, ev_184), (119, ev_1595), (122, ev_13), (123, ev_191), (125, ev_1565), (128, ev_482), (129, ev_438), (130, ev_1566)]
noncomputable def zi_358_5 : ZIs := [(133, ev_13), (134, ev_191), (136, ev_1565), (139, ev_222), (142, ev_482), (143, ev_922), (144, ev_13), (145, ev_191), (147, ev_1567), (150, ev_25), (152, ev_1013), (155, ev_189), (156, ev_25), (158, ev_191), (160, ev_184), (161, ev_1379)]
noncomputable def zi_358_6 : ZIs := [(164, ev_13), (165, ev_191), (167, ev_1567), (170, ev_28), (172, ev_13), (173, ev_191), (175, ev_482), (176, ev_1568), (179, ev_265), (181, ev_25), (183, ev_314), (186, ev_13), (187, ev_582), (190, ev_184), (191, ev_311), (192, ev_437)]
noncomputable def zi_358_7 : ZIs := [(193, ev_482), (194, ev_483), (195, ev_186), (196, ev_13), (197, ev_582), (200, ev_189), (201, ev_311), (202, ev_437), (203, ev_482), (204, ev_455), (205, ev_186), (206, ev_7), (207, ev_81)]
set_option maxRecDepth 100000 in
theorem xi_w358 : zall cX12_sends [zi_358_0, zi_358_1, zi_358_2, zi_358_3, zi_358_4, zi_358_5, zi_358_6, zi_358_7] := zall_w _ _ (by decide +kernel)
noncomputable def xi_358 (pc : Nat) : XIs := cond (Nat.blt pc 106) (cond (Nat.blt pc 52) (cond (Nat.blt pc 24) (zx zi_358_0) (zx zi_358_1)) (cond (Nat.blt pc 80) (zx zi_358_2) (zx zi_358_3))) (cond (Nat.blt pc 164) (cond (Nat.blt pc 133) (zx zi_358_4) (zx zi_358_5)) (cond (Nat.blt pc 193) (zx zi_358_6) (zx zi_358_7)))
theorem xi_ok358 (pc : Nat) : xi_ok cX12_sends (xi_358 pc) = true := xi_c (xi_c (xi_c (zq1 xi_w358) (zq1 (zq2 xi_w358))) (xi_c (zq1 (zq2 (zq2 xi_w358))) (zq1 (zq2 (zq2 (zq2 xi_w358)))))) (xi_c (xi_c (zq1 (zq2 (zq2 (zq2 (zq2 xi_w358))))) (zq1 (zq2 (zq2 (zq2 (zq2 (zq2 xi_w358))))))) (xi_c (zq1 (zq2 (zq2 (zq2 (zq2 (zq2 (zq2 xi_w358))))))) (zq1 (zq2 (zq2 (zq2 (zq2 (zq2 (zq2 (zq2 xi_w358))))))))))
noncomputable def zi_359_0 : ZIs := [(0, ev_13), (1, ev_1296), (4, ev_168), (6, ev_13), (7, ev_1159), (10, ev_350), (11, ev_184), (12, ev_22), (13, ev_18), (14, ev_653), (16, ev_654), (19, ev_7), (20, ev_222), (23, ev_10), (24, ev_81)]
set_option maxRecDepth 100000 in
theorem xi_w359 : zall cX12_isFirstSort [zi_359_0] := zall_w _ _ (by decide +kernel)
noncomputable def xi_359 (pc : Nat) : XIs := zx zi_359_0
theorem xi_ok359 (pc : Nat) : xi_ok cX12_isFirstSort (xi_359 pc) = true := zq1 xi_w359
noncomputable def zi_360_0 : ZIs := [(0, ev_10), (1, ev_683), (2, ev_184), (3, ev_526), (6, ev_1486), (9, ev_13), (10, ev_444), (13, ev_184), (14, ev_1331), (17, ev_186), (18, ev_686), (21, ev_329), (24, ev_10), (25, ev_683), (26, ev_184), (27, ev_527)]
noncomputable def zi_360_1 : ZIs := [(30, ev_1596), (33, ev_13), (34, ev_184), (35, ev_1177), (38, ev_1597), (41, ev_13), (42, ev_1300), (45, ev_13), (46, ev_1289), (49, ev_184), (50, ev_22), (51, ev_18), (52, ev_288), (53, ev_13), (54, ev_1036), (57, ev_13)]
noncomputable def zi_360_2 : ZIs := [(58, ev_1289), (61, ev_184), (62, ev_22), (63, ev_18), (64, ev_289), (65, ev_13), (66, ev_189), (67, ev_1598), (70, ev_13), (71, ev_190), (72, ev_1598), (75, ev_1599), (78, ev_13), (79, ev_189), (80, ev_1598), (83, ev_647)]
noncomputable def zi_360_3 : ZIs := [(86, ev_168), (88, ev_189), (89, ev_350), (90, ev_190), (91, ev_22), (92, ev_187), (95, ev_168), (97, ev_190), (98, ev_350), (99, ev_189), (100, ev_22), (101, ev_11), (103, ev_13), (104, ev_444), (107, ev_12), (109, ev_13)]
noncomputable def zi_360_4 : ZIs := [(110, ev_1037), (113, ev_13), (114, ev_1289), (117, ev_184), (118, ev_22), (119, ev_18), (120, ev_167), (121, ev_13), (122, ev_444), (125, ev_12), (127, ev_437), (128, ev_438), (129, ev_1600), (132, ev_13), (133, ev_1037), (136, ev_13)]
noncomputable def zi_360_5 : ZIs := [(137, ev_1289), (140, ev_184), (141, ev_22), (142, ev_18), (143, ev_167), (144, ev_631), (147, ev_13), (148, ev_444), (151, ev_12), (153, ev_437), (154, ev_186), (155, ev_686), (158, ev_1601), (161, ev_10), (162, ev_683), (163, ev_184)]
noncomputable def zi_360_6 : ZIs := [(164, ev_13), (165, ev_1286), (168, ev_1113), (171, ev_13), (172, ev_588), (175, ev_184), (176, ev_245), (177, ev_293), (178, ev_686), (181, ev_1474), (184, ev_7), (185, ev_683), (186, ev_184), (187, ev_1360), (190, ev_13), (191, ev_1602)]
noncomputable def zi_360_7 : ZIs := [(194, ev_288), (195, ev_189), (196, ev_829), (199, ev_7), (200, ev_222), (203, ev_10), (204, ev_683), (205, ev_189), (206, ev_1603), (209, ev_13), (210, ev_736), (213, ev_189), (214, ev_18), (215, ev_289), (216, ev_13), (217, ev_588)]
noncomputable def zi_360_8 : ZIs := [(220, ev_190), (221, ev_18), (222, ev_11), (224, ev_13), (225, ev_588), (228, ev_190), (229, ev_189), (230, ev_293), (231, ev_13), (232, ev_588), (235, ev_189), (236, ev_190), (237, ev_293), (238, ev_12), (240, ev_288), (241, ev_1013)]
noncomputable def zi_360_9 : ZIs := [(244, ev_352), (247, ev_253)]
set_option maxRecDepth 100000 in
theorem xi_w360 : zall cX12_pairUp [zi_360_0, zi_360_1, zi_360_2, zi_360_3, zi_360_4, zi_360_5, zi_360_6, zi_360_7, zi_360_8, zi_360_9] := zall_w _ _ (by decide +kernel)
noncomputable def xi_360 (pc : Nat) : XIs := cond (Nat.blt pc 137) (cond (Nat.blt pc 58) (cond (Nat.blt pc 30) (zx zi_360_0) (zx zi_360_1)) (cond (Nat.blt pc 86) (zx zi_360_2) (cond (Nat.blt pc 110) (zx zi_360_3) (zx zi_360_4)))) (cond (Nat.blt pc 194) (cond (Nat.blt pc 164) (zx zi_360_5) (zx zi_360_6)) (cond (Nat.blt pc 220) (zx zi_360_7) (cond (Nat.blt pc 244) (zx zi_360_8) (zx zi_360_9))))
theorem xi_ok360 (pc : Nat) : xi_ok cX12_pairUp (xi_360 pc) = true := xi_c (xi_c (xi_c (zq1 xi_w360) (zq1 (zq2 xi_w360))) (xi_c (zq1 (zq2 (zq2 xi_w360))) (xi_c (zq1 (zq2 (zq2 (zq2 xi_w360)))) (zq1 (zq2 (zq2 (zq2 (zq2 xi_w360)))))))) (xi_c (xi_c (zq1 (zq2 (zq2 (zq2 (zq2 (zq2 xi_w360)))))) (zq1 (zq2 (zq2 (zq2 (zq2 (zq2 (zq2 xi_w360)))))))) (xi_c (zq1 (zq2 (zq2 (zq2 (zq2 (zq2 (zq2 (zq2 xi_w360)))))))) (xi_c (zq1 (zq2 (zq2 (zq2 (zq2 (zq2 (zq2 (zq2 (zq2 xi_w360))))))))) (zq1 (zq2 (zq2 (zq2 (zq2 (zq2 (zq2 (zq2 (zq2 (zq2 xi_w360)))))))))))))
noncomputable def zi_361_0 : ZIs := [(0, ev_10), (1, ev_683), (2, ev_184), (3, ev_13), (4, ev_1286), (7, ev_719), (10, ev_13), (11, ev_1572), (14, ev_184), (15, ev_13), (16, ev_184), (17, ev_1598), (20, ev_412), (23, ev_13), (24, ev_588), (27, ev_184)]
noncomputable def zi_361_1 : ZIs := [(28, ev_18), (29, ev_484), (32, ev_223), (33, ev_202), (36, ev_1331), (39, ev_186), (40, ev_13), (41, ev_736), (44, ev_184), (45, ev_245), (46, ev_293), (47, ev_686), (50, ev_568), (53, ev_7), (54, ev_683), (55, ev_184)]
noncomputable def zi_361_2 : ZIs := [(56, ev_1604), (59, ev_10), (60, ev_683), (61, ev_10), (62, ev_288), (63, ev_189), (64, ev_526), (67, ev_1605), (70, ev_189), (71, ev_168), (73, ev_580), (74, ev_289), (75, ev_189), (76, ev_168), (78, ev_506), (79, ev_11)]
noncomputable def zi_361_3 : ZIs := [(81, ev_13), (82, ev_444), (85, ev_189), (86, ev_437), (87, ev_1331), (90, ev_438), (91, ev_1606), (94, ev_13), (95, ev_1572), (98, ev_190), (99, ev_437), (100, ev_1331), (103, ev_438), (104, ev_1607), (107, ev_13), (108, ev_588)]
noncomputable def zi_361_4 : ZIs := [(111, ev_190), (112, ev_18), (113, ev_12), (115, ev_1608), (118, ev_13), (119, ev_1572), (122, ev_190), (123, ev_437), (124, ev_13), (125, ev_444), (128, ev_189), (129, ev_437), (130, ev_455), (131, ev_13), (132, ev_1572), (135, ev_12)]
noncomputable def zi_361_5 : ZIs := [(137, ev_437), (138, ev_438), (139, ev_1609), (142, ev_13), (143, ev_1572), (146, ev_12), (148, ev_13), (149, ev_1572), (152, ev_190), (153, ev_437), (154, ev_13), (155, ev_444), (158, ev_189), (159, ev_437), (160, ev_455), (161, ev_186)]
noncomputable def zi_361_6 : ZIs := [(162, ev_13), (163, ev_736), (166, ev_12), (168, ev_190), (169, ev_293), (170, ev_7), (171, ev_683), (172, ev_13), (173, ev_588), (176, ev_12), (178, ev_18), (179, ev_1610), (182, ev_13), (183, ev_1572), (186, ev_13), (187, ev_588)]
noncomputable def zi_361_7 : ZIs := [(190, ev_12), (192, ev_18), (193, ev_13), (194, ev_1572), (197, ev_12), (199, ev_437), (200, ev_13), (201, ev_444), (204, ev_168), (206, ev_13), (207, ev_588), (210, ev_12), (212, ev_18), (213, ev_350), (214, ev_12), (216, ev_22)]
noncomputable def zi_361_8 : ZIs := [(217, ev_437), (218, ev_483), (219, ev_186), (220, ev_299), (223, ev_1421), (226, ev_1611), (229, ev_245), (230, ev_288), (231, ev_10), (232, ev_289), (233, ev_190), (234, ev_13), (235, ev_1286), (238, ev_1393), (241, ev_13), (242, ev_190)]
noncomputable def zi_361_9 : ZIs := [(243, ev_1598), (246, ev_1612), (249, ev_13), (250, ev_588), (253, ev_190), (254, ev_18), (255, ev_598), (258, ev_13), (259, ev_1572), (262, ev_190), (263, ev_437), (264, ev_1331), (267, ev_438), (268, ev_484), (271, ev_7), (272, ev_222)]
noncomputable def zi_361_10 : ZIs := [(275, ev_10), (276, ev_11), (278, ev_12), (280, ev_559), (283, ev_189), (284, ev_1594), (287, ev_13), (288, ev_1572), (291, ev_190), (292, ev_437), (293, ev_13), (294, ev_1572), (297, ev_189), (298, ev_437), (299, ev_438), (300, ev_484)]
noncomputable def zi_361_11 : ZIs := [(303, ev_190), (304, ev_222), (307, ev_189), (308, ev_288), (309, ev_294), (312, ev_561), (315, ev_189), (316, ev_81)]
set_option maxRecDepth 100000 in
theorem xi_w361 : zall cX12_cheapestPair [zi_361_0, zi_361_1, zi_361_2, zi_361_3, zi_361_4, zi_361_5, zi_361_6, zi_361_7, zi_361_8, zi_361_9, zi_361_10, zi_361_11] := zall_w _ _ (by decide +kernel)
noncomputable def xi_361 (pc : Nat) : XIs := cond (Nat.blt pc 162) (cond (Nat.blt pc 81) (cond (Nat.blt pc 28) (zx zi_361_0) (cond (Nat.blt pc 56) (zx zi_361_1) (zx zi_361_2))) (cond (Nat.blt pc 111) (zx zi_361_3) (cond (Nat.blt pc 137) (zx zi_361_4) (zx zi_361_5)))) (cond (Nat.blt pc 243) (cond (Nat.blt pc 190) (zx zi_361_6) (cond (Nat.blt pc 217) (zx zi_361_7) (zx zi_361_8))) (cond (Nat.blt pc 275) (zx zi_361_9) (cond (Nat.blt pc 303) (zx zi_361_10) (zx zi_361_11))))
theorem xi_ok361 (pc : Nat) : xi_ok cX12_cheapestPair (xi_361 pc) = true := xi_c (xi_c (xi_c (zq1 xi_w361) (xi_c (zq1 (zq2 xi_w361)) (zq1 (zq2 (zq2 xi_w361))))) (xi_c (zq1 (zq2 (zq2 (zq2 xi_w361)))) (xi_c (zq1 (zq2 (zq2 (zq2 (zq2 xi_w361))))) (zq1 (zq2 (zq2 (zq2 (zq2 (zq2 xi_w361))))))))) (xi_c (xi_c (zq1 (zq2 (zq2 (zq2 (zq2 (zq2 (zq2 xi_w361))))))) (xi_c (zq1 (zq2 (zq2 (zq2 (zq2 (zq2 (zq2 (zq2 xi_w361)))))))) (zq1 (zq2 (zq2 (zq2 (zq2 (zq2 (zq2 (zq2 (zq2 xi_w361))))))))))) (xi_c (zq1 (zq2 (zq2 (zq2 (zq2 (zq2 (zq2 (zq2 (zq2 (zq2 xi_w361)))))))))) (xi_c (zq1 (zq2 (zq2 (zq2 (zq2 (zq2 (zq2 (zq2 (zq2 (zq2 (zq2 xi_w361))))))))))) (zq1 (zq2 (zq2 (zq2 (zq2 (zq2 (zq2 (zq2 (zq2 (zq2 (zq2 (zq2 xi_w361)))))))))))))))
noncomputable def zi_362_0 : ZIs := [(0, ev_13), (1, ev_184), (2, ev_167), (3, ev_223), (4, ev_221), (5, ev_1314), (8, ev_1174), (11, ev_298), (14, ev_223), (15, ev_479), (16, ev_13), (17, ev_1613), (20, ev_223), (21, ev_515), (22, ev_223), (23, ev_440)]
noncomputable def zi_362_1 : ZIs := [(25, ev_10), (26, ev_28), (28, ev_265), (30, ev_13), (31, ev_1286), (34, ev_936), (37, ev_13), (38, ev_265), (40, ev_1598), (43, ev_865), (46, ev_13), (47, ev_588), (50, ev_265), (52, ev_18), (53, ev_1614), (56, ev_487)]
noncomputable def zi_362_2 : ZIs := [(57, ev_221), (58, ev_455), (59, ev_515), (60, ev_240), (62, ev_13), (63, ev_444), (66, ev_168), (68, ev_265), (70, ev_350), (71, ev_13), (72, ev_588), (75, ev_265), (77, ev_18), (78, ev_22), (79, ev_437), (80, ev_455)]
noncomputable def zi_362_3 : ZIs := [(81, ev_440), (83, ev_315), (86, ev_352), (89, ev_184), (90, ev_321), (93, ev_487), (94, ev_636), (97, ev_240), (99, ev_479)]
set_option maxRecDepth 100000 in
theorem xi_w362 : zall cX12_pairing [zi_362_0, zi_362_1, zi_362_2, zi_362_3] := zall_w _ _ (by decide +kernel)
noncomputable def xi_362 (pc : Nat) : XIs := cond (Nat.blt pc 57) (cond (Nat.blt pc 25) (zx zi_362_0) (zx zi_362_1)) (cond (Nat.blt pc 81) (zx zi_362_2) (zx zi_362_3))
theorem xi_ok362 (pc : Nat) : xi_ok cX12_pairing (xi_362 pc) = true := xi_c (xi_c (zq1 xi_w362) (zq1 (zq2 xi_w362))) (xi_c (zq1 (zq2 (zq2 xi_w362))) (zq1 (zq2 (zq2 (zq2 xi_w362)))))
noncomputable def zi_363_0 : ZIs := [(0, ev_13), (1, ev_13), (2, ev_184), (3, ev_1333), (6, ev_1174), (9, ev_298), (12, ev_223), (13, ev_479), (14, ev_10), (15, ev_288), (16, ev_10), (17, ev_289), (18, ev_190), (19, ev_527), (22, ev_813), (25, ev_13)]
noncomputable def zi_363_1 : ZIs := [(26, ev_190), (27, ev_1177), (30, ev_1615), (33, ev_13), (34, ev_448), (37, ev_189), (38, ev_13), (39, ev_1300), (42, ev_13), (43, ev_1289), (46, ev_190), (47, ev_22), (48, ev_18), (49, ev_293), (50, ev_13), (51, ev_450)]
noncomputable def zi_363_2 : ZIs := [(54, ev_189), (55, ev_13), (56, ev_1036), (59, ev_13), (60, ev_1289), (63, ev_190), (64, ev_22), (65, ev_18), (66, ev_293), (67, ev_13), (68, ev_454), (71, ev_189), (72, ev_13), (73, ev_1037), (76, ev_13), (77, ev_1289)]
noncomputable def zi_363_3 : ZIs := [(80, ev_190), (81, ev_22), (82, ev_18), (83, ev_167), (84, ev_186), (85, ev_299), (88, ev_294), (91, ev_1336), (94, ev_13), (95, ev_1286), (98, ev_289), (99, ev_184), (100, ev_11), (102, ev_223), (103, ev_572), (105, ev_190)]
noncomputable def zi_363_4 : ZIs := [(106, ev_7), (107, ev_1616), (110, ev_10), (111, ev_269), (113, ev_270), (115, ev_190), (116, ev_681), (119, ev_13), (120, ev_1617), (123, ev_270), (125, ev_245), (126, ev_293), (127, ev_953), (130, ev_1507), (133, ev_10), (134, ev_269)]
noncomputable def zi_363_5 : ZIs := [(136, ev_270), (138, ev_189), (139, ev_1618), (142, ev_13), (143, ev_448), (146, ev_270), (148, ev_18), (149, ev_13), (150, ev_450), (153, ev_270), (155, ev_18), (156, ev_1619), (159, ev_13), (160, ev_1617), (163, ev_13), (164, ev_450)]
noncomputable def zi_363_6 : ZIs := [(167, ev_270), (169, ev_18), (170, ev_18), (171, ev_1620), (174, ev_13), (175, ev_454), (178, ev_270), (180, ev_437), (181, ev_13), (182, ev_454), (185, ev_13), (186, ev_1617), (189, ev_13), (190, ev_450), (193, ev_270), (195, ev_18)]
noncomputable def zi_363_7 : ZIs := [(196, ev_18), (197, ev_437), (198, ev_438), (199, ev_484), (202, ev_7), (203, ev_222), (206, ev_10), (207, ev_308), (209, ev_13), (210, ev_1617), (213, ev_13), (214, ev_450), (217, ev_270), (219, ev_18), (220, ev_309), (222, ev_325)]
noncomputable def zi_363_8 : ZIs := [(225, ev_270), (227, ev_435), (230, ev_13), (231, ev_1617), (234, ev_13), (235, ev_450), (238, ev_270), (240, ev_18), (241, ev_18), (242, ev_293), (243, ev_953), (246, ev_1481), (249, ev_10), (250, ev_269), (252, ev_270), (254, ev_190)]
noncomputable def zi_363_9 : ZIs := [(255, ev_813), (258, ev_270), (260, ev_12), (262, ev_898), (265, ev_13), (266, ev_1617), (269, ev_270), (271, ev_18), (272, ev_484), (275, ev_1331), (278, ev_479), (279, ev_13), (280, ev_1621), (283, ev_270), (285, ev_270), (287, ev_12)]
noncomputable def zi_363_10 : ZIs := [(289, ev_816), (292, ev_223), (293, ev_435), (296, ev_13), (297, ev_454), (300, ev_13), (301, ev_1617), (304, ev_270), (306, ev_18), (307, ev_437), (308, ev_186), (309, ev_499), (311, ev_13), (312, ev_1621), (315, ev_270), (317, ev_437)]
noncomputable def zi_363_11 : ZIs := [(318, ev_455), (319, ev_572), (321, ev_953), (324, ev_981), (327, ev_13), (328, ev_190), (329, ev_12), (331, ev_1622), (334, ev_269), (336, ev_270), (338, ev_190), (339, ev_772), (342, ev_499), (344, ev_479), (345, ev_10), (346, ev_308)]
noncomputable def zi_363_12 : ZIs := [(348, ev_309), (350, ev_189), (351, ev_634), (354, ev_13), (355, ev_450), (358, ev_309), (360, ev_18), (361, ev_322), (363, ev_13), (364, ev_454), (367, ev_309), (369, ev_311), (370, ev_437), (371, ev_13), (372, ev_448), (375, ev_309)]
noncomputable def zi_363_13 : ZIs := [(377, ev_18), (378, ev_324), (380, ev_616), (383, ev_324), (385, ev_12), (387, ev_1382), (390, ev_13), (391, ev_1621), (394, ev_324), (396, ev_437), (397, ev_222), (400, ev_223), (401, ev_483), (402, ev_186), (403, ev_13), (404, ev_448)]
noncomputable def zi_363_14 : ZIs := [(407, ev_309), (409, ev_13), (410, ev_1623), (413, ev_13), (414, ev_448), (417, ev_309), (419, ev_18), (420, ev_18), (421, ev_293), (422, ev_13), (423, ev_450), (426, ev_309), (428, ev_13), (429, ev_1623), (432, ev_324), (434, ev_18)]
noncomputable def zi_363_15 : ZIs := [(435, ev_293), (436, ev_313), (439, ev_1624), (442, ev_13), (443, ev_1623), (446, ev_12), (448, ev_18), (449, ev_11), (451, ev_270), (453, ev_289), (454, ev_1625), (457, ev_499), (459, ev_479)]
set_option maxRecDepth 100000 in
theorem xi_w363 : zall cX12_tree [zi_363_0, zi_363_1, zi_363_2, zi_363_3, zi_363_4, zi_363_5, zi_363_6, zi_363_7, zi_363_8, zi_363_9, zi_363_10, zi_363_11, zi_363_12, zi_363_13, zi_363_14, zi_363_15] := zall_w _ _ (by decide +kernel)
noncomputable def xi_363 (pc : Nat) : XIs := cond (Nat.blt pc 225) (cond (Nat.blt pc 106) (cond (Nat.blt pc 54) (cond (Nat.blt pc 26) (zx zi_363_0) (zx zi_363_1)) (cond (Nat.blt pc 80) (zx zi_363_2) (zx zi_363_3))) (cond (Nat.blt pc 167) (cond (Nat.blt pc 136) (zx zi_363_4) (zx zi_363_5)) (cond (Nat.blt pc 196) (zx zi_363_6) (zx zi_363_7)))) (cond (Nat.blt pc 348) (cond (Nat.blt pc 289) (cond (Nat.blt pc 255) (zx zi_363_8) (zx zi_363_9)) (cond (Nat.blt pc 318) (zx zi_363_10) (zx zi_363_11))) (cond (Nat.blt pc 407) (cond (Nat.blt pc 377) (zx zi_363_12) (zx zi_363_13)) (cond (Nat.blt pc 435) (zx zi_363_14) (zx zi_363_15))))
theorem xi_ok363 (pc : Nat) : xi_ok cX12_tree (xi_363 pc) = true := xi_c (xi_c (xi_c (xi_c (zq1 xi_w363) (zq1 (zq2 xi_w363))) (xi_c (zq1 (zq2 (zq2 xi_w363))) (zq1 (zq2 (zq2 (zq2 xi_w363)))))) (xi_c (xi_c (zq1 (zq2 (zq2 (zq2 (zq2 xi_w363))))) (zq1 (zq2 (zq2 (zq2 (zq2 (zq2 xi_w363))))))) (xi_c (zq1 (zq2 (zq2 (zq2 (zq2 (zq2 (zq2 xi_w363))))))) (zq1 (zq2 (zq2 (zq2 (zq2 (zq2 (zq2 (zq2 xi_w363))))))))))) (xi_c (xi_c (xi_c (zq1 (zq2 (zq2 (zq2 (zq2 (zq2 (zq2 (zq2 (zq2 xi_w363))))))))) (zq1 (zq2 (zq2 (zq2 (zq2 (zq2 (zq2 (zq2 (zq2 (zq2 xi_w363))))))))))) (xi_c (zq1 (zq2 (zq2 (zq2 (zq2 (zq2 (zq2 (zq2 (zq2 (zq2 (zq2 xi_w363))))))))))) (zq1 (zq2 (zq2 (zq2 (zq2 (zq2 (zq2 (zq2 (zq2 (zq2 (zq2 (zq2 xi_w363)))))))))))))) (xi_c (xi_c (zq1 (zq2 (zq2 (zq2 (zq2 (zq2 (zq2 (zq2 (zq2 (zq2 (zq2 (zq2 (zq2 xi_w363))))))))))))) (zq1 (zq2 (zq2 (zq2 (zq2 (zq2 (zq2 (zq2 (zq2 (zq2 (zq2 (zq2 (zq2 (zq2 xi_w363))))))))))))))) (xi_c (zq1 (zq2 (zq2 (zq2 (zq2 (zq2 (zq2 (zq2 (zq2 (zq2 (zq2 (zq2 (zq2 (zq2 (zq2 xi_w363))))))))))))))) (zq1 (zq2 (zq2 (zq2 (zq2 (zq2 (zq2 (zq2 (zq2 (zq2 (zq2 (zq2 (zq2 (zq2 (zq2 (zq2 xi_w363)))))))))))))))))))
noncomputable def zi_364_0 : ZIs := [(0, ev_10), (1, ev_289), (2, ev_190), (3, ev_184), (4, ev_341), (7, ev_13), (8, ev_1623), (11, ev_190), (12, ev_245), (13, ev_293), (14, ev_13), (15, ev_1626), (18, ev_190), (19, ev_245), (20, ev_293), (21, ev_294)]
noncomputable def zi_364_1 : ZIs := [(24, ev_622), (27, ev_10), (28, ev_289), (29, ev_10), (30, ev_11), (32, ev_12), (34, ev_184), (35, ev_1627), (38, ev_12), (40, ev_25), (42, ev_191), (44, ev_189), (45, ev_738), (48, ev_13), (49, ev_1626), (52, ev_191)]
noncomputable def zi_364_2 : ZIs := [(54, ev_18), (55, ev_1628), (58, ev_13), (59, ev_1623), (62, ev_191), (64, ev_18), (65, ev_1629), (68, ev_13), (69, ev_1626), (72, ev_191), (74, ev_12), (76, ev_293), (77, ev_13), (78, ev_448), (81, ev_13), (82, ev_1617)]
noncomputable def zi_364_3 : ZIs := [(85, ev_191), (87, ev_18), (88, ev_18), (89, ev_25), (91, ev_651), (94, ev_191), (96, ev_189), (97, ev_698), (100, ev_13), (101, ev_1623), (104, ev_191), (106, ev_18), (107, ev_1630), (110, ev_13), (111, ev_1626), (114, ev_191)]
noncomputable def zi_364_4 : ZIs := [(116, ev_18), (117, ev_12), (119, ev_1631), (122, ev_191), (124, ev_28), (126, ev_13), (127, ev_1623), (130, ev_265), (132, ev_18), (133, ev_743), (136, ev_13), (137, ev_1623), (140, ev_265), (142, ev_190), (143, ev_293), (144, ev_13)]
noncomputable def zi_364_5 : ZIs := [(145, ev_448), (148, ev_13), (149, ev_1617), (152, ev_265), (154, ev_18), (155, ev_18), (156, ev_28), (158, ev_691), (161, ev_294), (164, ev_343), (167, ev_1632), (170, ev_10), (171, ev_11), (173, ev_12), (175, ev_184), (176, ev_927)]
noncomputable def zi_364_6 : ZIs := [(179, ev_13), (180, ev_1623), (183, ev_12), (185, ev_18), (186, ev_1586), (189, ev_13), (190, ev_1623), (193, ev_12), (195, ev_190), (196, ev_293), (197, ev_294), (200, ev_343), (203, ev_643), (206, ev_190), (207, ev_81)]
set_option maxRecDepth 100000 in
theorem xi_w364 : zall cX12_rings [zi_364_0, zi_364_1, zi_364_2, zi_364_3, zi_364_4, zi_364_5, zi_364_6] := zall_w _ _ (by decide +kernel)
noncomputable def xi_364 (pc : Nat) : XIs := cond (Nat.blt pc 85) (cond (Nat.blt pc 24) (zx zi_364_0) (cond (Nat.blt pc 54) (zx zi_364_1) (zx zi_364_2))) (cond (Nat.blt pc 145) (cond (Nat.blt pc 116) (zx zi_364_3) (zx zi_364_4)) (cond (Nat.blt pc 179) (zx zi_364_5) (zx zi_364_6)))
theorem xi_ok364 (pc : Nat) : xi_ok cX12_rings (xi_364 pc) = true := xi_c (xi_c (zq1 xi_w364) (xi_c (zq1 (zq2 xi_w364)) (zq1 (zq2 (zq2 xi_w364))))) (xi_c (xi_c (zq1 (zq2 (zq2 (zq2 xi_w364)))) (zq1 (zq2 (zq2 (zq2 (zq2 xi_w364)))))) (xi_c (zq1 (zq2 (zq2 (zq2 (zq2 (zq2 xi_w364)))))) (zq1 (zq2 (zq2 (zq2 (zq2 (zq2 (zq2 xi_w364)))))))))
noncomputable def zi_365_0 : ZIs := [(0, ev_13), (1, ev_13), (2, ev_184), (3, ev_1490), (6, ev_1174), (9, ev_298), (12, ev_10), (13, ev_81), (14, ev_13), (15, ev_184), (16, ev_1177), (19, ev_373), (22, ev_10), (23, ev_81), (24, ev_10), (25, ev_288)]
noncomputable def zi_365_1 : ZIs := [(26, ev_189), (27, ev_13), (28, ev_1286), (31, ev_1113), (34, ev_13), (35, ev_1633), (38, ev_189), (39, ev_189), (40, ev_293), (41, ev_299), (44, ev_1474), (47, ev_13), (48, ev_13), (49, ev_1289), (52, ev_184), (53, ev_22)]
noncomputable def zi_365_2 : ZIs := [(54, ev_184), (55, ev_1634), (58, ev_515), (59, ev_10), (60, ev_11), (62, ev_12), (64, ev_13), (65, ev_1286), (68, ev_1635), (71, ev_10), (72, ev_25), (74, ev_191), (76, ev_527), (79, ev_1636), (82, ev_13), (83, ev_191)]
noncomputable def zi_365_3 : ZIs := [(85, ev_1177), (88, ev_1637), (91, ev_13), (92, ev_13), (93, ev_1289), (96, ev_191), (98, ev_22), (99, ev_191), (101, ev_1634), (104, ev_487), (105, ev_438), (106, ev_1638), (109, ev_13), (110, ev_1633), (113, ev_13), (114, ev_1300)]
noncomputable def zi_365_4 : ZIs := [(117, ev_13), (118, ev_1289), (121, ev_191), (123, ev_22), (124, ev_18), (125, ev_18), (126, ev_28), (128, ev_13), (129, ev_1633), (132, ev_13), (133, ev_1036), (136, ev_13), (137, ev_1289), (140, ev_191), (142, ev_22), (143, ev_18)]
noncomputable def zi_365_5 : ZIs := [(144, ev_18), (145, ev_269), (147, ev_265), (149, ev_270), (151, ev_858), (154, ev_265), (156, ev_636), (159, ev_270), (161, ev_308), (163, ev_13), (164, ev_1633), (167, ev_13), (168, ev_1300), (171, ev_13), (172, ev_1289), (175, ev_191)]
noncomputable def zi_365_6 : ZIs := [(177, ev_22), (178, ev_18), (179, ev_309), (181, ev_293), (182, ev_13), (183, ev_1633), (186, ev_13), (187, ev_1036), (190, ev_13), (191, ev_1289), (194, ev_191), (196, ev_22), (197, ev_18), (198, ev_309), (200, ev_293), (201, ev_338)]
noncomputable def zi_365_7 : ZIs := [(204, ev_1639), (207, ev_343), (210, ev_1640), (213, ev_13), (214, ev_1633), (217, ev_13), (218, ev_1300), (221, ev_13), (222, ev_1289), (225, ev_184), (226, ev_22), (227, ev_18), (228, ev_18), (229, ev_13), (230, ev_1633), (233, ev_13)]
noncomputable def zi_365_8 : ZIs := [(234, ev_1036), (237, ev_13), (238, ev_1289), (241, ev_184), (242, ev_22), (243, ev_18), (244, ev_18), (245, ev_679), (248, ev_7), (249, ev_222), (252, ev_10), (253, ev_81)]
set_option maxRecDepth 100000 in
theorem xi_w365 : zall cX12_span [zi_365_0, zi_365_1, zi_365_2, zi_365_3, zi_365_4, zi_365_5, zi_365_6, zi_365_7, zi_365_8] := zall_w _ _ (by decide +kernel)
noncomputable def xi_365 (pc : Nat) : XIs := cond (Nat.blt pc 117) (cond (Nat.blt pc 54) (cond (Nat.blt pc 26) (zx zi_365_0) (zx zi_365_1)) (cond (Nat.blt pc 85) (zx zi_365_2) (zx zi_365_3))) (cond (Nat.blt pc 177) (cond (Nat.blt pc 144) (zx zi_365_4) (zx zi_365_5)) (cond (Nat.blt pc 204) (zx zi_365_6) (cond (Nat.blt pc 234) (zx zi_365_7) (zx zi_365_8))))
theorem xi_ok365 (pc : Nat) : xi_ok cX12_span (xi_365 pc) = true := xi_c (xi_c (xi_c (zq1 xi_w365) (zq1 (zq2 xi_w365))) (xi_c (zq1 (zq2 (zq2 xi_w365))) (zq1 (zq2 (zq2 (zq2 xi_w365)))))) (xi_c (xi_c (zq1 (zq2 (zq2 (zq2 (zq2 xi_w365))))) (zq1 (zq2 (zq2 (zq2 (zq2 (zq2 xi_w365))))))) (xi_c (zq1 (zq2 (zq2 (zq2 (zq2 (zq2 (zq2 xi_w365))))))) (xi_c (zq1 (zq2 (zq2 (zq2 (zq2 (zq2 (zq2 (zq2 xi_w365)))))))) (zq1 (zq2 (zq2 (zq2 (zq2 (zq2 (zq2 (zq2 (zq2 xi_w365))))))))))))
noncomputable def zi_366_0 : ZIs := [(0, ev_1641), (3, ev_13), (4, ev_1037), (7, ev_184), (8, ev_18), (9, ev_167), (10, ev_1313), (13, ev_455), (14, ev_490), (15, ev_189), (16, ev_167), (17, ev_455), (18, ev_479)]
set_option maxRecDepth 100000 in
theorem xi_w366 : zall cX12_orderOf [zi_366_0] := zall_w _ _ (by decide +kernel)
noncomputable def xi_366 (pc : Nat) : XIs := zx zi_366_0
theorem xi_ok366 (pc : Nat) : xi_ok cX12_orderOf (xi_366 pc) = true := zq1 xi_w366
noncomputable def zi_367_0 : ZIs := [(0, ev_221), (1, ev_440), (3, ev_485), (4, ev_58), (6, ev_487), (7, ev_443), (9, ev_460), (11, ev_223), (12, ev_438), (13, ev_1642), (16, ev_460), (18, ev_1643), (21, ev_525), (22, ev_221), (23, ev_438), (24, ev_433)]
noncomputable def zi_367_1 : ZIs := [(27, ev_240), (29, ev_458), (31, ev_490), (32, ev_1644), (35, ev_525), (36, ev_636), (39, ev_240), (41, ev_440), (43, ev_458), (45, ev_458), (47, ev_490), (48, ev_1644), (51, ev_525), (52, ev_58), (54, ev_460), (56, ev_1643)]
noncomputable def zi_367_2 : ZIs := [(59, ev_488), (60, ev_443), (62, ev_1526), (65, ev_240), (67, ev_479)]
set_option maxRecDepth 100000 in
theorem xi_w367 : zall cX12_power [zi_367_0, zi_367_1, zi_367_2] := zall_w _ _ (by decide +kernel)
noncomputable def xi_367 (pc : Nat) : XIs := cond (Nat.blt pc 27) (zx zi_367_0) (cond (Nat.blt pc 59) (zx zi_367_1) (zx zi_367_2))
theorem xi_ok367 (pc : Nat) : xi_ok cX12_power (xi_367 pc) = true := xi_c (zq1 xi_w367) (xi_c (zq1 (zq2 xi_w367)) (zq1 (zq2 (zq2 xi_w367))))
noncomputable def zi_368_0 : ZIs := [(0, ev_13), (1, ev_10), (2, ev_1283), (5, ev_13), (6, ev_1286), (9, ev_373), (12, ev_10), (13, ev_81), (14, ev_10), (15, ev_683), (16, ev_184), (17, ev_526), (20, ev_1113), (23, ev_13), (24, ev_1645), (27, ev_184)]
noncomputable def zi_368_1 : ZIs := [(28, ev_223), (29, ev_186), (30, ev_686), (33, ev_1507), (36, ev_10), (37, ev_683), (38, ev_184), (39, ev_527), (42, ev_1646), (45, ev_13), (46, ev_184), (47, ev_1177), (50, ev_1647), (53, ev_13), (54, ev_1300), (57, ev_13)]
noncomputable def zi_368_2 : ZIs := [(58, ev_1289), (61, ev_184), (62, ev_22), (63, ev_18), (64, ev_288), (65, ev_13), (66, ev_1036), (69, ev_13), (70, ev_1289), (73, ev_184), (74, ev_22), (75, ev_18), (76, ev_289), (77, ev_13), (78, ev_1645), (81, ev_523)]
noncomputable def zi_368_3 : ZIs := [(83, ev_189), (84, ev_350), (85, ev_311), (86, ev_437), (87, ev_221), (88, ev_455), (89, ev_186), (90, ev_13), (91, ev_1645), (94, ev_523), (96, ev_190), (97, ev_350), (98, ev_311), (99, ev_437), (100, ev_221), (101, ev_455)]
noncomputable def zi_368_4 : ZIs := [(102, ev_186), (103, ev_13), (104, ev_1645), (107, ev_168), (109, ev_189), (110, ev_350), (111, ev_190), (112, ev_22), (113, ev_311), (114, ev_437), (115, ev_1648), (118, ev_455), (119, ev_186), (120, ev_13), (121, ev_1645), (124, ev_168)]
noncomputable def zi_368_5 : ZIs := [(126, ev_190), (127, ev_350), (128, ev_189), (129, ev_22), (130, ev_311), (131, ev_437), (132, ev_1648), (135, ev_455), (136, ev_186), (137, ev_686), (140, ev_648), (143, ev_10), (144, ev_683), (145, ev_184), (146, ev_526), (149, ev_359)]
noncomputable def zi_368_6 : ZIs := [(152, ev_13), (153, ev_1645), (156, ev_184), (157, ev_311), (158, ev_437), (159, ev_1644), (162, ev_525), (163, ev_186), (164, ev_686), (167, ev_622), (170, ev_221), (171, ev_1649), (172, ev_7), (173, ev_289), (174, ev_190), (175, ev_13)]
noncomputable def zi_368_7 : ZIs := [(176, ev_1286), (179, ev_1650), (182, ev_190), (183, ev_11), (185, ev_12), (187, ev_13), (188, ev_1286), (191, ev_354), (194, ev_13), (195, ev_1645), (198, ev_168), (200, ev_12), (202, ev_350), (203, ev_190), (204, ev_22), (205, ev_437)]
noncomputable def zi_368_8 : ZIs := [(206, ev_223), (207, ev_438), (208, ev_990), (211, ev_343), (214, ev_851), (217, ev_12), (219, ev_13), (220, ev_1286), (223, ev_689), (226, ev_10), (227, ev_81), (228, ev_10), (229, ev_25), (231, ev_191), (233, ev_13), (234, ev_1286)]
noncomputable def zi_368_9 : ZIs := [(237, ev_1468), (240, ev_12), (242, ev_190), (243, ev_646), (246, ev_13), (247, ev_1645), (250, ev_168), (252, ev_12), (254, ev_350), (255, ev_191), (257, ev_22), (258, ev_437), (259, ev_58), (261, ev_13), (262, ev_1645), (265, ev_168)]
noncomputable def zi_368_10 : ZIs := [(267, ev_12), (269, ev_350), (270, ev_191), (272, ev_22), (273, ev_13), (274, ev_1645), (277, ev_168), (279, ev_190), (280, ev_350), (281, ev_191), (283, ev_22), (284, ev_437), (285, ev_186), (286, ev_13), (287, ev_1645), (290, ev_168)]
noncomputable def zi_368_11 : ZIs := [(292, ev_190), (293, ev_350), (294, ev_191), (296, ev_22), (297, ev_458), (299, ev_186), (300, ev_338), (303, ev_981), (306, ev_12), (308, ev_190), (309, ev_740), (312, ev_1644), (315, ev_481), (316, ev_483), (317, ev_1644), (320, ev_525)]
noncomputable def zi_368_12 : ZIs := [(321, ev_222), (324, ev_481), (325, ev_1649), (326, ev_481), (327, ev_13), (328, ev_1645), (331, ev_523), (333, ev_190), (334, ev_350), (335, ev_437), (336, ev_490), (337, ev_1644), (340, ev_525), (341, ev_1649), (342, ev_13), (343, ev_1645)]
noncomputable def zi_368_13 : ZIs := [(346, ev_523), (348, ev_190), (349, ev_350), (350, ev_437), (351, ev_1651), (354, ev_1652), (357, ev_572), (359, ev_190), (360, ev_7), (361, ev_22), (362, ev_269), (364, ev_270), (366, ev_13), (367, ev_1286), (370, ev_1653), (373, ev_13)]
noncomputable def zi_368_14 : ZIs := [(374, ev_1645), (377, ev_168), (379, ev_270), (381, ev_350), (382, ev_190), (383, ev_22), (384, ev_437), (385, ev_499), (387, ev_490), (388, ev_1644), (391, ev_525), (392, ev_443), (394, ev_190), (395, ev_445), (397, ev_446), (399, ev_13)]
noncomputable def zi_368_15 : ZIs := [(400, ev_1286), (403, ev_1591), (406, ev_13), (407, ev_1645), (410, ev_168), (412, ev_270), (414, ev_350), (415, ev_446), (417, ev_22), (418, ev_13), (419, ev_1645), (422, ev_168), (424, ev_270), (426, ev_350), (427, ev_446), (429, ev_22)]
noncomputable def zi_368_16 : ZIs := [(430, ev_437), (431, ev_1644), (434, ev_460), (436, ev_483), (437, ev_13), (438, ev_1645), (441, ev_168), (443, ev_190), (444, ev_350), (445, ev_446), (447, ev_22), (448, ev_437), (449, ev_490), (450, ev_455), (451, ev_1644), (454, ev_525)]
noncomputable def zi_368_17 : ZIs := [(455, ev_186), (456, ev_462), (459, ev_273), (462, ev_953), (465, ev_1569), (468, ev_294), (471, ev_1654), (474, ev_481), (475, ev_989), (476, ev_81)]
set_option maxRecDepth 100000 in
theorem xi_w368 : zall cX12_trees [zi_368_0, zi_368_1, zi_368_2, zi_368_3, zi_368_4, zi_368_5, zi_368_6, zi_368_7, zi_368_8, zi_368_9, zi_368_10, zi_368_11, zi_368_12, zi_368_13, zi_368_14, zi_368_15, zi_368_16, zi_368_17] := zall_w _ _ (by decide +kernel)
noncomputable def xi_368 (pc : Nat) : XIs := cond (Nat.blt pc 237) (cond (Nat.blt pc 102) (cond (Nat.blt pc 58) (cond (Nat.blt pc 28) (zx zi_368_0) (zx zi_368_1)) (cond (Nat.blt pc 83) (zx zi_368_2) (zx zi_368_3))) (cond (Nat.blt pc 152) (cond (Nat.blt pc 126) (zx zi_368_4) (zx zi_368_5)) (cond (Nat.blt pc 176) (zx zi_368_6) (cond (Nat.blt pc 206) (zx zi_368_7) (zx zi_368_8))))) (cond (Nat.blt pc 346) (cond (Nat.blt pc 292) (cond (Nat.blt pc 267) (zx zi_368_9) (zx zi_368_10)) (cond (Nat.blt pc 321) (zx zi_368_11) (zx zi_368_12))) (cond (Nat.blt pc 400) (cond (Nat.blt pc 374) (zx zi_368_13) (zx zi_368_14)) (cond (Nat.blt pc 430) (zx zi_368_15) (cond (Nat.blt pc 455) (zx zi_368_16) (zx zi_368_17)))))
theorem xi_ok368 (pc : Nat) : xi_ok cX12_trees (xi_368 pc) = true := xi_c (xi_c (xi_c (xi_c (zq1 xi_w368) (zq1 (zq2 xi_w368))) (xi_c (zq1 (zq2 (zq2 xi_w368))) (zq1 (zq2 (zq2 (zq2 xi_w368)))))) (xi_c (xi_c (zq1 (zq2 (zq2 (zq2 (zq2 xi_w368))))) (zq1 (zq2 (zq2 (zq2 (zq2 (zq2 xi_w368))))))) (xi_c (zq1 (zq2 (zq2 (zq2 (zq2 (zq2 (zq2 xi_w368))))))) (xi_c (zq1 (zq2 (zq2 (zq2 (zq2 (zq2 (zq2 (zq2 xi_w368)))))))) (zq1 (zq2 (zq2 (zq2 (zq2 (zq2 (zq2 (zq2 (zq2 xi_w368))))))))))))) (xi_c (xi_c (xi_c (zq1 (zq2 (zq2 (zq2 (zq2 (zq2 (zq2 (zq2 (zq2 (zq2 xi_w368)))))))))) (zq1 (zq2 (zq2 (zq2 (zq2 (zq2 (zq2 (zq2 (zq2 (zq2 (zq2 xi_w368)))))))))))) (xi_c (zq1 (zq2 (zq2 (zq2 (zq2 (zq2 (zq2 (zq2 (zq2 (zq2 (zq2 (zq2 xi_w368)))))))))))) (zq1 (zq2 (zq2 (zq2 (zq2 (zq2 (zq2 (zq2 (zq2 (zq2 (zq2 (zq2 (zq2 xi_w368))))))))))))))) (xi_c (xi_c (zq1 (zq2 (zq2 (zq2 (zq2 (zq2 (zq2 (zq2 (zq2 (zq2 (zq2 (zq2 (zq2 (zq2 xi_w368)))))))))))))) (zq1 (zq2 (zq2 (zq2 (zq2 (zq2 (zq2 (zq2 (zq2 (zq2 (zq2 (zq2 (zq2 (zq2 (zq2 xi_w368)))))))))))))))) (xi_c (zq1 (zq2 (zq2 (zq2 (zq2 (zq2 (zq2 (zq2 (zq2 (zq2 (zq2 (zq2 (zq2 (zq2 (zq2 (zq2 xi_w368)))))))))))))))) (xi_c (zq1 (zq2 (zq2 (zq2 (zq2 (zq2 (zq2 (zq2 (zq2 (zq2 (zq2 (zq2 (zq2 (zq2 (zq2 (zq2 (zq2 xi_w368))))))))))))))))) (zq1 (zq2 (zq2 (zq2 (zq2 (zq2 (zq2 (zq2 (zq2 (zq2 (zq2 (zq2 (zq2 (zq2 (zq2 (zq2 (zq2 (zq2 xi_w368))))))))))))))))))))))
noncomputable def zi_369_0 : ZIs := [(0, ev_13), (1, ev_13), (2, ev_184), (3, ev_1333), (6, ev_486), (9, ev_189), (10, ev_167), (11, ev_223), (12, ev_1655), (15, ev_1314), (18, ev_220), (21, ev_7), (22, ev_222), (25, ev_10), (26, ev_1174), (29, ev_298)]
noncomputable def zi_369_1 : ZIs := [(32, ev_223), (33, ev_479), (34, ev_10), (35, ev_289), (36, ev_190), (37, ev_13), (38, ev_1286), (41, ev_941), (44, ev_13), (45, ev_1656), (48, ev_190), (49, ev_1657), (52, ev_186), (53, ev_13), (54, ev_1658), (57, ev_190)]
noncomputable def zi_369_2 : ZIs := [(58, ev_10), (59, ev_293), (60, ev_294), (63, ev_355), (66, ev_13), (67, ev_1289), (70, ev_289), (71, ev_190), (72, ev_13), (73, ev_1289), (76, ev_527), (79, ev_22), (80, ev_335), (83, ev_13), (84, ev_1288), (87, ev_190)]
noncomputable def zi_369_3 : ZIs := [(88, ev_1290), (89, ev_388), (92, ev_13), (93, ev_1658), (96, ev_13), (97, ev_1300), (100, ev_190), (101, ev_18), (102, ev_311), (103, ev_18), (104, ev_7), (105, ev_22), (106, ev_293), (107, ev_294), (110, ev_717), (113, ev_10)]
noncomputable def zi_369_4 : ZIs := [(114, ev_289), (115, ev_190), (116, ev_189), (117, ev_1659), (120, ev_223), (121, ev_440), (123, ev_10), (124, ev_28), (126, ev_265), (128, ev_13), (129, ev_1286), (132, ev_861), (135, ev_240), (137, ev_13), (138, ev_1656), (141, ev_265)]
noncomputable def zi_369_5 : ZIs := [(143, ev_437), (144, ev_455), (145, ev_440), (147, ev_13), (148, ev_1660), (151, ev_265), (153, ev_223), (154, ev_186), (155, ev_315), (158, ev_691), (161, ev_13), (162, ev_1289), (165, ev_28), (167, ev_265), (169, ev_13), (170, ev_1289)]
noncomputable def zi_369_6 : ZIs := [(173, ev_527), (176, ev_22), (177, ev_963), (180, ev_13), (181, ev_1288), (184, ev_265), (186, ev_1290), (187, ev_266), (190, ev_13), (191, ev_1656), (194, ev_13), (195, ev_1300), (198, ev_265), (200, ev_18), (201, ev_437), (202, ev_1661)]
noncomputable def zi_369_7 : ZIs := [(205, ev_490), (206, ev_1662), (209, ev_13), (210, ev_1658), (213, ev_13), (214, ev_1300), (217, ev_265), (219, ev_18), (220, ev_18), (221, ev_167), (222, ev_490), (223, ev_488), (224, ev_919), (226, ev_13), (227, ev_1660), (230, ev_13)]
noncomputable def zi_369_8 : ZIs := [(231, ev_1036), (234, ev_265), (236, ev_18), (237, ev_311), (238, ev_437), (239, ev_920), (241, ev_455), (242, ev_186), (243, ev_240), (245, ev_920), (247, ev_483), (248, ev_440), (250, ev_315), (253, ev_1501), (256, ev_10), (257, ev_28)]
noncomputable def zi_369_9 : ZIs := [(259, ev_265), (261, ev_13), (262, ev_1286), (265, ev_1663), (268, ev_13), (269, ev_1656), (272, ev_265), (274, ev_13), (275, ev_1660), (278, ev_265), (280, ev_437), (281, ev_240), (283, ev_13), (284, ev_1286), (287, ev_167), (288, ev_488)]
noncomputable def zi_369_10 : ZIs := [(289, ev_455), (290, ev_265), (292, ev_167), (293, ev_240), (295, ev_13), (296, ev_1286), (299, ev_167), (300, ev_525), (301, ev_438), (302, ev_484), (305, ev_221), (306, ev_222), (309, ev_223), (310, ev_455), (311, ev_186), (312, ev_315)]
noncomputable def zi_369_11 : ZIs := [(315, ev_501), (318, ev_294), (321, ev_1664), (324, ev_13), (325, ev_1656), (328, ev_184), (329, ev_437), (330, ev_479)]
set_option maxRecDepth 100000 in
theorem xi_w369 : zall cX12_rank [zi_369_0, zi_369_1, zi_369_2, zi_369_3, zi_369_4, zi_369_5, zi_369_6, zi_369_7, zi_369_8, zi_369_9, zi_369_10, zi_369_11] := zall_w _ _ (by decide +kernel)
noncomputable def xi_369 (pc : Nat) : XIs := cond (Nat.blt pc 173) (cond (Nat.blt pc 88) (cond (Nat.blt pc 32) (zx zi_369_0) (cond (Nat.blt pc 58) (zx zi_369_1) (zx zi_369_2))) (cond (Nat.blt pc 114) (zx zi_369_3) (cond (Nat.blt pc 143) (zx zi_369_4) (zx zi_369_5)))) (cond (Nat.blt pc 259) (cond (Nat.blt pc 205) (zx zi_369_6) (cond (Nat.blt pc 231) (zx zi_369_7) (zx zi_369_8))) (cond (Nat.blt pc 289) (zx zi_369_9) (cond (Nat.blt pc 315) (zx zi_369_10) (zx zi_369_11))))
theorem xi_ok369 (pc : Nat) : xi_ok cX12_rank (xi_369 pc) = true := xi_c (xi_c (xi_c (zq1 xi_w369) (xi_c (zq1 (zq2 xi_w369)) (zq1 (zq2 (zq2 xi_w369))))) (xi_c (zq1 (zq2 (zq2 (zq2 xi_w369)))) (xi_c (zq1 (zq2 (zq2 (zq2 (zq2 xi_w369))))) (zq1 (zq2 (zq2 (zq2 (zq2 (zq2 xi_w369))))))))) (xi_c (xi_c (zq1 (zq2 (zq2 (zq2 (zq2 (zq2 (zq2 xi_w369))))))) (xi_c (zq1 (zq2 (zq2 (zq2 (zq2 (zq2 (zq2 (zq2 xi_w369)))))))) (zq1 (zq2 (zq2 (zq2 (zq2 (zq2 (zq2 (zq2 (zq2 xi_w369))))))))))) (xi_c (zq1 (zq2 (zq2 (zq2 (zq2 (zq2 (zq2 (zq2 (zq2 (zq2 xi_w369)))))))))) (xi_c (zq1 (zq2 (zq2 (zq2 (zq2 (zq2 (zq2 (zq2 (zq2 (zq2 (zq2 xi_w369))))))))))) (zq1 (zq2 (zq2 (zq2 (zq2 (zq2 (zq2 (zq2 (zq2 (zq2 (zq2 (zq2 xi_w369)))))))))))))))
end
section
noncomputable def zi_370_0 : ZIs := [(0, ev_10), (1, ev_25), (3, ev_191), (5, ev_13), (6, ev_1286), (9, ev_1584), (12, ev_23), (13, ev_191), (15, ev_191), (17, ev_184), (18, ev_816), (21, ev_10), (22, ev_222), (25, ev_245), (26, ev_293), (27, ev_196)]
noncomputable def zi_370_1 : ZIs := [(29, ev_191), (31, ev_191), (33, ev_184), (34, ev_816), (37, ev_221), (38, ev_222), (41, ev_223), (42, ev_186), (43, ev_338), (46, ev_403), (49, ev_10), (50, ev_25), (52, ev_191), (54, ev_13), (55, ev_1286), (58, ev_1635)]
noncomputable def zi_370_2 : ZIs := [(61, ev_13), (62, ev_1289), (65, ev_28), (67, ev_265), (69, ev_13), (70, ev_1289), (73, ev_527), (76, ev_22), (77, ev_468), (80, ev_189), (81, ev_632), (84, ev_13), (85, ev_1036), (88, ev_265), (90, ev_18), (91, ev_631)]
noncomputable def zi_370_3 : ZIs := [(94, ev_13), (95, ev_1300), (98, ev_265), (100, ev_18), (101, ev_269), (103, ev_189), (104, ev_632), (107, ev_13), (108, ev_1300), (111, ev_265), (113, ev_18), (114, ev_631), (117, ev_13), (118, ev_1036), (121, ev_265), (123, ev_18)]
noncomputable def zi_370_4 : ZIs := [(124, ev_308), (126, ev_13), (127, ev_1288), (130, ev_265), (132, ev_1290), (133, ev_1615), (136, ev_23), (137, ev_270), (139, ev_18), (140, ev_191), (142, ev_973), (145, ev_23), (146, ev_309), (148, ev_18), (149, ev_1156), (152, ev_23)]
noncomputable def zi_370_5 : ZIs := [(153, ev_309), (155, ev_18), (156, ev_191), (158, ev_7), (159, ev_22), (160, ev_889), (163, ev_23), (164, ev_309), (166, ev_191), (168, ev_7), (169, ev_22), (170, ev_293), (171, ev_196), (173, ev_309), (175, ev_196), (177, ev_309)]
noncomputable def zi_370_6 : ZIs := [(179, ev_437), (180, ev_196), (182, ev_270), (184, ev_437), (185, ev_455), (186, ev_1644), (189, ev_525), (190, ev_186), (191, ev_315), (194, ev_1665), (197, ev_338), (200, ev_1640), (203, ev_253)]
set_option maxRecDepth 100000 in
theorem xi_w370 : zall cX12_hop [zi_370_0, zi_370_1, zi_370_2, zi_370_3, zi_370_4, zi_370_5, zi_370_6] := zall_w _ _ (by decide +kernel)
noncomputable def xi_370 (pc : Nat) : XIs := cond (Nat.blt pc 94) (cond (Nat.blt pc 29) (zx zi_370_0) (cond (Nat.blt pc 61) (zx zi_370_1) (zx zi_370_2))) (cond (Nat.blt pc 153) (cond (Nat.blt pc 124) (zx zi_370_3) (zx zi_370_4)) (cond (Nat.blt pc 179) (zx zi_370_5) (zx zi_370_6)))
theorem xi_ok370 (pc : Nat) : xi_ok cX12_hop (xi_370 pc) = true := xi_c (xi_c (zq1 xi_w370) (xi_c (zq1 (zq2 xi_w370)) (zq1 (zq2 (zq2 xi_w370))))) (xi_c (xi_c (zq1 (zq2 (zq2 (zq2 xi_w370)))) (zq1 (zq2 (zq2 (zq2 (zq2 xi_w370)))))) (xi_c (zq1 (zq2 (zq2 (zq2 (zq2 (zq2 xi_w370)))))) (zq1 (zq2 (zq2 (zq2 (zq2 (zq2 (zq2 xi_w370)))))))))
noncomputable def zi_371_0 : ZIs := [(0, ev_13), (1, ev_13), (2, ev_184), (3, ev_1333), (6, ev_1394), (9, ev_13), (10, ev_189), (11, ev_1333), (14, ev_615), (17, ev_190), (18, ev_167), (19, ev_223), (20, ev_1643), (23, ev_1314), (26, ev_412), (29, ev_13)]
noncomputable def zi_371_1 : ZIs := [(30, ev_12), (32, ev_1333), (35, ev_220), (38, ev_7), (39, ev_222), (42, ev_10), (43, ev_1174), (46, ev_298), (49, ev_10), (50, ev_81), (51, ev_13), (52, ev_184), (53, ev_10), (54, ev_13), (55, ev_1067), (58, ev_13)]
noncomputable def zi_371_2 : ZIs := [(59, ev_1666), (62, ev_1667), (65, ev_13), (66, ev_189), (67, ev_7), (68, ev_13), (69, ev_1668), (72, ev_13), (73, ev_1669), (76, ev_1667), (79, ev_190), (80, ev_376), (83, ev_13), (84, ev_1067), (87, ev_189), (88, ev_18)]
noncomputable def zi_371_3 : ZIs := [(89, ev_81), (90, ev_190), (91, ev_7), (92, ev_704), (95, ev_13), (96, ev_1666), (99, ev_189), (100, ev_437), (101, ev_989), (102, ev_81), (103, ev_13), (104, ev_1067), (107, ev_12), (109, ev_18), (110, ev_1610), (113, ev_13)]
noncomputable def zi_371_4 : ZIs := [(114, ev_1668), (117, ev_12), (119, ev_18), (120, ev_1620), (123, ev_13), (124, ev_1067), (127, ev_12), (129, ev_18), (130, ev_13), (131, ev_1668), (134, ev_12), (136, ev_18), (137, ev_22), (138, ev_13), (139, ev_1067), (142, ev_189)]
noncomputable def zi_371_5 : ZIs := [(143, ev_18), (144, ev_816), (147, ev_7), (148, ev_222), (151, ev_10), (152, ev_25), (154, ev_191), (156, ev_1168), (159, ev_13), (160, ev_1666), (163, ev_12), (165, ev_437), (166, ev_13), (167, ev_1669), (170, ev_12), (172, ev_437)]
noncomputable def zi_371_6 : ZIs := [(173, ev_490), (174, ev_1644), (177, ev_525), (178, ev_989), (179, ev_222), (182, ev_10), (183, ev_81)]
set_option maxRecDepth 100000 in
theorem xi_w371 : zall cX12_shortest [zi_371_0, zi_371_1, zi_371_2, zi_371_3, zi_371_4, zi_371_5, zi_371_6] := zall_w _ _ (by decide +kernel)
noncomputable def xi_371 (pc : Nat) : XIs := cond (Nat.blt pc 89) (cond (Nat.blt pc 30) (zx zi_371_0) (cond (Nat.blt pc 59) (zx zi_371_1) (zx zi_371_2))) (cond (Nat.blt pc 143) (cond (Nat.blt pc 114) (zx zi_371_3) (zx zi_371_4)) (cond (Nat.blt pc 173) (zx zi_371_5) (zx zi_371_6)))
theorem xi_ok371 (pc : Nat) : xi_ok cX12_shortest (xi_371 pc) = true := xi_c (xi_c (zq1 xi_w371) (xi_c (zq1 (zq2 xi_w371)) (zq1 (zq2 (zq2 xi_w371))))) (xi_c (xi_c (zq1 (zq2 (zq2 (zq2 xi_w371)))) (zq1 (zq2 (zq2 (zq2 (zq2 xi_w371)))))) (xi_c (zq1 (zq2 (zq2 (zq2 (zq2 (zq2 xi_w371)))))) (zq1 (zq2 (zq2 (zq2 (zq2 (zq2 (zq2 xi_w371)))))))))
noncomputable def zi_372_0 : ZIs := [(0, ev_1643), (3, ev_13), (4, ev_1670), (7, ev_167), (8, ev_490), (9, ev_13), (10, ev_1671), (13, ev_168), (15, ev_184), (16, ev_350), (17, ev_189), (18, ev_22), (19, ev_18), (20, ev_167), (21, ev_490), (22, ev_13)]
noncomputable def zi_372_1 : ZIs := [(23, ev_1672), (26, ev_184), (27, ev_18), (28, ev_167), (29, ev_13), (30, ev_1672), (33, ev_189), (34, ev_18), (35, ev_167), (36, ev_490), (37, ev_483), (38, ev_479)]
set_option maxRecDepth 100000 in
theorem xi_w372 : zall cX12_gainOf [zi_372_0, zi_372_1] := zall_w _ _ (by decide +kernel)
noncomputable def xi_372 (pc : Nat) : XIs := cond (Nat.blt pc 23) (zx zi_372_0) (zx zi_372_1)
theorem xi_ok372 (pc : Nat) : xi_ok cX12_gainOf (xi_372 pc) = true := xi_c (zq1 xi_w372) (zq1 (zq2 xi_w372))
noncomputable def zi_373_0 : ZIs := [(0, ev_223), (1, ev_922), (2, ev_10), (3, ev_25), (5, ev_191), (7, ev_13), (8, ev_1286), (11, ev_1584), (14, ev_482), (15, ev_191), (17, ev_184), (18, ev_1479), (21, ev_13), (22, ev_1673), (25, ev_191), (27, ev_18)]
noncomputable def zi_373_1 : ZIs := [(28, ev_189), (29, ev_925), (32, ev_13), (33, ev_184), (34, ev_191), (36, ev_1674), (39, ev_222), (42, ev_223), (43, ev_455), (44, ev_922), (45, ev_338), (48, ev_403), (51, ev_482), (52, ev_479)]
set_option maxRecDepth 100000 in
theorem xi_w373 : zall cX12_gainIn [zi_373_0, zi_373_1] := zall_w _ _ (by decide +kernel)
noncomputable def xi_373 (pc : Nat) : XIs := cond (Nat.blt pc 28) (zx zi_373_0) (zx zi_373_1)
theorem xi_ok373 (pc : Nat) : xi_ok cX12_gainIn (xi_373 pc) = true := xi_c (zq1 xi_w373) (zq1 (zq2 xi_w373))
noncomputable def zi_374_0 : ZIs := [(0, ev_13), (1, ev_10), (2, ev_1675), (5, ev_10), (6, ev_683), (7, ev_184), (8, ev_526), (11, ev_1113), (14, ev_13), (15, ev_1671), (18, ev_184), (19, ev_10), (20, ev_293), (21, ev_686), (24, ev_1507), (27, ev_10)]
noncomputable def zi_374_1 : ZIs := [(28, ev_683), (29, ev_184), (30, ev_13), (31, ev_1286), (34, ev_341), (37, ev_13), (38, ev_1672), (41, ev_184), (42, ev_10), (43, ev_293), (44, ev_13), (45, ev_1673), (48, ev_184), (49, ev_184), (50, ev_293), (51, ev_686)]
noncomputable def zi_374_2 : ZIs := [(54, ev_314), (57, ev_10), (58, ev_683), (59, ev_184), (60, ev_527), (63, ev_1676), (66, ev_13), (67, ev_184), (68, ev_1177), (71, ev_1417), (74, ev_13), (75, ev_1), (76, ev_1670), (79, ev_7), (80, ev_22), (81, ev_1675)]
noncomputable def zi_374_3 : ZIs := [(84, ev_13), (85, ev_1672), (88, ev_13), (89, ev_1300), (92, ev_13), (93, ev_1289), (96, ev_184), (97, ev_22), (98, ev_18), (99, ev_311), (100, ev_18), (101, ev_7), (102, ev_22), (103, ev_293), (104, ev_13), (105, ev_1672)]
noncomputable def zi_374_4 : ZIs := [(108, ev_13), (109, ev_1036), (112, ev_13), (113, ev_1289), (116, ev_184), (117, ev_22), (118, ev_18), (119, ev_311), (120, ev_18), (121, ev_7), (122, ev_22), (123, ev_293), (124, ev_13), (125, ev_1671), (128, ev_168), (130, ev_13)]
noncomputable def zi_374_5 : ZIs := [(131, ev_1300), (134, ev_13), (135, ev_1289), (138, ev_184), (139, ev_22), (140, ev_18), (141, ev_350), (142, ev_13), (143, ev_1036), (146, ev_13), (147, ev_1289), (150, ev_184), (151, ev_22), (152, ev_18), (153, ev_22), (154, ev_311)]
noncomputable def zi_374_6 : ZIs := [(155, ev_18), (156, ev_7), (157, ev_22), (158, ev_293), (159, ev_13), (160, ev_1671), (163, ev_168), (165, ev_13), (166, ev_1036), (169, ev_13), (170, ev_1289), (173, ev_184), (174, ev_22), (175, ev_18), (176, ev_350), (177, ev_13)]
noncomputable def zi_374_7 : ZIs := [(178, ev_1300), (181, ev_13), (182, ev_1289), (185, ev_184), (186, ev_22), (187, ev_18), (188, ev_22), (189, ev_311), (190, ev_18), (191, ev_7), (192, ev_22), (193, ev_293), (194, ev_686), (197, ev_975), (200, ev_7), (201, ev_683)]
noncomputable def zi_374_8 : ZIs := [(202, ev_10), (203, ev_288), (204, ev_189), (205, ev_730), (207, ev_503), (210, ev_184), (211, ev_266), (214, ev_10), (215, ev_683), (216, ev_10), (217, ev_289), (218, ev_190), (219, ev_13), (220, ev_1286), (223, ev_846), (226, ev_13)]
noncomputable def zi_374_9 : ZIs := [(227, ev_190), (228, ev_1677), (231, ev_11), (233, ev_184), (234, ev_385), (237, ev_12), (239, ev_13), (240, ev_1673), (243, ev_190), (244, ev_18), (245, ev_679), (248, ev_7), (249, ev_222), (252, ev_10), (253, ev_683), (254, ev_13)]
noncomputable def zi_374_10 : ZIs := [(255, ev_1673), (258, ev_190), (259, ev_12), (261, ev_293), (262, ev_294), (265, ev_848), (268, ev_299), (271, ev_1411), (274, ev_253)]
set_option maxRecDepth 100000 in
theorem xi_w374 : zall cX12_findGroups [zi_374_0, zi_374_1, zi_374_2, zi_374_3, zi_374_4, zi_374_5, zi_374_6, zi_374_7, zi_374_8, zi_374_9, zi_374_10] := zall_w _ _ (by decide +kernel)
noncomputable def xi_374 (pc : Nat) : XIs := cond (Nat.blt pc 131) (cond (Nat.blt pc 54) (cond (Nat.blt pc 28) (zx zi_374_0) (zx zi_374_1)) (cond (Nat.blt pc 84) (zx zi_374_2) (cond (Nat.blt pc 108) (zx zi_374_3) (zx zi_374_4)))) (cond (Nat.blt pc 202) (cond (Nat.blt pc 155) (zx zi_374_5) (cond (Nat.blt pc 178) (zx zi_374_6) (zx zi_374_7))) (cond (Nat.blt pc 227) (zx zi_374_8) (cond (Nat.blt pc 255) (zx zi_374_9) (zx zi_374_10))))
theorem xi_ok374 (pc : Nat) : xi_ok cX12_findGroups (xi_374 pc) = true := xi_c (xi_c (xi_c (zq1 xi_w374) (zq1 (zq2 xi_w374))) (xi_c (zq1 (zq2 (zq2 xi_w374))) (xi_c (zq1 (zq2 (zq2 (zq2 xi_w374)))) (zq1 (zq2 (zq2 (zq2 (zq2 xi_w374)))))))) (xi_c (xi_c (zq1 (zq2 (zq2 (zq2 (zq2 (zq2 xi_w374)))))) (xi_c (zq1 (zq2 (zq2 (zq2 (zq2 (zq2 (zq2 xi_w374))))))) (zq1 (zq2 (zq2 (zq2 (zq2 (zq2 (zq2 (zq2 xi_w374)))))))))) (xi_c (zq1 (zq2 (zq2 (zq2 (zq2 (zq2 (zq2 (zq2 (zq2 xi_w374))))))))) (xi_c (zq1 (zq2 (zq2 (zq2 (zq2 (zq2 (zq2 (zq2 (zq2 (zq2 xi_w374)))))))))) (zq1 (zq2 (zq2 (zq2 (zq2 (zq2 (zq2 (zq2 (zq2 (zq2 (zq2 xi_w374))))))))))))))
noncomputable def zi_375_0 : ZIs := [(0, ev_407), (2, ev_289), (3, ev_13), (4, ev_1286), (7, ev_7), (8, ev_16), (9, ev_11), (11, ev_12), (13, ev_1678), (16, ev_13), (17, ev_1673), (20, ev_12), (22, ev_18), (23, ev_184), (24, ev_796), (27, ev_12)]
noncomputable def zi_375_1 : ZIs := [(29, ev_189), (30, ev_1679), (33, ev_12), (35, ev_222), (38, ev_190), (39, ev_289), (40, ev_1680), (43, ev_691), (46, ev_190), (47, ev_81)]
set_option maxRecDepth 100000 in
theorem xi_w375 : zall cX12_leastOf [zi_375_0, zi_375_1] := zall_w _ _ (by decide +kernel)
noncomputable def xi_375 (pc : Nat) : XIs := cond (Nat.blt pc 29) (zx zi_375_0) (zx zi_375_1)
theorem xi_ok375 (pc : Nat) : xi_ok cX12_leastOf (xi_375 pc) = true := xi_c (zq1 xi_w375) (zq1 (zq2 xi_w375))
noncomputable def zi_376_0 : ZIs := [(0, ev_13), (1, ev_184), (2, ev_13), (3, ev_1673), (6, ev_184), (7, ev_18), (8, ev_1681), (11, ev_515), (12, ev_13), (13, ev_1673), (16, ev_184), (17, ev_18), (18, ev_11), (20, ev_245), (21, ev_25), (23, ev_13)]
noncomputable def zi_376_1 : ZIs := [(24, ev_13), (25, ev_1673), (28, ev_184), (29, ev_18), (30, ev_184), (31, ev_1682), (34, ev_407), (36, ev_816), (39, ev_7), (40, ev_222), (43, ev_10), (44, ev_28), (46, ev_10), (47, ev_269), (49, ev_270), (51, ev_13)]
noncomputable def zi_376_2 : ZIs := [(52, ev_1286), (55, ev_1683), (58, ev_270), (60, ev_184), (61, ev_1684), (64, ev_13), (65, ev_1671), (68, ev_168), (70, ev_184), (71, ev_350), (72, ev_270), (74, ev_22), (75, ev_18), (76, ev_1071), (79, ev_13), (80, ev_1673)]
noncomputable def zi_376_3 : ZIs := [(83, ev_270), (85, ev_18), (86, ev_13), (87, ev_1673), (90, ev_184), (91, ev_18), (92, ev_1685), (95, ev_13), (96, ev_184), (97, ev_13), (98, ev_1673), (101, ev_270), (103, ev_18), (104, ev_1681), (107, ev_443), (109, ev_13)]
noncomputable def zi_376_4 : ZIs := [(110, ev_13), (111, ev_1673), (114, ev_270), (116, ev_18), (117, ev_184), (118, ev_1682), (121, ev_445), (123, ev_460), (125, ev_487), (126, ev_438), (127, ev_1686), (130, ev_460), (132, ev_487), (133, ev_438), (134, ev_1687), (137, ev_191)]
noncomputable def zi_376_5 : ZIs := [(139, ev_1688), (142, ev_446), (144, ev_191), (146, ev_620), (149, ev_460), (151, ev_515), (152, ev_13), (153, ev_1673), (156, ev_270), (158, ev_18), (159, ev_11), (161, ev_446), (163, ev_25), (165, ev_953), (168, ev_987), (171, ev_265)]
noncomputable def zi_376_6 : ZIs := [(173, ev_385), (176, ev_487), (177, ev_223), (178, ev_438), (179, ev_1398), (182, ev_13), (183, ev_1689), (186, ev_81), (187, ev_12), (189, ev_81)]
set_option maxRecDepth 100000 in
theorem xi_w376 : zall cX12_bestGroup [zi_376_0, zi_376_1, zi_376_2, zi_376_3, zi_376_4, zi_376_5, zi_376_6] := zall_w _ _ (by decide +kernel)
noncomputable def xi_376 (pc : Nat) : XIs := cond (Nat.blt pc 83) (cond (Nat.blt pc 24) (zx zi_376_0) (cond (Nat.blt pc 52) (zx zi_376_1) (zx zi_376_2))) (cond (Nat.blt pc 139) (cond (Nat.blt pc 110) (zx zi_376_3) (zx zi_376_4)) (cond (Nat.blt pc 173) (zx zi_376_5) (zx zi_376_6)))
theorem xi_ok376 (pc : Nat) : xi_ok cX12_bestGroup (xi_376 pc) = true := xi_c (xi_c (zq1 xi_w376) (xi_c (zq1 (zq2 xi_w376)) (zq1 (zq2 (zq2 xi_w376))))) (xi_c (xi_c (zq1 (zq2 (zq2 (zq2 xi_w376)))) (zq1 (zq2 (zq2 (zq2 (zq2 xi_w376)))))) (xi_c (zq1 (zq2 (zq2 (zq2 (zq2 (zq2 xi_w376)))))) (zq1 (zq2 (zq2 (zq2 (zq2 (zq2 (zq2 xi_w376)))))))))
noncomputable def zi_377_0 : ZIs := [(0, ev_10), (1, ev_683), (2, ev_13), (3, ev_184), (4, ev_245), (5, ev_1682), (8, ev_407), (10, ev_470), (13, ev_686), (16, ev_1154), (19, ev_184), (20, ev_81)]
set_option maxRecDepth 100000 in
theorem xi_w377 : zall cX12_freeGroup [zi_377_0] := zall_w _ _ (by decide +kernel)
noncomputable def xi_377 (pc : Nat) : XIs := zx zi_377_0
theorem xi_ok377 (pc : Nat) : xi_ok cX12_freeGroup (xi_377 pc) = true := zq1 xi_w377
noncomputable def zi_378_0 : ZIs := [(0, ev_13), (1, ev_13), (2, ev_184), (3, ev_1333), (6, ev_1174), (9, ev_298), (12, ev_10), (13, ev_81), (14, ev_13), (15, ev_1690), (18, ev_13), (19, ev_13), (20, ev_1673), (23, ev_184), (24, ev_18), (25, ev_245)]
noncomputable def zi_378_1 : ZIs := [(26, ev_1682), (29, ev_81)]
set_option maxRecDepth 100000 in
theorem xi_w378 : zall cX12_group [zi_378_0, zi_378_1] := zall_w _ _ (by decide +kernel)
noncomputable def xi_378 (pc : Nat) : XIs := cond (Nat.blt pc 26) (zx zi_378_0) (zx zi_378_1)
theorem xi_ok378 (pc : Nat) : xi_ok cX12_group (xi_378 pc) = true := xi_c (zq1 xi_w378) (zq1 (zq2 xi_w378))
noncomputable def zi_379_0 : ZIs := [(0, ev_13), (1, ev_10), (2, ev_1283), (5, ev_13), (6, ev_1690), (9, ev_223), (10, ev_1649), (11, ev_10), (12, ev_289), (13, ev_190), (14, ev_13), (15, ev_1286), (18, ev_341), (21, ev_481), (22, ev_13), (23, ev_190)]
noncomputable def zi_379_1 : ZIs := [(24, ev_13), (25, ev_1673), (28, ev_190), (29, ev_18), (30, ev_1681), (33, ev_455), (34, ev_1649), (35, ev_294), (38, ev_314), (41, ev_481), (42, ev_479)]
set_option maxRecDepth 100000 in
theorem xi_w379 : zall cX12_gain [zi_379_0, zi_379_1] := zall_w _ _ (by decide +kernel)
noncomputable def xi_379 (pc : Nat) : XIs := cond (Nat.blt pc 24) (zx zi_379_0) (zx zi_379_1)
theorem xi_ok379 (pc : Nat) : xi_ok cX12_gain (xi_379 pc) = true := xi_c (zq1 xi_w379) (zq1 (zq2 xi_w379))
noncomputable def zi_380_0 : ZIs := [(0, ev_13), (1, ev_184), (2, ev_167), (3, ev_223), (4, ev_221), (5, ev_1314), (8, ev_1174), (11, ev_298), (14, ev_223), (15, ev_479), (16, ev_13), (17, ev_1508), (20, ev_223), (21, ev_515), (22, ev_10), (23, ev_11)]
noncomputable def zi_380_1 : ZIs := [(25, ev_12), (27, ev_13), (28, ev_1286), (31, ev_586), (34, ev_12), (36, ev_7), (37, ev_22), (38, ev_25), (40, ev_191), (42, ev_13), (43, ev_1286), (46, ev_447), (49, ev_13), (50, ev_1504), (53, ev_12), (55, ev_18)]
noncomputable def zi_380_2 : ZIs := [(56, ev_13), (57, ev_1504), (60, ev_191), (62, ev_18), (63, ev_20), (64, ev_1513), (67, ev_167), (68, ev_58), (70, ev_487), (71, ev_184), (72, ev_7), (73, ev_1495), (76, ev_458), (78, ev_458), (80, ev_221), (81, ev_483)]
noncomputable def zi_380_3 : ZIs := [(82, ev_490), (83, ev_1643), (86, ev_488), (87, ev_1434), (90, ev_13), (91, ev_1504), (94, ev_12), (96, ev_18), (97, ev_191), (99, ev_1416), (102, ev_325), (105, ev_458), (107, ev_222), (110, ev_223), (111, ev_455), (112, ev_515)]
noncomputable def zi_380_4 : ZIs := [(113, ev_338), (116, ev_818), (119, ev_343), (122, ev_593), (125, ev_184), (126, ev_1115), (129, ev_487), (130, ev_1328), (133, ev_488), (134, ev_984), (137, ev_487), (138, ev_1643), (141, ev_488), (142, ev_479)]
set_option maxRecDepth 100000 in
theorem xi_w380 : zall cX12_figures [zi_380_0, zi_380_1, zi_380_2, zi_380_3, zi_380_4] := zall_w _ _ (by decide +kernel)
noncomputable def xi_380 (pc : Nat) : XIs := cond (Nat.blt pc 56) (cond (Nat.blt pc 25) (zx zi_380_0) (zx zi_380_1)) (cond (Nat.blt pc 82) (zx zi_380_2) (cond (Nat.blt pc 113) (zx zi_380_3) (zx zi_380_4)))
theorem xi_ok380 (pc : Nat) : xi_ok cX12_figures (xi_380 pc) = true := xi_c (xi_c (zq1 xi_w380) (zq1 (zq2 xi_w380))) (xi_c (zq1 (zq2 (zq2 xi_w380))) (xi_c (zq1 (zq2 (zq2 (zq2 xi_w380)))) (zq1 (zq2 (zq2 (zq2 (zq2 xi_w380)))))))
noncomputable def zi_381_0 : ZIs := [(0, ev_13), (1, ev_1691), (4, ev_13), (5, ev_1692), (8, ev_10), (9, ev_1299), (10, ev_13), (11, ev_1693), (14, ev_13), (15, ev_1692), (18, ev_10), (19, ev_1299), (20, ev_13), (21, ev_1136), (24, ev_13), (25, ev_1692)]
noncomputable def zi_381_1 : ZIs := [(28, ev_223), (29, ev_186), (30, ev_13), (31, ev_1137), (34, ev_13), (35, ev_1692), (38, ev_223), (39, ev_186), (40, ev_13), (41, ev_1694), (44, ev_253)]
set_option maxRecDepth 100000 in
theorem xi_w381 : zall cX12_beginAlternative [zi_381_0, zi_381_1] := zall_w _ _ (by decide +kernel)
noncomputable def xi_381 (pc : Nat) : XIs := cond (Nat.blt pc 28) (zx zi_381_0) (zx zi_381_1)
theorem xi_ok381 (pc : Nat) : xi_ok cX12_beginAlternative (xi_381 pc) = true := xi_c (zq1 xi_w381) (zq1 (zq2 xi_w381))
noncomputable def zi_382_0 : ZIs := [(0, ev_13), (1, ev_1695), (4, ev_13), (5, ev_1692), (8, ev_7), (9, ev_1299), (10, ev_13), (11, ev_1696), (14, ev_13), (15, ev_1692), (18, ev_223), (19, ev_186), (20, ev_13), (21, ev_1697), (24, ev_13), (25, ev_1692)]
noncomputable def zi_382_1 : ZIs := [(28, ev_223), (29, ev_186), (30, ev_13), (31, ev_10), (32, ev_1698), (35, ev_13), (36, ev_10), (37, ev_1699), (40, ev_253)]
set_option maxRecDepth 100000 in
theorem xi_w382 : zall cX12_beginSequence [zi_382_0, zi_382_1] := zall_w _ _ (by decide +kernel)
noncomputable def xi_382 (pc : Nat) : XIs := cond (Nat.blt pc 28) (zx zi_382_0) (zx zi_382_1)
theorem xi_ok382 (pc : Nat) : xi_ok cX12_beginSequence (xi_382 pc) = true := xi_c (zq1 xi_w382) (zq1 (zq2 xi_w382))
noncomputable def zi_383_0 : ZIs := [(0, ev_10), (1, ev_25), (3, ev_191), (5, ev_384), (7, ev_291), (10, ev_13), (11, ev_1700), (14, ev_191), (16, ev_311), (17, ev_437), (18, ev_481), (19, ev_191), (21, ev_905), (22, ev_221), (23, ev_171), (24, ev_221)]
noncomputable def zi_383_1 : ZIs := [(25, ev_438), (26, ev_321), (29, ev_482), (30, ev_222), (33, ev_223), (34, ev_172), (35, ev_186), (36, ev_338), (39, ev_1013), (42, ev_253)]
set_option maxRecDepth 100000 in
theorem xi_w383 : zall cX12_follow [zi_383_0, zi_383_1] := zall_w _ _ (by decide +kernel)
noncomputable def xi_383 (pc : Nat) : XIs := cond (Nat.blt pc 25) (zx zi_383_0) (zx zi_383_1)
theorem xi_ok383 (pc : Nat) : xi_ok cX12_follow (xi_383 pc) = true := xi_c (zq1 xi_w383) (zq1 (zq2 xi_w383))
noncomputable def zi_384_0 : ZIs := [(0, ev_13), (1, ev_1701), (4, ev_1702), (7, ev_13), (8, ev_13), (9, ev_1697), (12, ev_13), (13, ev_1692), (16, ev_437), (17, ev_13), (18, ev_1703), (21, ev_1704), (24, ev_13), (25, ev_1696), (28, ev_13), (29, ev_1692)]
noncomputable def zi_384_1 : ZIs := [(32, ev_311), (33, ev_437), (34, ev_13), (35, ev_1695), (38, ev_13), (39, ev_1692), (42, ev_1290), (43, ev_380), (46, ev_13), (47, ev_1703), (50, ev_222), (53, ev_223), (54, ev_172), (55, ev_186), (56, ev_13), (57, ev_1697)]
noncomputable def zi_384_2 : ZIs := [(60, ev_13), (61, ev_1692), (64, ev_13), (65, ev_1705), (68, ev_13), (69, ev_1706), (72, ev_769), (75, ev_13), (76, ev_1697), (79, ev_13), (80, ev_1692), (83, ev_437), (84, ev_222), (87, ev_223), (88, ev_172), (89, ev_186)]
noncomputable def zi_384_3 : ZIs := [(90, ev_13), (91, ev_1695), (94, ev_13), (95, ev_1692), (98, ev_13), (99, ev_1695), (102, ev_13), (103, ev_1692), (106, ev_1290), (107, ev_1002), (110, ev_13), (111, ev_1706), (114, ev_220), (117, ev_7), (118, ev_222), (121, ev_10)]
noncomputable def zi_384_4 : ZIs := [(122, ev_1299), (123, ev_13), (124, ev_10), (125, ev_1698), (128, ev_13), (129, ev_10), (130, ev_1699), (133, ev_253)]
set_option maxRecDepth 100000 in
theorem xi_w384 : zall cX12_flush [zi_384_0, zi_384_1, zi_384_2, zi_384_3, zi_384_4] := zall_w _ _ (by decide +kernel)
noncomputable def xi_384 (pc : Nat) : XIs := cond (Nat.blt pc 60) (cond (Nat.blt pc 32) (zx zi_384_0) (zx zi_384_1)) (cond (Nat.blt pc 90) (zx zi_384_2) (cond (Nat.blt pc 122) (zx zi_384_3) (zx zi_384_4)))
theorem xi_ok384 (pc : Nat) : xi_ok cX12_flush (xi_384 pc) = true := xi_c (xi_c (zq1 xi_w384) (zq1 (zq2 xi_w384))) (xi_c (zq1 (zq2 (zq2 xi_w384))) (xi_c (zq1 (zq2 (zq2 (zq2 xi_w384)))) (zq1 (zq2 (zq2 (zq2 (zq2 xi_w384)))))))
noncomputable def zi_385_0 : ZIs := [(0, ev_13), (1, ev_1707), (4, ev_13), (5, ev_1691), (8, ev_13), (9, ev_1692), (12, ev_7), (13, ev_1299), (14, ev_13), (15, ev_1693), (18, ev_13), (19, ev_1692), (22, ev_13), (23, ev_1693), (26, ev_13), (27, ev_1692)]
noncomputable def zi_385_1 : ZIs := [(30, ev_1290), (31, ev_433), (34, ev_13), (35, ev_1695), (38, ev_13), (39, ev_1692), (42, ev_1290), (43, ev_220), (46, ev_7), (47, ev_222), (50, ev_10), (51, ev_1299), (52, ev_13), (53, ev_1136), (56, ev_13), (57, ev_1692)]
noncomputable def zi_385_2 : ZIs := [(60, ev_311), (61, ev_437), (62, ev_13), (63, ev_1696), (66, ev_13), (67, ev_1692), (70, ev_437), (71, ev_172), (72, ev_186), (73, ev_13), (74, ev_1137), (77, ev_13), (78, ev_1692), (81, ev_311), (82, ev_437), (83, ev_13)]
noncomputable def zi_385_3 : ZIs := [(84, ev_1697), (87, ev_13), (88, ev_1692), (91, ev_437), (92, ev_172), (93, ev_186), (94, ev_253)]
set_option maxRecDepth 100000 in
theorem xi_w385 : zall cX12_endSequence [zi_385_0, zi_385_1, zi_385_2, zi_385_3] := zall_w _ _ (by decide +kernel)
noncomputable def xi_385 (pc : Nat) : XIs := cond (Nat.blt pc 60) (cond (Nat.blt pc 30) (zx zi_385_0) (zx zi_385_1)) (cond (Nat.blt pc 84) (zx zi_385_2) (zx zi_385_3))
theorem xi_ok385 (pc : Nat) : xi_ok cX12_endSequence (xi_385 pc) = true := xi_c (xi_c (zq1 xi_w385) (zq1 (zq2 xi_w385))) (xi_c (zq1 (zq2 (zq2 xi_w385))) (zq1 (zq2 (zq2 (zq2 xi_w385)))))
noncomputable def zi_386_0 : ZIs := [(0, ev_13), (1, ev_10), (2, ev_1283), (5, ev_13), (6, ev_10), (7, ev_1343), (10, ev_13), (11, ev_1189), (14, ev_384), (16, ev_1522), (19, ev_13), (20, ev_30), (21, ev_384), (23, ev_1359), (26, ev_806), (28, ev_81)]
noncomputable def zi_386_1 : ZIs := [(29, ev_10), (30, ev_683), (31, ev_10), (32, ev_288), (33, ev_189), (34, ev_384), (36, ev_1113), (39, ev_13), (40, ev_1700), (43, ev_189), (44, ev_223), (45, ev_186), (46, ev_299), (49, ev_1070), (52, ev_13), (53, ev_10)]
noncomputable def zi_386_2 : ZIs := [(54, ev_1708), (57, ev_13), (58, ev_1709), (61, ev_10), (62, ev_288), (63, ev_189), (64, ev_13), (65, ev_1189), (68, ev_1499), (71, ev_13), (72, ev_1340), (75, ev_1710), (78, ev_13), (79, ev_838), (82, ev_189), (83, ev_18)]
noncomputable def zi_386_3 : ZIs := [(84, ev_289), (85, ev_190), (86, ev_1355), (89, ev_990), (92, ev_190), (93, ev_882), (95, ev_1631), (98, ev_13), (99, ev_1707), (102, ev_13), (103, ev_1711), (106, ev_184), (107, ev_190), (108, ev_882), (110, ev_538), (113, ev_872)]
noncomputable def zi_386_4 : ZIs := [(115, ev_205), (118, ev_190), (119, ev_417), (121, ev_16), (122, ev_293), (123, ev_13), (124, ev_10), (125, ev_221), (126, ev_184), (127, ev_169), (128, ev_221), (129, ev_184), (130, ev_169), (131, ev_1712), (134, ev_686), (137, ev_187)]
noncomputable def zi_386_5 : ZIs := [(140, ev_13), (141, ev_190), (142, ev_189), (143, ev_1713), (146, ev_299), (149, ev_1501), (152, ev_13), (153, ev_1340), (156, ev_406), (159, ev_13), (160, ev_1692), (163, ev_1714), (166, ev_13), (167, ev_30), (168, ev_13), (169, ev_1189)]
noncomputable def zi_386_6 : ZIs := [(172, ev_1359), (175, ev_13), (176, ev_1340), (179, ev_1370), (182, ev_806), (184, ev_81), (185, ev_13), (186, ev_1715), (189, ev_13), (190, ev_184), (191, ev_1716), (194, ev_13), (195, ev_13), (196, ev_1693), (199, ev_10), (200, ev_1290)]
noncomputable def zi_386_7 : ZIs := [(201, ev_1259), (204, ev_13), (205, ev_13), (206, ev_1136), (209, ev_10), (210, ev_437), (211, ev_1717), (214, ev_13), (215, ev_13), (216, ev_1137), (219, ev_10), (220, ev_437), (221, ev_1718), (224, ev_10), (225, ev_288), (226, ev_189)]
noncomputable def zi_386_8 : ZIs := [(227, ev_384), (229, ev_335), (232, ev_13), (233, ev_1719), (236, ev_189), (237, ev_13), (238, ev_1711), (241, ev_189), (242, ev_18), (243, ev_293), (244, ev_13), (245, ev_1720), (248, ev_189), (249, ev_13), (250, ev_1700), (253, ev_189)]
noncomputable def zi_386_9 : ZIs := [(254, ev_437), (255, ev_186), (256, ev_299), (259, ev_859), (262, ev_10), (263, ev_81)]
set_option maxRecDepth 100000 in
theorem xi_w386 : zall cX12_pattern [zi_386_0, zi_386_1, zi_386_2, zi_386_3, zi_386_4, zi_386_5, zi_386_6, zi_386_7, zi_386_8, zi_386_9] := zall_w _ _ (by decide +kernel)
noncomputable def xi_386 (pc : Nat) : XIs := cond (Nat.blt pc 140) (cond (Nat.blt pc 54) (cond (Nat.blt pc 29) (zx zi_386_0) (zx zi_386_1)) (cond (Nat.blt pc 84) (zx zi_386_2) (cond (Nat.blt pc 115) (zx zi_386_3) (zx zi_386_4)))) (cond (Nat.blt pc 201) (cond (Nat.blt pc 172) (zx zi_386_5) (zx zi_386_6)) (cond (Nat.blt pc 227) (zx zi_386_7) (cond (Nat.blt pc 254) (zx zi_386_8) (zx zi_386_9))))
theorem xi_ok386 (pc : Nat) : xi_ok cX12_pattern (xi_386 pc) = true := xi_c (xi_c (xi_c (zq1 xi_w386) (zq1 (zq2 xi_w386))) (xi_c (zq1 (zq2 (zq2 xi_w386))) (xi_c (zq1 (zq2 (zq2 (zq2 xi_w386)))) (zq1 (zq2 (zq2 (zq2 (zq2 xi_w386)))))))) (xi_c (xi_c (zq1 (zq2 (zq2 (zq2 (zq2 (zq2 xi_w386)))))) (zq1 (zq2 (zq2 (zq2 (zq2 (zq2 (zq2 xi_w386)))))))) (xi_c (zq1 (zq2 (zq2 (zq2 (zq2 (zq2 (zq2 (zq2 xi_w386)))))))) (xi_c (zq1 (zq2 (zq2 (zq2 (zq2 (zq2 (zq2 (zq2 (zq2 xi_w386))))))))) (zq1 (zq2 (zq2 (zq2 (zq2 (zq2 (zq2 (zq2 (zq2 (zq2 xi_w386)))))))))))))
noncomputable def zi_387_0 : ZIs := [(0, ev_13), (1, ev_7), (2, ev_1698), (5, ev_13), (6, ev_7), (7, ev_1699), (10, ev_13), (11, ev_184), (12, ev_1721), (15, ev_13), (16, ev_487), (17, ev_1722), (20, ev_13), (21, ev_240), (23, ev_1723), (26, ev_253)]
set_option maxRecDepth 100000 in
theorem xi_w387 : zall cX12_setAtom [zi_387_0] := zall_w _ _ (by decide +kernel)
noncomputable def xi_387 (pc : Nat) : XIs := zx zi_387_0
theorem xi_ok387 (pc : Nat) : xi_ok cX12_setAtom (xi_387 pc) = true := zq1 xi_w387
noncomputable def zi_388_0 : ZIs := [(0, ev_184)]
noncomputable def xi_388_1 : XIs := [(1, .lookupswitch 241 #[(40, 70), (41, 107), (42, 179), (43, 179), (63, 179), (124, 59)], 59)]
set_option maxRecDepth 100000 in
theorem xi_ok388_1 : xi_ok cX12_sign xi_388_1 = true := by decide +kernel
noncomputable def zi_388_2 : ZIs := [(60, ev_13), (61, ev_1715), (64, ev_13), (65, ev_1694), (68, ev_1724), (71, ev_13), (72, ev_1692), (75, ev_408), (77, ev_808), (80, ev_13), (81, ev_31), (82, ev_189), (83, ev_1359), (86, ev_253), (87, ev_13), (88, ev_1707)]
noncomputable def zi_388_3 : ZIs := [(91, ev_13), (92, ev_1), (93, ev_1692), (96, ev_7), (97, ev_22), (98, ev_1708), (101, ev_13), (102, ev_1709), (105, ev_1725), (108, ev_13), (109, ev_1692), (112, ev_376), (115, ev_13), (116, ev_30), (117, ev_189), (118, ev_1359)]
noncomputable def zi_388_4 : ZIs := [(121, ev_253), (122, ev_13), (123, ev_1715), (126, ev_13), (127, ev_1693), (130, ev_13), (131, ev_1692), (134, ev_1290), (135, ev_289), (136, ev_13), (137, ev_1136), (140, ev_13), (141, ev_1692), (144, ev_437), (145, ev_440), (147, ev_13)]
noncomputable def zi_388_5 : ZIs := [(148, ev_1137), (151, ev_13), (152, ev_1692), (155, ev_437), (156, ev_58), (158, ev_13), (159, ev_1), (160, ev_1692), (163, ev_7), (164, ev_16), (165, ev_1708), (168, ev_13), (169, ev_190), (170, ev_240), (172, ev_458), (174, ev_1712)]
noncomputable def zi_388_6 : ZIs := [(177, ev_1726), (180, ev_13), (181, ev_1727), (184, ev_376), (187, ev_13), (188, ev_30), (189, ev_189), (190, ev_1359), (193, ev_253), (194, ev_184), (195, ev_19), (197, ev_740), (200, ev_13), (201, ev_13), (202, ev_1705), (205, ev_13)]
noncomputable def zi_388_7 : ZIs := [(206, ev_1703), (209, ev_1704), (212, ev_13), (213, ev_13), (214, ev_1706), (217, ev_990), (220, ev_184), (221, ev_393), (223, ev_679), (226, ev_7), (227, ev_222), (230, ev_10), (231, ev_1721), (234, ev_13), (235, ev_10), (236, ev_1699)]
noncomputable def zi_388_8 : ZIs := [(239, ev_187), (242, ev_13), (243, ev_7), (244, ev_189), (245, ev_1359), (248, ev_253)]
set_option maxRecDepth 100000 in
theorem xi_w388 : zall cX12_sign [zi_388_0, zi_388_2, zi_388_3, zi_388_4, zi_388_5, zi_388_6, zi_388_7, zi_388_8] := zall_w _ _ (by decide +kernel)
noncomputable def xi_388 (pc : Nat) : XIs := cond (Nat.blt pc 121) (cond (Nat.blt pc 60) (cond (Nat.blt pc 1) (zx zi_388_0) (xi_388_1)) (cond (Nat.blt pc 91) (zx zi_388_2) (zx zi_388_3))) (cond (Nat.blt pc 177) (cond (Nat.blt pc 148) (zx zi_388_4) (zx zi_388_5)) (cond (Nat.blt pc 206) (zx zi_388_6) (cond (Nat.blt pc 239) (zx zi_388_7) (zx zi_388_8))))
theorem xi_ok388 (pc : Nat) : xi_ok cX12_sign (xi_388 pc) = true := xi_c (xi_c (xi_c (zq1 xi_w388) (xi_ok388_1)) (xi_c (zq1 (zq2 xi_w388)) (zq1 (zq2 (zq2 xi_w388))))) (xi_c (xi_c (zq1 (zq2 (zq2 (zq2 xi_w388)))) (zq1 (zq2 (zq2 (zq2 (zq2 xi_w388)))))) (xi_c (zq1 (zq2 (zq2 (zq2 (zq2 (zq2 xi_w388)))))) (xi_c (zq1 (zq2 (zq2 (zq2 (zq2 (zq2 (zq2 xi_w388))))))) (zq1 (zq2 (zq2 (zq2 (zq2 (zq2 (zq2 (zq2 xi_w388)))))))))))
noncomputable def zi_389_0 : ZIs := [(0, ev_13), (1, ev_13), (2, ev_184), (3, ev_1333), (6, ev_769), (9, ev_13), (10, ev_189), (11, ev_1333), (14, ev_220), (17, ev_7), (18, ev_222), (21, ev_10), (22, ev_1174), (25, ev_298), (28, ev_10), (29, ev_81)]
noncomputable def zi_389_1 : ZIs := [(30, ev_10), (31, ev_289), (32, ev_190), (33, ev_1044), (36, ev_1113), (39, ev_13), (40, ev_1728), (43, ev_190), (44, ev_245), (45, ev_293), (46, ev_294), (49, ev_1507), (52, ev_10), (53, ev_289), (54, ev_7), (55, ev_11)]
noncomputable def zi_389_2 : ZIs := [(57, ev_13), (58, ev_959), (61, ev_10), (62, ev_386), (64, ev_184), (65, ev_350), (66, ev_293), (67, ev_13), (68, ev_1728), (71, ev_386), (73, ev_184), (74, ev_350), (75, ev_10), (76, ev_293), (77, ev_190), (78, ev_12)]
noncomputable def zi_389_3 : ZIs := [(80, ev_1729), (83, ev_13), (84, ev_959), (87, ev_190), (88, ev_18), (89, ev_25), (91, ev_294), (94, ev_191), (96, ev_386), (98, ev_580), (99, ev_28), (101, ev_191), (103, ev_386), (105, ev_506), (106, ev_7), (107, ev_16)]
noncomputable def zi_389_4 : ZIs := [(108, ev_269), (110, ev_270), (112, ev_1326), (115, ev_13), (116, ev_1730), (119, ev_711), (122, ev_13), (123, ev_1731), (126, ev_270), (128, ev_905), (129, ev_221), (130, ev_171), (131, ev_221), (132, ev_438), (133, ev_321), (136, ev_7)]
noncomputable def zi_389_5 : ZIs := [(137, ev_222), (140, ev_10), (141, ev_308), (143, ev_265), (145, ev_189), (146, ev_536), (149, ev_309), (151, ev_929), (154, ev_13), (155, ev_1728), (158, ev_191), (160, ev_18), (161, ev_81), (162, ev_270), (164, ev_1326), (167, ev_13)]
noncomputable def zi_389_6 : ZIs := [(168, ev_1732), (171, ev_631), (174, ev_13), (175, ev_1720), (178, ev_270), (180, ev_437), (181, ev_996), (183, ev_13), (184, ev_1289), (187, ev_449), (189, ev_451), (191, ev_13), (192, ev_1289), (195, ev_527), (198, ev_22), (199, ev_852)]
noncomputable def zi_389_7 : ZIs := [(202, ev_13), (203, ev_1288), (206, ev_451), (208, ev_1290), (209, ev_1394), (212, ev_13), (213, ev_1300), (216, ev_451), (218, ev_18), (219, ev_265), (221, ev_534), (224, ev_13), (225, ev_451), (227, ev_997), (229, ev_13), (230, ev_1728)]
noncomputable def zi_389_8 : ZIs := [(233, ev_191), (235, ev_18), (236, ev_7), (237, ev_22), (238, ev_12), (240, ev_1733), (243, ev_11), (245, ev_999), (248, ev_1734), (251, ev_1735), (254, ev_245), (255, ev_81)]
set_option maxRecDepth 100000 in
theorem xi_w389 : zall cX12_fits [zi_389_0, zi_389_1, zi_389_2, zi_389_3, zi_389_4, zi_389_5, zi_389_6, zi_389_7, zi_389_8] := zall_w _ _ (by decide +kernel)
noncomputable def xi_389 (pc : Nat) : XIs := cond (Nat.blt pc 108) (cond (Nat.blt pc 57) (cond (Nat.blt pc 30) (zx zi_389_0) (zx zi_389_1)) (cond (Nat.blt pc 80) (zx zi_389_2) (zx zi_389_3))) (cond (Nat.blt pc 168) (cond (Nat.blt pc 137) (zx zi_389_4) (zx zi_389_5)) (cond (Nat.blt pc 202) (zx zi_389_6) (cond (Nat.blt pc 233) (zx zi_389_7) (zx zi_389_8))))
theorem xi_ok389 (pc : Nat) : xi_ok cX12_fits (xi_389 pc) = true := xi_c (xi_c (xi_c (zq1 xi_w389) (zq1 (zq2 xi_w389))) (xi_c (zq1 (zq2 (zq2 xi_w389))) (zq1 (zq2 (zq2 (zq2 xi_w389)))))) (xi_c (xi_c (zq1 (zq2 (zq2 (zq2 (zq2 xi_w389))))) (zq1 (zq2 (zq2 (zq2 (zq2 (zq2 xi_w389))))))) (xi_c (zq1 (zq2 (zq2 (zq2 (zq2 (zq2 (zq2 xi_w389))))))) (xi_c (zq1 (zq2 (zq2 (zq2 (zq2 (zq2 (zq2 (zq2 xi_w389)))))))) (zq1 (zq2 (zq2 (zq2 (zq2 (zq2 (zq2 (zq2 (zq2 xi_w389))))))))))))
noncomputable def zi_390_0 : ZIs := [(0, ev_191), (2, ev_28), (4, ev_10), (5, ev_269), (7, ev_270), (9, ev_13), (10, ev_1736), (13, ev_1737), (16, ev_487), (17, ev_270), (19, ev_905), (20, ev_221), (21, ev_171), (22, ev_221), (23, ev_438), (24, ev_1009)]
noncomputable def zi_390_1 : ZIs := [(27, ev_13), (28, ev_1719), (31, ev_270), (33, ev_18), (34, ev_872), (36, ev_696), (39, ev_13), (40, ev_1719), (43, ev_270), (45, ev_18), (46, ev_13), (47, ev_429), (50, ev_184), (51, ev_18), (52, ev_816), (55, ev_7)]
noncomputable def zi_390_2 : ZIs := [(56, ev_222), (59, ev_10), (60, ev_308), (62, ev_386), (64, ev_13), (65, ev_1036), (68, ev_184), (69, ev_18), (70, ev_350), (71, ev_270), (73, ev_22), (74, ev_7), (75, ev_22), (76, ev_322), (78, ev_309), (80, ev_401)]
noncomputable def zi_390_3 : ZIs := [(83, ev_13), (84, ev_1728), (87, ev_324), (89, ev_18), (90, ev_1738), (93, ev_13), (94, ev_1728), (97, ev_324), (99, ev_12), (101, ev_293), (102, ev_13), (103, ev_959), (106, ev_265), (108, ev_324), (110, ev_293), (111, ev_315)]
noncomputable def zi_390_4 : ZIs := [(114, ev_953), (117, ev_1481), (120, ev_265), (122, ev_81)]
set_option maxRecDepth 100000 in
theorem xi_w390 : zall cX12_goOn [zi_390_0, zi_390_1, zi_390_2, zi_390_3, zi_390_4] := zall_w _ _ (by decide +kernel)
noncomputable def xi_390 (pc : Nat) : XIs := cond (Nat.blt pc 56) (cond (Nat.blt pc 27) (zx zi_390_0) (zx zi_390_1)) (cond (Nat.blt pc 83) (zx zi_390_2) (cond (Nat.blt pc 114) (zx zi_390_3) (zx zi_390_4)))
theorem xi_ok390 (pc : Nat) : xi_ok cX12_goOn (xi_390 pc) = true := xi_c (xi_c (zq1 xi_w390) (zq1 (zq2 xi_w390))) (xi_c (zq1 (zq2 (zq2 xi_w390))) (xi_c (zq1 (zq2 (zq2 (zq2 xi_w390)))) (zq1 (zq2 (zq2 (zq2 (zq2 xi_w390)))))))
noncomputable def zi_391_0 : ZIs := [(0, ev_13), (1, ev_1739), (4, ev_7), (5, ev_7), (6, ev_293), (7, ev_13), (8, ev_1739), (11, ev_30), (12, ev_30), (13, ev_293), (14, ev_253)]
set_option maxRecDepth 100000 in
theorem xi_w391 : zall cX12_program0 [zi_391_0] := zall_w _ _ (by decide +kernel)
noncomputable def xi_391 (pc : Nat) : XIs := zx zi_391_0
theorem xi_ok391 (pc : Nat) : xi_ok cX12_program0 (xi_391 pc) = true := zq1 xi_w391
noncomputable def zi_392_0 : ZIs := [(0, ev_13), (1, ev_1345), (4, ev_13), (5, ev_1189), (8, ev_927), (11, ev_13), (12, ev_838), (15, ev_13), (16, ev_1345), (19, ev_18), (20, ev_168), (22, ev_536), (25, ev_13), (26, ev_1), (27, ev_1345), (30, ev_7)]
noncomputable def zi_392_1 : ZIs := [(31, ev_22), (32, ev_1346), (35, ev_287), (38, ev_13), (39, ev_13), (40, ev_1345), (43, ev_1347), (46, ev_13), (47, ev_1345), (50, ev_13), (51, ev_1189), (54, ev_405), (57, ev_13), (58, ev_10), (59, ev_1348), (62, ev_253)]
noncomputable def zi_392_2 : ZIs := [(63, ev_13), (64, ev_838), (67, ev_13), (68, ev_1345), (71, ev_18), (72, ev_683), (73, ev_13), (74, ev_184), (75, ev_1349), (78, ev_184), (79, ev_1195), (82, ev_769), (85, ev_13), (86, ev_30), (87, ev_1348), (90, ev_13)]
noncomputable def zi_392_3 : ZIs := [(91, ev_15), (93, ev_1352), (96, ev_253), (97, ev_13), (98, ev_184), (99, ev_1355), (102, ev_220), (105, ev_7), (106, ev_222), (109, ev_31), (110, ev_1348), (113, ev_13), (114, ev_1), (115, ev_1345), (118, ev_7), (119, ev_22)]
noncomputable def zi_392_4 : ZIs := [(120, ev_1346), (123, ev_184), (124, ev_374), (126, ev_1408), (129, ev_184), (130, ev_384), (132, ev_1409), (135, ev_184), (136, ev_386), (138, ev_591), (141, ev_184), (142, ev_393), (144, ev_701), (147, ev_184), (148, ev_395), (150, ev_1740)]
noncomputable def zi_392_5 : ZIs := [(153, ev_184), (154, ev_400), (156, ev_740), (159, ev_184), (160, ev_407), (162, ev_901), (165, ev_184), (166, ev_414), (168, ev_816), (171, ev_7), (172, ev_222), (175, ev_10), (176, ev_288), (177, ev_13), (178, ev_1356), (181, ev_31)]
noncomputable def zi_392_6 : ZIs := [(182, ev_536), (185, ev_189), (186, ev_394), (189, ev_13), (190, ev_7), (191, ev_13), (192, ev_1358), (195, ev_1359), (198, ev_253)]
set_option maxRecDepth 100000 in
theorem xi_w392 : zall cX12_nextOfProgram [zi_392_0, zi_392_1, zi_392_2, zi_392_3, zi_392_4, zi_392_5, zi_392_6] := zall_w _ _ (by decide +kernel)
noncomputable def xi_392 (pc : Nat) : XIs := cond (Nat.blt pc 91) (cond (Nat.blt pc 31) (zx zi_392_0) (cond (Nat.blt pc 63) (zx zi_392_1) (zx zi_392_2))) (cond (Nat.blt pc 153) (cond (Nat.blt pc 120) (zx zi_392_3) (zx zi_392_4)) (cond (Nat.blt pc 182) (zx zi_392_5) (zx zi_392_6)))
theorem xi_ok392 (pc : Nat) : xi_ok cX12_nextOfProgram (xi_392 pc) = true := xi_c (xi_c (zq1 xi_w392) (xi_c (zq1 (zq2 xi_w392)) (zq1 (zq2 (zq2 xi_w392))))) (xi_c (xi_c (zq1 (zq2 (zq2 (zq2 xi_w392)))) (zq1 (zq2 (zq2 (zq2 (zq2 xi_w392)))))) (xi_c (zq1 (zq2 (zq2 (zq2 (zq2 (zq2 xi_w392)))))) (zq1 (zq2 (zq2 (zq2 (zq2 (zq2 (zq2 xi_w392)))))))))
noncomputable def zi_393_0 : ZIs := [(0, ev_13), (1, ev_1741), (4, ev_13), (5, ev_1742), (8, ev_184), (9, ev_293), (10, ev_13), (11, ev_1743), (14, ev_13), (15, ev_1742), (18, ev_189), (19, ev_293), (20, ev_13), (21, ev_1), (22, ev_1742), (25, ev_7)]
noncomputable def zi_393_1 : ZIs := [(26, ev_22), (27, ev_1744), (30, ev_253)]
set_option maxRecDepth 100000 in
theorem xi_w393 : zall cX12_add [zi_393_0, zi_393_1] := zall_w _ _ (by decide +kernel)
noncomputable def xi_393 (pc : Nat) : XIs := cond (Nat.blt pc 26) (zx zi_393_0) (zx zi_393_1)
theorem xi_ok393 (pc : Nat) : xi_ok cX12_add (xi_393 pc) = true := xi_c (zq1 xi_w393) (zq1 (zq2 xi_w393))
noncomputable def zi_394_0 : ZIs := [(0, ev_480)]
noncomputable def xi_394_1 : XIs := [(1, .tableswitch 120 100 120 #[105, 120, 120, 117, 120, 107, 120, 120, 103, 114, 101, 120, 120, 120, 109, 111, 120, 120, 120, 120, 99], 99)]
set_option maxRecDepth 100000 in
theorem xi_ok394_1 : xi_ok cX12_nameOf xi_394_1 = true := by decide +kernel
noncomputable def zi_394_2 : ZIs := [(100, ev_10), (101, ev_81), (102, ev_7), (103, ev_81), (104, ev_30), (105, ev_81), (106, ev_31), (107, ev_81), (108, ev_32), (109, ev_81), (110, ev_33), (111, ev_81), (112, ev_15), (114, ev_81), (115, ev_466), (117, ev_81)]
noncomputable def zi_394_3 : ZIs := [(118, ev_467), (120, ev_81), (121, ev_245), (122, ev_81)]
set_option maxRecDepth 100000 in
theorem xi_w394 : zall cX12_nameOf [zi_394_0, zi_394_2, zi_394_3] := zall_w _ _ (by decide +kernel)
noncomputable def xi_394 (pc : Nat) : XIs := cond (Nat.blt pc 100) (cond (Nat.blt pc 1) (zx zi_394_0) (xi_394_1)) (cond (Nat.blt pc 118) (zx zi_394_2) (zx zi_394_3))
theorem xi_ok394 (pc : Nat) : xi_ok cX12_nameOf (xi_394 pc) = true := xi_c (xi_c (zq1 xi_w394) (xi_ok394_1)) (xi_c (zq1 (zq2 xi_w394)) (zq1 (zq2 (zq2 xi_w394))))
noncomputable def zi_395_0 : ZIs := [(0, ev_13), (1, ev_1745), (4, ev_321), (7, ev_10), (8, ev_1175), (11, ev_13), (12, ev_1746), (15, ev_13), (16, ev_1745), (19, ev_7), (20, ev_16), (21, ev_18), (22, ev_81)]
set_option maxRecDepth 100000 in
theorem xi_w395 : zall cX12_top [zi_395_0] := zall_w _ _ (by decide +kernel)
noncomputable def xi_395 (pc : Nat) : XIs := zx zi_395_0
theorem xi_ok395 (pc : Nat) : xi_ok cX12_top (xi_395 pc) = true := zq1 xi_w395
noncomputable def zi_396_0 : ZIs := [(0, ev_13), (1, ev_1746), (4, ev_13), (5, ev_1745), (8, ev_184), (9, ev_293), (10, ev_13), (11, ev_1), (12, ev_1745), (15, ev_7), (16, ev_22), (17, ev_1747), (20, ev_13), (21, ev_1), (22, ev_1748), (25, ev_184)]
noncomputable def zi_396_1 : ZIs := [(26, ev_30), (27, ev_901), (30, ev_184), (31, ev_407), (33, ev_816), (36, ev_7), (37, ev_222), (40, ev_10), (41, ev_22), (42, ev_1749), (45, ev_253)]
set_option maxRecDepth 100000 in
theorem xi_w396 : zall cX12_hold [zi_396_0, zi_396_1] := zall_w _ _ (by decide +kernel)
noncomputable def xi_396 (pc : Nat) : XIs := cond (Nat.blt pc 26) (zx zi_396_0) (zx zi_396_1)
theorem xi_ok396 (pc : Nat) : xi_ok cX12_hold (xi_396 pc) = true := xi_c (zq1 xi_w396) (zq1 (zq2 xi_w396))
noncomputable def zi_397_0 : ZIs := [(0, ev_13), (1, ev_1), (2, ev_1745), (5, ev_7), (6, ev_16), (7, ev_1747), (10, ev_13), (11, ev_1), (12, ev_1748), (15, ev_13), (16, ev_1746), (19, ev_13), (20, ev_1745), (23, ev_18), (24, ev_30), (25, ev_898)]
noncomputable def zi_397_1 : ZIs := [(28, ev_13), (29, ev_1746), (32, ev_13), (33, ev_1745), (36, ev_18), (37, ev_407), (39, ev_816), (42, ev_7), (43, ev_222), (46, ev_10), (47, ev_16), (48, ev_1749), (51, ev_253)]
set_option maxRecDepth 100000 in
theorem xi_w397 : zall cX12_drop [zi_397_0, zi_397_1] := zall_w _ _ (by decide +kernel)
noncomputable def xi_397 (pc : Nat) : XIs := cond (Nat.blt pc 28) (zx zi_397_0) (zx zi_397_1)
theorem xi_ok397 (pc : Nat) : xi_ok cX12_drop (xi_397 pc) = true := xi_c (zq1 xi_w397) (zq1 (zq2 xi_w397))
noncomputable def zi_398_0 : ZIs := [(0, ev_480), (1, ev_400), (3, ev_816), (6, ev_31), (7, ev_475), (10, ev_480), (11, ev_393), (13, ev_901), (16, ev_480), (17, ev_395), (19, ev_816), (22, ev_30), (23, ev_1462), (26, ev_480), (27, ev_384), (29, ev_901)]
noncomputable def zi_398_1 : ZIs := [(32, ev_480), (33, ev_386), (35, ev_816), (38, ev_7), (39, ev_222), (42, ev_10), (43, ev_81)]
set_option maxRecDepth 100000 in
theorem xi_w398 : zall cX12_strength [zi_398_0, zi_398_1] := zall_w _ _ (by decide +kernel)
noncomputable def xi_398 (pc : Nat) : XIs := cond (Nat.blt pc 32) (zx zi_398_0) (zx zi_398_1)
theorem xi_ok398 (pc : Nat) : xi_ok cX12_strength (xi_398 pc) = true := xi_c (zq1 xi_w398) (zq1 (zq2 xi_w398))
noncomputable def zi_399_0 : ZIs := [(0, ev_13), (1, ev_1745), (4, ev_1750), (7, ev_13), (8, ev_1751), (11, ev_1752), (14, ev_184), (15, ev_1753), (18, ev_13), (19, ev_13), (20, ev_1751), (23, ev_10), (24, ev_1754), (27, ev_13), (28, ev_1755), (31, ev_608)]
noncomputable def zi_399_1 : ZIs := [(34, ev_253)]
set_option maxRecDepth 100000 in
theorem xi_w399 : zall cX12_settle [zi_399_0, zi_399_1] := zall_w _ _ (by decide +kernel)
noncomputable def xi_399 (pc : Nat) : XIs := cond (Nat.blt pc 34) (zx zi_399_0) (zx zi_399_1)
theorem xi_ok399 (pc : Nat) : xi_ok cX12_settle (xi_399 pc) = true := xi_c (zq1 xi_w399) (zq1 (zq2 xi_w399))
noncomputable def zi_400_0 : ZIs := [(0, ev_13), (1, ev_1751), (4, ev_30), (5, ev_536), (8, ev_13), (9, ev_30), (10, ev_10), (11, ev_1754), (14, ev_13), (15, ev_1755), (18, ev_1474), (21, ev_253)]
set_option maxRecDepth 100000 in
theorem xi_w400 : zall cX12_turn [zi_400_0] := zall_w _ _ (by decide +kernel)
noncomputable def xi_400 (pc : Nat) : XIs := zx zi_400_0
theorem xi_ok400 (pc : Nat) : xi_ok cX12_turn (xi_400 pc) = true := zq1 xi_w400
noncomputable def zi_401_0 : ZIs := [(0, ev_13), (1, ev_1356), (4, ev_30), (5, ev_754), (8, ev_13), (9, ev_10), (10, ev_13), (11, ev_1353), (14, ev_989), (15, ev_1754), (18, ev_13), (19, ev_1756), (22, ev_7), (23, ev_81), (24, ev_13), (25, ev_1356)]
noncomputable def zi_401_1 : ZIs := [(28, ev_7), (29, ev_415), (32, ev_13), (33, ev_1378), (36, ev_1757), (39, ev_683), (40, ev_184), (41, ev_1566), (44, ev_13), (45, ev_33), (46, ev_13), (47, ev_1358), (50, ev_1359), (53, ev_13), (54, ev_7), (55, ev_184)]
noncomputable def zi_401_2 : ZIs := [(56, ev_1754), (59, ev_13), (60, ev_1756), (63, ev_7), (64, ev_81), (65, ev_13), (66, ev_1356), (69, ev_31), (70, ev_1387), (73, ev_13), (74, ev_1378), (77, ev_395), (79, ev_1479), (82, ev_13), (83, ev_1378), (86, ev_407)]
noncomputable def zi_401_3 : ZIs := [(88, ev_740), (91, ev_13), (92, ev_30), (93, ev_13), (94, ev_1358), (97, ev_1359), (100, ev_1758), (103, ev_13), (104, ev_1748), (107, ev_408), (109, ev_1759), (112, ev_13), (113, ev_31), (114, ev_13), (115, ev_1358), (118, ev_1359)]
noncomputable def zi_401_4 : ZIs := [(121, ev_711), (124, ev_13), (125, ev_13), (126, ev_1378), (129, ev_395), (131, ev_816), (134, ev_30), (135, ev_636), (138, ev_407), (140, ev_1760), (143, ev_10), (144, ev_81)]
set_option maxRecDepth 100000 in
theorem xi_w401 : zall cX12_factor [zi_401_0, zi_401_1, zi_401_2, zi_401_3, zi_401_4] := zall_w _ _ (by decide +kernel)
noncomputable def xi_401 (pc : Nat) : XIs := cond (Nat.blt pc 56) (cond (Nat.blt pc 28) (zx zi_401_0) (zx zi_401_1)) (cond (Nat.blt pc 88) (zx zi_401_2) (cond (Nat.blt pc 121) (zx zi_401_3) (zx zi_401_4)))
theorem xi_ok401 (pc : Nat) : xi_ok cX12_factor (xi_401 pc) = true := xi_c (xi_c (zq1 xi_w401) (zq1 (zq2 xi_w401))) (xi_c (zq1 (zq2 (zq2 xi_w401))) (xi_c (zq1 (zq2 (zq2 (zq2 xi_w401)))) (zq1 (zq2 (zq2 (zq2 (zq2 xi_w401)))))))
noncomputable def zi_402_0 : ZIs := [(0, ev_13), (1, ev_1356), (4, ev_678), (7, ev_13), (8, ev_1356), (11, ev_31), (12, ev_1761), (15, ev_13), (16, ev_1378), (19, ev_374), (21, ev_1762), (24, ev_13), (25, ev_7), (26, ev_1763), (29, ev_13), (30, ev_1745)]
noncomputable def zi_402_1 : ZIs := [(33, ev_1764), (36, ev_184), (37, ev_13), (38, ev_1356), (41, ev_31), (42, ev_816), (45, ev_7), (46, ev_222), (49, ev_10), (50, ev_1357), (53, ev_13), (54, ev_30), (55, ev_13), (56, ev_1358), (59, ev_1359), (62, ev_30)]
noncomputable def zi_402_2 : ZIs := [(63, ev_81), (64, ev_13), (65, ev_1356), (68, ev_31), (69, ev_925), (72, ev_13), (73, ev_1378), (76, ev_1752), (79, ev_222), (82, ev_10), (83, ev_288), (84, ev_189), (85, ev_7), (86, ev_1765), (89, ev_13), (90, ev_189)]
noncomputable def zi_402_3 : ZIs := [(91, ev_1763), (94, ev_13), (95, ev_13), (96, ev_1378), (99, ev_1760), (102, ev_10), (103, ev_81), (104, ev_189), (105, ev_7), (106, ev_1766), (109, ev_13), (110, ev_30), (111, ev_1763), (114, ev_13), (115, ev_1751), (118, ev_1752)]
noncomputable def zi_402_4 : ZIs := [(121, ev_7), (122, ev_688), (125, ev_13), (126, ev_30), (127, ev_13), (128, ev_1358), (131, ev_1359), (134, ev_13), (135, ev_13), (136, ev_1378), (139, ev_1760), (142, ev_10), (143, ev_81), (144, ev_13), (145, ev_1356), (148, ev_31)]
noncomputable def zi_402_5 : ZIs := [(149, ev_1767), (152, ev_13), (153, ev_1378), (156, ev_414), (158, ev_1766), (161, ev_13), (162, ev_7), (163, ev_1763), (166, ev_13), (167, ev_1751), (170, ev_407), (172, ev_1030), (175, ev_13), (176, ev_30), (177, ev_13), (178, ev_1358)]
noncomputable def zi_402_6 : ZIs := [(181, ev_1359), (184, ev_7), (185, ev_81), (186, ev_13), (187, ev_1755), (190, ev_13), (191, ev_1756), (194, ev_7), (195, ev_81), (196, ev_13), (197, ev_30), (198, ev_13), (199, ev_1358), (202, ev_1359), (205, ev_7), (206, ev_81)]
set_option maxRecDepth 100000 in
theorem xi_w402 : zall cX12_behindFactor [zi_402_0, zi_402_1, zi_402_2, zi_402_3, zi_402_4, zi_402_5, zi_402_6] := zall_w _ _ (by decide +kernel)
noncomputable def xi_402 (pc : Nat) : XIs := cond (Nat.blt pc 91) (cond (Nat.blt pc 33) (zx zi_402_0) (cond (Nat.blt pc 63) (zx zi_402_1) (zx zi_402_2))) (cond (Nat.blt pc 149) (cond (Nat.blt pc 121) (zx zi_402_3) (zx zi_402_4)) (cond (Nat.blt pc 181) (zx zi_402_5) (zx zi_402_6)))
theorem xi_ok402 (pc : Nat) : xi_ok cX12_behindFactor (xi_402 pc) = true := xi_c (xi_c (zq1 xi_w402) (xi_c (zq1 (zq2 xi_w402)) (zq1 (zq2 (zq2 xi_w402))))) (xi_c (xi_c (zq1 (zq2 (zq2 (zq2 xi_w402)))) (zq1 (zq2 (zq2 (zq2 (zq2 xi_w402)))))) (xi_c (zq1 (zq2 (zq2 (zq2 (zq2 (zq2 xi_w402)))))) (zq1 (zq2 (zq2 (zq2 (zq2 (zq2 (zq2 xi_w402)))))))))
noncomputable def zi_403_0 : ZIs := [(0, ev_13), (1, ev_10), (2, ev_1747), (5, ev_13), (6, ev_10), (7, ev_1749), (10, ev_7), (11, ev_288), (12, ev_7), (13, ev_289), (14, ev_190), (15, ev_332), (18, ev_13), (19, ev_1340), (22, ev_1768), (25, ev_13)]
noncomputable def zi_403_1 : ZIs := [(26, ev_1769), (29, ev_13), (30, ev_1340), (33, ev_1770), (36, ev_189), (37, ev_486), (40, ev_13), (41, ev_1771), (44, ev_321), (47, ev_7), (48, ev_222), (51, ev_10), (52, ev_288), (53, ev_717), (56, ev_13), (57, ev_1340)]
noncomputable def zi_403_2 : ZIs := [(60, ev_1772), (63, ev_13), (64, ev_184), (65, ev_1773), (68, ev_11), (70, ev_12), (72, ev_321), (75, ev_7), (76, ev_222), (79, ev_10), (80, ev_288), (81, ev_12), (83, ev_30), (84, ev_654), (87, ev_7), (88, ev_222)]
noncomputable def zi_403_3 : ZIs := [(91, ev_10), (92, ev_289), (93, ev_561), (96, ev_253)]
set_option maxRecDepth 100000 in
theorem xi_w403 : zall cX12_expression [zi_403_0, zi_403_1, zi_403_2, zi_403_3] := zall_w _ _ (by decide +kernel)
noncomputable def xi_403 (pc : Nat) : XIs := cond (Nat.blt pc 60) (cond (Nat.blt pc 26) (zx zi_403_0) (zx zi_403_1)) (cond (Nat.blt pc 91) (zx zi_403_2) (zx zi_403_3))
theorem xi_ok403 (pc : Nat) : xi_ok cX12_expression (xi_403 pc) = true := xi_c (xi_c (zq1 xi_w403) (zq1 (zq2 xi_w403))) (xi_c (zq1 (zq2 (zq2 xi_w403))) (zq1 (zq2 (zq2 (zq2 xi_w403)))))
noncomputable def zi_404_0 : ZIs := [(0, ev_13), (1, ev_10), (2, ev_1283), (5, ev_13), (6, ev_10), (7, ev_1343), (10, ev_13), (11, ev_1189), (14, ev_361), (16, ev_1522), (19, ev_13), (20, ev_30), (21, ev_361), (23, ev_1359), (26, ev_806), (28, ev_81)]
noncomputable def zi_404_1 : ZIs := [(29, ev_13), (30, ev_10), (31, ev_1346), (34, ev_13), (35, ev_10), (36, ev_1744), (39, ev_13), (40, ev_7), (41, ev_1774), (44, ev_13), (45, ev_1775), (48, ev_7), (49, ev_13), (50, ev_1742), (53, ev_293), (54, ev_13)]
noncomputable def zi_404_2 : ZIs := [(55, ev_1340), (58, ev_850), (61, ev_13), (62, ev_10), (63, ev_1774), (66, ev_13), (67, ev_1775), (70, ev_30), (71, ev_13), (72, ev_1742), (75, ev_293), (76, ev_13), (77, ev_1340), (80, ev_1370), (83, ev_806), (85, ev_81)]
noncomputable def zi_404_3 : ZIs := [(86, ev_10), (87, ev_683), (88, ev_184), (89, ev_13), (90, ev_1742), (93, ev_335), (96, ev_13), (97, ev_1776), (100, ev_184), (101, ev_13), (102, ev_1741), (105, ev_184), (106, ev_18), (107, ev_293), (108, ev_13), (109, ev_1777)]
noncomputable def zi_404_4 : ZIs := [(112, ev_184), (113, ev_13), (114, ev_1743), (117, ev_184), (118, ev_18), (119, ev_293), (120, ev_686), (123, ev_287), (126, ev_13), (127, ev_1739), (130, ev_7), (131, ev_13), (132, ev_1775), (135, ev_7), (136, ev_18), (137, ev_293)]
noncomputable def zi_404_5 : ZIs := [(138, ev_13), (139, ev_1739), (142, ev_30), (143, ev_13), (144, ev_1775), (147, ev_30), (148, ev_18), (149, ev_293), (150, ev_10), (151, ev_81)]
set_option maxRecDepth 100000 in
theorem xi_w404 : zall cX12_program [zi_404_0, zi_404_1, zi_404_2, zi_404_3, zi_404_4, zi_404_5] := zall_w _ _ (by decide +kernel)
noncomputable def xi_404 (pc : Nat) : XIs := cond (Nat.blt pc 86) (cond (Nat.blt pc 29) (zx zi_404_0) (cond (Nat.blt pc 55) (zx zi_404_1) (zx zi_404_2))) (cond (Nat.blt pc 112) (zx zi_404_3) (cond (Nat.blt pc 138) (zx zi_404_4) (zx zi_404_5)))
theorem xi_ok404 (pc : Nat) : xi_ok cX12_program (xi_404 pc) = true := xi_c (xi_c (zq1 xi_w404) (xi_c (zq1 (zq2 xi_w404)) (zq1 (zq2 (zq2 xi_w404))))) (xi_c (zq1 (zq2 (zq2 (zq2 xi_w404)))) (xi_c (zq1 (zq2 (zq2 (zq2 (zq2 xi_w404))))) (zq1 (zq2 (zq2 (zq2 (zq2 (zq2 xi_w404))))))))
noncomputable def zi_405_0 : ZIs := [(0, ev_485), (1, ev_1657), (4, ev_438), (5, ev_1778), (8, ev_1657), (11, ev_1341), (14, ev_485), (15, ev_1779), (18, ev_438), (19, ev_948), (22, ev_1779), (25, ev_222), (28, ev_485), (29, ev_479)]
set_option maxRecDepth 100000 in
theorem xi_w405 : zall cX12_fit [zi_405_0] := zall_w _ _ (by decide +kernel)
noncomputable def xi_405 (pc : Nat) : XIs := zx zi_405_0
theorem xi_ok405 (pc : Nat) : xi_ok cX12_fit (xi_405 pc) = true := zq1 xi_w405
noncomputable def zi_406_0 : ZIs := [(0, ev_485), (1, ev_223), (2, ev_438), (3, ev_342), (6, ev_487), (7, ev_223), (8, ev_438), (9, ev_373), (12, ev_223), (13, ev_479), (14, ev_485), (15, ev_223), (16, ev_438), (17, ev_1398), (20, ev_485), (21, ev_474)]
noncomputable def zi_406_1 : ZIs := [(22, ev_222), (25, ev_485), (26, ev_440), (28, ev_487), (29, ev_223), (30, ev_438), (31, ev_1398), (34, ev_487), (35, ev_474), (36, ev_222), (39, ev_487), (40, ev_58), (42, ev_240), (44, ev_1657), (47, ev_458), (49, ev_488)]
noncomputable def zi_406_2 : ZIs := [(50, ev_438), (51, ev_1778), (54, ev_1657), (57, ev_984), (60, ev_240), (62, ev_458), (64, ev_490), (65, ev_443), (67, ev_485), (68, ev_223), (69, ev_438), (70, ev_484), (73, ev_7), (74, ev_222), (77, ev_10), (78, ev_487)]
noncomputable def zi_406_3 : ZIs := [(79, ev_223), (80, ev_438), (81, ev_484), (84, ev_7), (85, ev_222), (88, ev_10), (89, ev_538), (92, ev_460), (94, ev_202), (97, ev_460), (99, ev_474), (100, ev_479)]
set_option maxRecDepth 100000 in
theorem xi_w406 : zall cX12_product [zi_406_0, zi_406_1, zi_406_2, zi_406_3] := zall_w _ _ (by decide +kernel)
noncomputable def xi_406 (pc : Nat) : XIs := cond (Nat.blt pc 50) (cond (Nat.blt pc 22) (zx zi_406_0) (zx zi_406_1)) (cond (Nat.blt pc 79) (zx zi_406_2) (zx zi_406_3))
theorem xi_ok406 (pc : Nat) : xi_ok cX12_product (xi_406 pc) = true := xi_c (xi_c (zq1 xi_w406) (zq1 (zq2 xi_w406))) (xi_c (zq1 (zq2 (zq2 xi_w406))) (zq1 (zq2 (zq2 (zq2 xi_w406)))))
noncomputable def zi_407_0 : ZIs := [(0, ev_13), (1, ev_1780), (4, ev_10), (5, ev_13), (6, ev_1781), (9, ev_184), (10, ev_437), (11, ev_186), (12, ev_13), (13, ev_1780), (16, ev_7), (17, ev_184), (18, ev_167), (19, ev_186), (20, ev_13), (21, ev_1780)]
noncomputable def zi_407_1 : ZIs := [(24, ev_30), (25, ev_13), (26, ev_1296), (29, ev_168), (31, ev_13), (32, ev_1159), (35, ev_350), (36, ev_184), (37, ev_22), (38, ev_18), (39, ev_167), (40, ev_186), (41, ev_13), (42, ev_1780), (45, ev_31), (46, ev_223)]
noncomputable def zi_407_2 : ZIs := [(47, ev_186), (48, ev_13), (49, ev_1780), (52, ev_32), (53, ev_223), (54, ev_186), (55, ev_13), (56, ev_1780), (59, ev_33), (60, ev_189), (61, ev_167), (62, ev_186), (63, ev_13), (64, ev_1780), (67, ev_15), (69, ev_223)]
noncomputable def zi_407_3 : ZIs := [(70, ev_186), (71, ev_13), (72, ev_1780), (75, ev_466), (77, ev_1657), (80, ev_186), (81, ev_13), (82, ev_1780), (85, ev_467), (87, ev_1779), (90, ev_186), (91, ev_13), (92, ev_1289), (95, ev_289), (96, ev_190), (97, ev_13)]
noncomputable def zi_407_4 : ZIs := [(98, ev_1289), (101, ev_527), (104, ev_22), (105, ev_1782), (108, ev_13), (109, ev_1288), (112, ev_190), (113, ev_1290), (114, ev_767), (117, ev_13), (118, ev_1300), (121, ev_190), (122, ev_18), (123, ev_184), (124, ev_925), (127, ev_13)]
noncomputable def zi_407_5 : ZIs := [(128, ev_1780), (131, ev_31), (132, ev_311), (133, ev_437), (134, ev_221), (135, ev_455), (136, ev_186), (137, ev_13), (138, ev_1288), (141, ev_190), (142, ev_1290), (143, ev_1383), (146, ev_13), (147, ev_1036), (150, ev_190), (151, ev_18)]
noncomputable def zi_407_6 : ZIs := [(152, ev_184), (153, ev_1783), (156, ev_13), (157, ev_1781), (160, ev_13), (161, ev_1300), (164, ev_190), (165, ev_18), (166, ev_437), (167, ev_440), (169, ev_240), (171, ev_13), (172, ev_1037), (175, ev_190), (176, ev_18), (177, ev_167)]
noncomputable def zi_407_7 : ZIs := [(178, ev_455), (179, ev_1784), (182, ev_58), (184, ev_13), (185, ev_1780), (188, ev_32), (189, ev_311), (190, ev_437), (191, ev_221), (192, ev_455), (193, ev_186), (194, ev_13), (195, ev_1780), (198, ev_15), (200, ev_311), (201, ev_437)]
noncomputable def zi_407_8 : ZIs := [(202, ev_240), (204, ev_455), (205, ev_186), (206, ev_13), (207, ev_1780), (210, ev_466), (212, ev_458), (214, ev_13), (215, ev_1780), (218, ev_466), (220, ev_437), (221, ev_438), (222, ev_1398), (225, ev_458), (227, ev_631), (230, ev_13)]
noncomputable def zi_407_9 : ZIs := [(231, ev_1780), (234, ev_466), (236, ev_437), (237, ev_186), (238, ev_13), (239, ev_1780), (242, ev_467), (244, ev_458), (246, ev_13), (247, ev_1780), (250, ev_467), (252, ev_437), (253, ev_438), (254, ev_1785), (257, ev_458), (259, ev_631)]
noncomputable def zi_407_10 : ZIs := [(262, ev_13), (263, ev_1780), (266, ev_467), (268, ev_437), (269, ev_186), (270, ev_294), (273, ev_1786), (276, ev_13), (277, ev_1780), (280, ev_15), (282, ev_13), (283, ev_1780), (286, ev_15), (288, ev_437), (289, ev_1784), (292, ev_186)]
noncomputable def zi_407_11 : ZIs := [(293, ev_253)]
set_option maxRecDepth 100000 in
theorem xi_w407 : zall cX12_nameAll [zi_407_0, zi_407_1, zi_407_2, zi_407_3, zi_407_4, zi_407_5, zi_407_6, zi_407_7, zi_407_8, zi_407_9, zi_407_10, zi_407_11] := zall_w _ _ (by decide +kernel)
noncomputable def xi_407 (pc : Nat) : XIs := cond (Nat.blt pc 152) (cond (Nat.blt pc 70) (cond (Nat.blt pc 24) (zx zi_407_0) (cond (Nat.blt pc 47) (zx zi_407_1) (zx zi_407_2))) (cond (Nat.blt pc 98) (zx zi_407_3) (cond (Nat.blt pc 128) (zx zi_407_4) (zx zi_407_5)))) (cond (Nat.blt pc 231) (cond (Nat.blt pc 178) (zx zi_407_6) (cond (Nat.blt pc 202) (zx zi_407_7) (zx zi_407_8))) (cond (Nat.blt pc 262) (zx zi_407_9) (cond (Nat.blt pc 293) (zx zi_407_10) (zx zi_407_11))))
theorem xi_ok407 (pc : Nat) : xi_ok cX12_nameAll (xi_407 pc) = true := xi_c (xi_c (xi_c (zq1 xi_w407) (xi_c (zq1 (zq2 xi_w407)) (zq1 (zq2 (zq2 xi_w407))))) (xi_c (zq1 (zq2 (zq2 (zq2 xi_w407)))) (xi_c (zq1 (zq2 (zq2 (zq2 (zq2 xi_w407))))) (zq1 (zq2 (zq2 (zq2 (zq2 (zq2 xi_w407))))))))) (xi_c (xi_c (zq1 (zq2 (zq2 (zq2 (zq2 (zq2 (zq2 xi_w407))))))) (xi_c (zq1 (zq2 (zq2 (zq2 (zq2 (zq2 (zq2 (zq2 xi_w407)))))))) (zq1 (zq2 (zq2 (zq2 (zq2 (zq2 (zq2 (zq2 (zq2 xi_w407))))))))))) (xi_c (zq1 (zq2 (zq2 (zq2 (zq2 (zq2 (zq2 (zq2 (zq2 (zq2 xi_w407)))))))))) (xi_c (zq1 (zq2 (zq2 (zq2 (zq2 (zq2 (zq2 (zq2 (zq2 (zq2 (zq2 xi_w407))))))))))) (zq1 (zq2 (zq2 (zq2 (zq2 (zq2 (zq2 (zq2 (zq2 (zq2 (zq2 (zq2 xi_w407)))))))))))))))
noncomputable def zi_408_0 : ZIs := [(0, ev_10), (1, ev_288), (2, ev_184), (3, ev_321), (6, ev_10), (7, ev_187), (10, ev_13), (11, ev_1739), (14, ev_7), (15, ev_18), (16, ev_289), (17, ev_190), (18, ev_13), (19, ev_1739), (22, ev_184), (23, ev_7)]
noncomputable def zi_408_1 : ZIs := [(24, ev_22), (25, ev_18), (26, ev_1787), (29, ev_13), (30, ev_1776), (33, ev_190), (34, ev_18), (35, ev_11), (37, ev_12), (39, ev_30), (40, ev_687), (43, ev_13), (44, ev_1788), (47, ev_189), (48, ev_12), (50, ev_1131)]
noncomputable def zi_408_2 : ZIs := [(53, ev_13), (54, ev_1777), (57, ev_190), (58, ev_18), (59, ev_167), (60, ev_1175), (63, ev_13), (64, ev_1780), (67, ev_13), (68, ev_1777), (71, ev_190), (72, ev_18), (73, ev_437), (74, ev_186), (75, ev_299), (78, ev_1789)]
noncomputable def zi_408_3 : ZIs := [(81, ev_12), (83, ev_30), (84, ev_974), (87, ev_13), (88, ev_1788), (91, ev_189), (92, ev_7), (93, ev_16), (94, ev_13), (95, ev_1788), (98, ev_189), (99, ev_7), (100, ev_16), (101, ev_437), (102, ev_474), (103, ev_1784)]
noncomputable def zi_408_4 : ZIs := [(106, ev_186), (107, ev_1790), (110, ev_891), (113, ev_13), (114, ev_1788), (117, ev_189), (118, ev_7), (119, ev_16), (120, ev_437), (121, ev_572), (123, ev_13), (124, ev_1788), (127, ev_189), (128, ev_437), (129, ev_919), (131, ev_13)]
noncomputable def zi_408_5 : ZIs := [(132, ev_1788), (135, ev_189), (136, ev_7), (137, ev_16), (138, ev_12), (140, ev_400), (142, ev_536), (145, ev_499), (147, ev_920), (149, ev_1791), (152, ev_1784), (155, ev_1792), (158, ev_12), (160, ev_393), (162, ev_796), (165, ev_499)]
noncomputable def zi_408_6 : ZIs := [(167, ev_920), (169, ev_455), (170, ev_1784), (173, ev_1793), (176, ev_12), (178, ev_395), (180, ev_796), (183, ev_499), (185, ev_920), (187, ev_483), (188, ev_1784), (191, ev_1794), (194, ev_12), (196, ev_384), (198, ev_796), (201, ev_499)]
noncomputable def zi_408_7 : ZIs := [(203, ev_920), (205, ev_438), (206, ev_1600), (209, ev_193), (212, ev_499), (214, ev_920), (216, ev_438), (217, ev_321), (220, ev_221), (221, ev_222), (224, ev_223), (225, ev_186), (226, ev_294), (229, ev_1795), (232, ev_13), (233, ev_1788)]
noncomputable def zi_408_8 : ZIs := [(236, ev_10), (237, ev_437), (238, ev_479)]
set_option maxRecDepth 100000 in
theorem xi_w408 : zall cX12_workOut [zi_408_0, zi_408_1, zi_408_2, zi_408_3, zi_408_4, zi_408_5, zi_408_6, zi_408_7, zi_408_8] := zall_w _ _ (by decide +kernel)
noncomputable def xi_408 (pc : Nat) : XIs := cond (Nat.blt pc 106) (cond (Nat.blt pc 53) (cond (Nat.blt pc 24) (zx zi_408_0) (zx zi_408_1)) (cond (Nat.blt pc 81) (zx zi_408_2) (zx zi_408_3))) (cond (Nat.blt pc 167) (cond (Nat.blt pc 132) (zx zi_408_4) (zx zi_408_5)) (cond (Nat.blt pc 203) (zx zi_408_6) (cond (Nat.blt pc 236) (zx zi_408_7) (zx zi_408_8))))
theorem xi_ok408 (pc : Nat) : xi_ok cX12_workOut (xi_408 pc) = true := xi_c (xi_c (xi_c (zq1 xi_w408) (zq1 (zq2 xi_w408))) (xi_c (zq1 (zq2 (zq2 xi_w408))) (zq1 (zq2 (zq2 (zq2 xi_w408)))))) (xi_c (xi_c (zq1 (zq2 (zq2 (zq2 (zq2 xi_w408))))) (zq1 (zq2 (zq2 (zq2 (zq2 (zq2 xi_w408))))))) (xi_c (zq1 (zq2 (zq2 (zq2 (zq2 (zq2 (zq2 xi_w408))))))) (xi_c (zq1 (zq2 (zq2 (zq2 (zq2 (zq2 (zq2 (zq2 xi_w408)))))))) (zq1 (zq2 (zq2 (zq2 (zq2 (zq2 (zq2 (zq2 (zq2 xi_w408))))))))))))
noncomputable def zi_409_0 : ZIs := [(0, ev_13), (1, ev_184), (2, ev_167), (3, ev_223), (4, ev_1796), (7, ev_1314), (10, ev_849), (13, ev_189), (14, ev_167), (15, ev_221), (16, ev_1330), (19, ev_1314), (22, ev_486), (25, ev_190), (26, ev_167), (27, ev_223)]
noncomputable def zi_409_1 : ZIs := [(28, ev_1797), (31, ev_1314), (34, ev_220), (37, ev_7), (38, ev_222), (41, ev_10), (42, ev_1174), (45, ev_298), (48, ev_10), (49, ev_81), (50, ev_13), (51, ev_13), (52, ev_1286), (55, ev_1798), (58, ev_13), (59, ev_10)]
noncomputable def zi_409_2 : ZIs := [(60, ev_1799), (63, ev_13), (64, ev_10), (65, ev_1800), (68, ev_13), (69, ev_10), (70, ev_1801), (73, ev_13), (74, ev_223), (75, ev_1802), (78, ev_10), (79, ev_28), (81, ev_265), (83, ev_13), (84, ev_1286), (87, ev_681)]
noncomputable def zi_409_3 : ZIs := [(90, ev_13), (91, ev_1781), (94, ev_265), (96, ev_223), (97, ev_186), (98, ev_315), (101, ev_756), (104, ev_10), (105, ev_28), (107, ev_265), (109, ev_13), (110, ev_1286), (113, ev_641), (116, ev_13), (117, ev_265), (119, ev_10)]
noncomputable def zi_409_4 : ZIs := [(120, ev_1803), (123, ev_13), (124, ev_1804), (127, ev_265), (129, ev_13), (130, ev_10), (131, ev_1805), (134, ev_186), (135, ev_315), (138, ev_608), (141, ev_10), (142, ev_28), (144, ev_265), (146, ev_13), (147, ev_1286), (150, ev_341)]
noncomputable def zi_409_5 : ZIs := [(153, ev_13), (154, ev_1781), (157, ev_265), (159, ev_13), (160, ev_1804), (163, ev_265), (165, ev_437), (166, ev_186), (167, ev_315), (170, ev_560), (173, ev_10), (174, ev_28), (176, ev_7), (177, ev_269), (179, ev_270), (181, ev_1806)]
noncomputable def zi_409_6 : ZIs := [(184, ev_265), (186, ev_184), (187, ev_468), (190, ev_315), (193, ev_13), (194, ev_189), (195, ev_190), (196, ev_240), (198, ev_1807), (201, ev_10), (202, ev_269), (204, ev_10), (205, ev_308), (207, ev_309), (209, ev_13), (210, ev_1286)]
noncomputable def zi_409_7 : ZIs := [(213, ev_1591), (216, ev_13), (217, ev_309), (219, ev_265), (221, ev_1803), (224, ev_13), (225, ev_1804), (228, ev_309), (230, ev_13), (231, ev_7), (232, ev_1805), (235, ev_186), (236, ev_270), (238, ev_1367), (241, ev_13), (242, ev_1804)]
noncomputable def zi_409_8 : ZIs := [(245, ev_309), (247, ev_437), (248, ev_13), (249, ev_1781), (252, ev_309), (254, ev_437), (255, ev_438), (256, ev_220), (259, ev_7), (260, ev_222), (263, ev_10), (264, ev_269), (266, ev_313), (269, ev_273), (272, ev_10), (273, ev_308)]
noncomputable def zi_409_9 : ZIs := [(275, ev_309), (277, ev_13), (278, ev_1286), (281, ev_341), (284, ev_13), (285, ev_1781), (288, ev_309), (290, ev_13), (291, ev_1804), (294, ev_309), (296, ev_437), (297, ev_186), (298, ev_313), (301, ev_560), (304, ev_892), (307, ev_265)]
noncomputable def zi_409_10 : ZIs := [(309, ev_81)]
set_option maxRecDepth 100000 in
theorem xi_w409 : zall cX12_run [zi_409_0, zi_409_1, zi_409_2, zi_409_3, zi_409_4, zi_409_5, zi_409_6, zi_409_7, zi_409_8, zi_409_9, zi_409_10] := zall_w _ _ (by decide +kernel)
noncomputable def xi_409 (pc : Nat) : XIs := cond (Nat.blt pc 153) (cond (Nat.blt pc 60) (cond (Nat.blt pc 28) (zx zi_409_0) (zx zi_409_1)) (cond (Nat.blt pc 90) (zx zi_409_2) (cond (Nat.blt pc 120) (zx zi_409_3) (zx zi_409_4)))) (cond (Nat.blt pc 245) (cond (Nat.blt pc 184) (zx zi_409_5) (cond (Nat.blt pc 213) (zx zi_409_6) (zx zi_409_7))) (cond (Nat.blt pc 275) (zx zi_409_8) (cond (Nat.blt pc 309) (zx zi_409_9) (zx zi_409_10))))
theorem xi_ok409 (pc : Nat) : xi_ok cX12_run (xi_409 pc) = true := xi_c (xi_c (xi_c (zq1 xi_w409) (zq1 (zq2 xi_w409))) (xi_c (zq1 (zq2 (zq2 xi_w409))) (xi_c (zq1 (zq2 (zq2 (zq2 xi_w409)))) (zq1 (zq2 (zq2 (zq2 (zq2 xi_w409)))))))) (xi_c (xi_c (zq1 (zq2 (zq2 (zq2 (zq2 (zq2 xi_w409)))))) (xi_c (zq1 (zq2 (zq2 (zq2 (zq2 (zq2 (zq2 xi_w409))))))) (zq1 (zq2 (zq2 (zq2 (zq2 (zq2 (zq2 (zq2 xi_w409)))))))))) (xi_c (zq1 (zq2 (zq2 (zq2 (zq2 (zq2 (zq2 (zq2 (zq2 xi_w409))))))))) (xi_c (zq1 (zq2 (zq2 (zq2 (zq2 (zq2 (zq2 (zq2 (zq2 (zq2 xi_w409)))))))))) (zq1 (zq2 (zq2 (zq2 (zq2 (zq2 (zq2 (zq2 (zq2 (zq2 (zq2 xi_w409))))))))))))))
noncomputable def zi_410_0 : ZIs := [(0, ev_10), (1, ev_11), (3, ev_13), (4, ev_1289), (7, ev_25), (9, ev_191), (11, ev_13), (12, ev_1289), (15, ev_527), (18, ev_22), (19, ev_936), (22, ev_12), (24, ev_1808), (27, ev_13), (28, ev_1288), (31, ev_191)]
noncomputable def zi_410_1 : ZIs := [(33, ev_1290), (34, ev_849), (37, ev_13), (38, ev_1300), (41, ev_191), (43, ev_18), (44, ev_184), (45, ev_1050), (48, ev_13), (49, ev_1036), (52, ev_191), (54, ev_18), (55, ev_190), (56, ev_506), (57, ev_189), (58, ev_816)]
noncomputable def zi_410_2 : ZIs := [(61, ev_7), (62, ev_222), (65, ev_10), (66, ev_11), (68, ev_338), (71, ev_273), (74, ev_12), (76, ev_1002), (79, ev_184), (80, ev_190), (81, ev_506), (82, ev_189), (83, ev_679), (86, ev_7), (87, ev_222), (90, ev_10)]
noncomputable def zi_410_3 : ZIs := [(91, ev_81)]
set_option maxRecDepth 100000 in
theorem xi_w410 : zall cX12_goesTo [zi_410_0, zi_410_1, zi_410_2, zi_410_3] := zall_w _ _ (by decide +kernel)
noncomputable def xi_410 (pc : Nat) : XIs := cond (Nat.blt pc 61) (cond (Nat.blt pc 33) (zx zi_410_0) (zx zi_410_1)) (cond (Nat.blt pc 91) (zx zi_410_2) (zx zi_410_3))
theorem xi_ok410 (pc : Nat) : xi_ok cX12_goesTo (xi_410 pc) = true := xi_c (xi_c (zq1 xi_w410) (zq1 (zq2 xi_w410))) (xi_c (zq1 (zq2 (zq2 xi_w410))) (zq1 (zq2 (zq2 (zq2 xi_w410)))))
noncomputable def zi_411_0 : ZIs := [(0, ev_10), (1, ev_25), (3, ev_10), (4, ev_28), (6, ev_265), (8, ev_13), (9, ev_1286), (12, ev_719), (15, ev_10), (16, ev_269), (18, ev_270), (20, ev_184), (21, ev_583), (24, ev_191), (26, ev_13), (27, ev_265)]
noncomputable def zi_411_1 : ZIs := [(29, ev_270), (31, ev_184), (32, ev_1809), (35, ev_220), (38, ev_7), (39, ev_222), (42, ev_10), (43, ev_22), (44, ev_25), (46, ev_953), (49, ev_608), (52, ev_315), (55, ev_651), (58, ev_191), (60, ev_1810), (63, ev_13)]
noncomputable def zi_411_2 : ZIs := [(64, ev_1), (65, ev_1811), (68, ev_7), (69, ev_22), (70, ev_1801), (73, ev_10), (74, ev_28), (76, ev_10), (77, ev_269), (79, ev_270), (81, ev_191), (83, ev_586), (86, ev_13), (87, ev_1), (88, ev_1812), (91, ev_221)]
noncomputable def zi_411_3 : ZIs := [(92, ev_455), (93, ev_1802), (96, ev_482), (97, ev_1813), (100, ev_13), (101, ev_1812), (104, ev_490), (105, ev_455), (106, ev_443), (108, ev_460), (110, ev_460), (112, ev_516), (114, ev_517), (115, ev_518), (116, ev_1814), (119, ev_490)]
noncomputable def zi_411_4 : ZIs := [(120, ev_443), (122, ev_460), (124, ev_460), (126, ev_520), (128, ev_517), (129, ev_518), (130, ev_1815), (133, ev_490), (134, ev_443), (136, ev_460), (138, ev_460), (140, ev_522), (142, ev_517), (143, ev_518), (144, ev_443), (146, ev_265)]
noncomputable def zi_411_5 : ZIs := [(148, ev_460), (150, ev_523), (152, ev_517), (153, ev_1662), (156, ev_525), (157, ev_189), (158, ev_167), (159, ev_438), (160, ev_484), (163, ev_7), (164, ev_222), (167, ev_10), (168, ev_22), (169, ev_28), (171, ev_953), (174, ev_954)]
noncomputable def zi_411_6 : ZIs := [(177, ev_13), (178, ev_1), (179, ev_1816), (182, ev_191), (184, ev_22), (185, ev_1799), (188, ev_13), (189, ev_1), (190, ev_1817), (193, ev_265), (195, ev_22), (196, ev_1800), (199, ev_265), (201, ev_25), (203, ev_1818), (206, ev_253)]
set_option maxRecDepth 100000 in
theorem xi_w411 : zall cX12_send [zi_411_0, zi_411_1, zi_411_2, zi_411_3, zi_411_4, zi_411_5, zi_411_6] := zall_w _ _ (by decide +kernel)
noncomputable def xi_411 (pc : Nat) : XIs := cond (Nat.blt pc 92) (cond (Nat.blt pc 29) (zx zi_411_0) (cond (Nat.blt pc 64) (zx zi_411_1) (zx zi_411_2))) (cond (Nat.blt pc 148) (cond (Nat.blt pc 120) (zx zi_411_3) (zx zi_411_4)) (cond (Nat.blt pc 177) (zx zi_411_5) (zx zi_411_6)))
theorem xi_ok411 (pc : Nat) : xi_ok cX12_send (xi_411 pc) = true := xi_c (xi_c (zq1 xi_w411) (xi_c (zq1 (zq2 xi_w411)) (zq1 (zq2 (zq2 xi_w411))))) (xi_c (xi_c (zq1 (zq2 (zq2 (zq2 xi_w411)))) (zq1 (zq2 (zq2 (zq2 (zq2 xi_w411)))))) (xi_c (zq1 (zq2 (zq2 (zq2 (zq2 (zq2 xi_w411)))))) (zq1 (zq2 (zq2 (zq2 (zq2 (zq2 (zq2 xi_w411)))))))))
noncomputable def zi_412_0 : ZIs := [(0, ev_13), (1, ev_184), (2, ev_676), (5, ev_184), (6, ev_13), (7, ev_1819), (10, ev_654), (13, ev_7), (14, ev_222), (17, ev_10), (18, ev_1174), (21, ev_220), (24, ev_223), (25, ev_187), (28, ev_13), (29, ev_1781)]
noncomputable def zi_412_1 : ZIs := [(32, ev_184), (33, ev_437), (34, ev_479)]
set_option maxRecDepth 100000 in
theorem xi_w412 : zall cX12_state [zi_412_0, zi_412_1] := zall_w _ _ (by decide +kernel)
noncomputable def xi_412 (pc : Nat) : XIs := cond (Nat.blt pc 32) (zx zi_412_0) (zx zi_412_1)
theorem xi_ok412 (pc : Nat) : xi_ok cX12_state (xi_412 pc) = true := xi_c (zq1 xi_w412) (zq1 (zq2 xi_w412))
noncomputable def zi_413_0 : ZIs := [(0, ev_13), (1, ev_184), (2, ev_167), (3, ev_223), (4, ev_1643), (7, ev_1314), (10, ev_1174), (13, ev_298), (16, ev_10), (17, ev_81), (18, ev_184), (19, ev_376), (22, ev_13), (23, ev_1816), (26, ev_900), (29, ev_184)]
noncomputable def zi_413_1 : ZIs := [(30, ev_7), (31, ev_808), (34, ev_13), (35, ev_1817), (38, ev_205), (41, ev_13), (42, ev_1811), (45, ev_81)]
set_option maxRecDepth 100000 in
theorem xi_w413 : zall cX12_letters [zi_413_0, zi_413_1] := zall_w _ _ (by decide +kernel)
noncomputable def xi_413 (pc : Nat) : XIs := cond (Nat.blt pc 30) (zx zi_413_0) (zx zi_413_1)
theorem xi_ok413 (pc : Nat) : xi_ok cX12_letters (xi_413 pc) = true := xi_c (zq1 xi_w413) (zq1 (zq2 xi_w413))
noncomputable def zi_414_0 : ZIs := [(0, ev_480), (1, ev_480), (2, ev_7), (3, ev_1820), (4, ev_1821), (7, ev_20), (8, ev_16), (9, ev_1822), (10, ev_480), (11, ev_1823), (14, ev_20), (15, ev_480), (16, ev_30), (17, ev_1820), (18, ev_1823), (21, ev_20)]
noncomputable def zi_414_1 : ZIs := [(22, ev_22), (23, ev_1822), (24, ev_480), (25, ev_480), (26, ev_32), (27, ev_1820), (28, ev_22), (29, ev_1824), (32, ev_20), (33, ev_1822), (34, ev_480), (35, ev_480), (36, ev_467), (38, ev_1820), (39, ev_22), (40, ev_1822)]
noncomputable def zi_414_2 : ZIs := [(41, ev_480), (42, ev_480), (43, ev_579), (45, ev_1820), (46, ev_22), (47, ev_1822), (48, ev_480), (49, ev_19), (51, ev_20), (52, ev_81)]
set_option maxRecDepth 100000 in
theorem xi_w414 : zall cJ6_bitCount_0f7a4 [zi_414_0, zi_414_1, zi_414_2] := zall_w _ _ (by decide +kernel)
noncomputable def xi_414 (pc : Nat) : XIs := cond (Nat.blt pc 22) (zx zi_414_0) (cond (Nat.blt pc 41) (zx zi_414_1) (zx zi_414_2))
theorem xi_ok414 (pc : Nat) : xi_ok cJ6_bitCount_0f7a4 (xi_414 pc) = true := xi_c (zq1 xi_w414) (xi_c (zq1 (zq2 xi_w414)) (zq1 (zq2 (zq2 xi_w414))))
noncomputable def zi_415_0 : ZIs := [(0, ev_485), (1, ev_485), (2, ev_7), (3, ev_517), (4, ev_1825), (7, ev_171), (8, ev_483), (9, ev_1826), (10, ev_485), (11, ev_1827), (14, ev_171), (15, ev_485), (16, ev_30), (17, ev_517), (18, ev_1827), (21, ev_171)]
noncomputable def zi_415_1 : ZIs := [(22, ev_455), (23, ev_1826), (24, ev_485), (25, ev_485), (26, ev_32), (27, ev_517), (28, ev_455), (29, ev_1828), (32, ev_171), (33, ev_1826), (34, ev_485), (35, ev_485), (36, ev_467), (38, ev_517), (39, ev_455), (40, ev_1826)]
noncomputable def zi_415_2 : ZIs := [(41, ev_485), (42, ev_485), (43, ev_579), (45, ev_517), (46, ev_455), (47, ev_1826), (48, ev_485), (49, ev_485), (50, ev_168), (52, ev_517), (53, ev_455), (54, ev_1826), (55, ev_485), (56, ev_989), (57, ev_1829), (59, ev_20)]
noncomputable def zi_415_3 : ZIs := [(60, ev_81)]
set_option maxRecDepth 100000 in
theorem xi_w415 : zall cJ13_bitCount_95d88 [zi_415_0, zi_415_1, zi_415_2, zi_415_3] := zall_w _ _ (by decide +kernel)
noncomputable def xi_415 (pc : Nat) : XIs := cond (Nat.blt pc 41) (cond (Nat.blt pc 22) (zx zi_415_0) (zx zi_415_1)) (cond (Nat.blt pc 60) (zx zi_415_2) (zx zi_415_3))
theorem xi_ok415 (pc : Nat) : xi_ok cJ13_bitCount_95d88 (xi_415 pc) = true := xi_c (xi_c (zq1 xi_w415) (zq1 (zq2 xi_w415))) (xi_c (zq1 (zq2 (zq2 xi_w415))) (zq1 (zq2 (zq2 (zq2 xi_w415)))))
noncomputable def zi_416_0 : ZIs := [(0, ev_10), (1, ev_289), (2, ev_13), (3, ev_14), (4, ev_11), (6, ev_190), (7, ev_12), (9, ev_1447), (12, ev_13), (13, ev_190), (14, ev_481), (15, ev_186), (16, ev_294), (19, ev_799), (22, ev_253)]
set_option maxRecDepth 100000 in
theorem xi_w416 : zall cJ7_fill_d0a16 [zi_416_0] := zall_w _ _ (by decide +kernel)
noncomputable def xi_416 (pc : Nat) : XIs := zx zi_416_0
theorem xi_ok416 (pc : Nat) : xi_ok cJ7_fill_d0a16 (xi_416 pc) = true := zq1 xi_w416
noncomputable def zi_417_0 : ZIs := [(0, ev_10), (1, ev_288), (2, ev_13), (3, ev_14), (4, ev_289), (5, ev_189), (6, ev_190), (7, ev_1447), (10, ev_13), (11, ev_189), (12, ev_184), (13, ev_293), (14, ev_299), (17, ev_1830), (20, ev_253)]
set_option maxRecDepth 100000 in
theorem xi_w417 : zall cJ7_fill_53178 [zi_417_0] := zall_w _ _ (by decide +kernel)
noncomputable def xi_417 (pc : Nat) : XIs := zx zi_417_0
theorem xi_ok417 (pc : Nat) : xi_ok cJ7_fill_53178 (xi_417 pc) = true := zq1 xi_w417
noncomputable def zi_418_0 : ZIs := [(0, ev_485), (1, ev_487), (2, ev_488), (3, ev_440), (5, ev_485), (6, ev_487), (7, ev_518), (8, ev_223), (9, ev_438), (10, ev_1831), (13, ev_240), (15, ev_487), (16, ev_490), (17, ev_485), (18, ev_438), (19, ev_325)]
noncomputable def zi_418_1 : ZIs := [(22, ev_240), (24, ev_221), (25, ev_483), (26, ev_479), (27, ev_240), (29, ev_479)]
set_option maxRecDepth 100000 in
theorem xi_w418 : zall cJ9_floorDiv_f86c9 [zi_418_0, zi_418_1] := zall_w _ _ (by decide +kernel)
noncomputable def xi_418 (pc : Nat) : XIs := cond (Nat.blt pc 22) (zx zi_418_0) (zx zi_418_1)
theorem xi_ok418 (pc : Nat) : xi_ok cJ9_floorDiv_f86c9 (xi_418 pc) = true := xi_c (zq1 xi_w418) (zq1 (zq2 xi_w418))
noncomputable def zi_419_0 : ZIs := [(0, ev_485), (1, ev_487), (2, ev_525), (3, ev_440), (5, ev_485), (6, ev_487), (7, ev_518), (8, ev_223), (9, ev_438), (10, ev_1832), (13, ev_240), (15, ev_223), (16, ev_438), (17, ev_325), (20, ev_240), (22, ev_487)]
noncomputable def zi_419_1 : ZIs := [(23, ev_455), (24, ev_479), (25, ev_240), (27, ev_479)]
set_option maxRecDepth 100000 in
theorem xi_w419 : zall cJ9_floorMod_f86c9 [zi_419_0, zi_419_1] := zall_w _ _ (by decide +kernel)
noncomputable def xi_419 (pc : Nat) : XIs := cond (Nat.blt pc 23) (zx zi_419_0) (zx zi_419_1)
theorem xi_ok419 (pc : Nat) : xi_ok cJ9_floorMod_f86c9 (xi_419 pc) = true := xi_c (zq1 xi_w419) (zq1 (zq2 xi_w419))
noncomputable def zi_420_0 : ZIs := [(0, ev_480), (1, ev_1398), (4, ev_480), (5, ev_305), (6, ev_222), (9, ev_480), (10, ev_81)]
set_option maxRecDepth 100000 in
theorem xi_w420 : zall cJ9_abs_0f7a4 [zi_420_0] := zall_w _ _ (by decide +kernel)
noncomputable def xi_420 (pc : Nat) : XIs := zx zi_420_0
theorem xi_ok420 (pc : Nat) : xi_ok cJ9_abs_0f7a4 (xi_420 pc) = true := zq1 xi_w420
noncomputable def zi_421_0 : ZIs := [(0, ev_485), (1, ev_223), (2, ev_438), (3, ev_1398), (6, ev_485), (7, ev_474), (8, ev_222), (11, ev_485), (12, ev_479)]
set_option maxRecDepth 100000 in
theorem xi_w421 : zall cJ9_abs_067f4 [zi_421_0] := zall_w _ _ (by decide +kernel)
noncomputable def xi_421 (pc : Nat) : XIs := zx zi_421_0
theorem xi_ok421 (pc : Nat) : xi_ok cJ9_abs_067f4 (xi_421 pc) = true := zq1 xi_w421
noncomputable def zi_422_0 : ZIs := [(0, ev_480), (1, ev_184), (2, ev_611), (5, ev_480), (6, ev_222), (9, ev_184), (10, ev_81)]
set_option maxRecDepth 100000 in
theorem xi_w422 : zall cJ9_max_7cf53 [zi_422_0] := zall_w _ _ (by decide +kernel)
noncomputable def xi_422 (pc : Nat) : XIs := zx zi_422_0
theorem xi_ok422 (pc : Nat) : xi_ok cJ9_max_7cf53 (xi_422 pc) = true := zq1 xi_w422
noncomputable def zi_423_0 : ZIs := [(0, ev_485), (1, ev_487), (2, ev_438), (3, ev_829), (6, ev_485), (7, ev_222), (10, ev_487), (11, ev_479)]
set_option maxRecDepth 100000 in
theorem xi_w423 : zall cJ9_max_f86c9 [zi_423_0] := zall_w _ _ (by decide +kernel)
noncomputable def xi_423 (pc : Nat) : XIs := zx zi_423_0
theorem xi_ok423 (pc : Nat) : xi_ok cJ9_max_f86c9 (xi_423 pc) = true := zq1 xi_w423
noncomputable def zi_424_0 : ZIs := [(0, ev_480), (1, ev_184), (2, ev_884), (5, ev_480), (6, ev_222), (9, ev_184), (10, ev_81)]
set_option maxRecDepth 100000 in
theorem xi_w424 : zall cJ9_min_7cf53 [zi_424_0] := zall_w _ _ (by decide +kernel)
noncomputable def xi_424 (pc : Nat) : XIs := zx zi_424_0
theorem xi_ok424 (pc : Nat) : xi_ok cJ9_min_7cf53 (xi_424 pc) = true := zq1 xi_w424
noncomputable def zi_425_0 : ZIs := [(0, ev_485), (1, ev_487), (2, ev_438), (3, ev_489), (6, ev_485), (7, ev_222), (10, ev_487), (11, ev_479)]
set_option maxRecDepth 100000 in
theorem xi_w425 : zall cJ9_min_f86c9 [zi_425_0] := zall_w _ _ (by decide +kernel)
noncomputable def xi_425 (pc : Nat) : XIs := zx zi_425_0
theorem xi_ok425 (pc : Nat) : xi_ok cJ9_min_f86c9 (xi_425 pc) = true := zq1 xi_w425
noncomputable def zi_426_0 : ZIs := [(0, ev_184), (1, ev_13), (2, ev_14), (3, ev_704), (6, ev_13), (7, ev_1833), (10, ev_1834), (13, ev_821), (14, ev_184), (15, ev_248), (17, ev_6), (18, ev_13), (19, ev_10), (20, ev_26), (21, ev_10), (22, ev_13)]
noncomputable def zi_426_1 : ZIs := [(23, ev_14), (24, ev_184), (25, ev_1835), (28, ev_1836), (31, ev_26), (32, ev_821)]
set_option maxRecDepth 100000 in
theorem xi_w426 : zall cJ7_copyOf_59c91 [zi_426_0, zi_426_1] := zall_w _ _ (by decide +kernel)
noncomputable def xi_426 (pc : Nat) : XIs := cond (Nat.blt pc 23) (zx zi_426_0) (zx zi_426_1)
theorem xi_ok426 (pc : Nat) : xi_ok cJ7_copyOf_59c91 (xi_426 pc) = true := xi_c (zq1 xi_w426) (zq1 (zq2 xi_w426))
noncomputable def zi_427_0 : ZIs := [(0, ev_13), (1, ev_254), (4, ev_14), (5, ev_13), (6, ev_1837), (9, ev_297), (10, ev_81)]
set_option maxRecDepth 100000 in
theorem xi_w427 : zall cJ0_length_8abf5 [zi_427_0] := zall_w _ _ (by decide +kernel)
noncomputable def xi_427 (pc : Nat) : XIs := zx zi_427_0
theorem xi_ok427 (pc : Nat) : xi_ok cJ0_length_8abf5 (xi_427 pc) = true := zq1 xi_w427
noncomputable def zi_428_0 : ZIs := [(0, ev_13), (1, ev_254), (4, ev_14), (5, ev_321), (8, ev_7), (9, ev_222), (12, ev_10), (13, ev_81)]
set_option maxRecDepth 100000 in
theorem xi_w428 : zall cJ0_isEmpty_aae02 [zi_428_0] := zall_w _ _ (by decide +kernel)
noncomputable def xi_428 (pc : Nat) : XIs := zx zi_428_0
theorem xi_ok428 (pc : Nat) : xi_ok cJ0_isEmpty_aae02 (xi_428 pc) = true := zq1 xi_w428
noncomputable def zi_429_0 : ZIs := [(0, ev_13), (1, ev_1838), (4, ev_647), (7, ev_13), (8, ev_254), (11, ev_184), (12, ev_1839), (15, ev_81), (16, ev_13), (17, ev_254), (20, ev_184), (21, ev_1840), (24, ev_81)]
set_option maxRecDepth 100000 in
theorem xi_w429 : zall cJ0_charAt_5068e [zi_429_0] := zall_w _ _ (by decide +kernel)
noncomputable def xi_429 (pc : Nat) : XIs := zx zi_429_0
theorem xi_ok429 (pc : Nat) : xi_ok cJ0_charAt_5068e (xi_429 pc) = true := zq1 xi_w429
noncomputable def zi_430_0 : ZIs := [(0, ev_13), (1, ev_184), (2, ev_10), (3, ev_1841), (6, ev_81)]
set_option maxRecDepth 100000 in
theorem xi_w430 : zall cJ0_indexOf_0f7a4 [zi_430_0] := zall_w _ _ (by decide +kernel)
noncomputable def xi_430 (pc : Nat) : XIs := zx zi_430_0
theorem xi_ok430 (pc : Nat) : xi_ok cJ0_indexOf_0f7a4 (xi_430 pc) = true := zq1 xi_w430
noncomputable def zi_431_0 : ZIs := [(0, ev_13), (1, ev_1838), (4, ev_486), (7, ev_13), (8, ev_254), (11, ev_184), (12, ev_189), (13, ev_13), (14, ev_1842), (17, ev_1843), (20, ev_757), (23, ev_13), (24, ev_254), (27, ev_184), (28, ev_189), (29, ev_13)]
noncomputable def zi_431_1 : ZIs := [(30, ev_1842), (33, ev_1844), (36, ev_81)]
set_option maxRecDepth 100000 in
theorem xi_w431 : zall cJ0_indexOf_7cf53 [zi_431_0, zi_431_1] := zall_w _ _ (by decide +kernel)
noncomputable def xi_431 (pc : Nat) : XIs := cond (Nat.blt pc 30) (zx zi_431_0) (zx zi_431_1)
theorem xi_ok431 (pc : Nat) : xi_ok cJ0_indexOf_7cf53 (xi_431 pc) = true := xi_c (zq1 xi_w431) (zq1 (zq2 xi_w431))
noncomputable def zi_432_0 : ZIs := [(0, ev_1845), (3, ev_380), (6, ev_13), (7, ev_274), (10, ev_222), (13, ev_7), (14, ev_81)]
set_option maxRecDepth 100000 in
theorem xi_w432 : zall cJ0_coder_7d493 [zi_432_0] := zall_w _ _ (by decide +kernel)
noncomputable def xi_432 (pc : Nat) : XIs := zx zi_432_0
theorem xi_ok432 (pc : Nat) : xi_ok cJ0_coder_7d493 (xi_432 pc) = true := zq1 xi_w432
noncomputable def zi_433_0 : ZIs := [(0, ev_1845), (3, ev_1002), (6, ev_13), (7, ev_274), (10, ev_321), (13, ev_7), (14, ev_222), (17, ev_10), (18, ev_81)]
set_option maxRecDepth 100000 in
theorem xi_w433 : zall cJ0_isLatin1_aae02 [zi_433_0] := zall_w _ _ (by decide +kernel)
noncomputable def xi_433 (pc : Nat) : XIs := zx zi_433_0
theorem xi_ok433 (pc : Nat) : xi_ok cJ0_isLatin1_aae02 (xi_433 pc) = true := zq1 xi_w433
noncomputable def zi_434_0 : ZIs := [(0, ev_480), (1, ev_184), (2, ev_1846), (5, ev_1847), (8, ev_50), (9, ev_253)]
set_option maxRecDepth 100000 in
theorem xi_w434 : zall cJ0_checkIndex_df160 [zi_434_0] := zall_w _ _ (by decide +kernel)
noncomputable def xi_434 (pc : Nat) : XIs := zx zi_434_0
theorem xi_ok434 (pc : Nat) : xi_ok cJ0_checkIndex_df160 (xi_434 pc) = true := zq1 xi_w434
noncomputable def zi_435_0 : ZIs := [(0, ev_184), (1, ev_13), (2, ev_14), (3, ev_1848), (6, ev_13), (7, ev_184), (8, ev_1290), (9, ev_1849), (12, ev_20), (13, ev_418), (14, ev_81)]
set_option maxRecDepth 100000 in
theorem xi_w435 : zall cJ1_charAt_3b067 [zi_435_0] := zall_w _ _ (by decide +kernel)
noncomputable def xi_435 (pc : Nat) : XIs := zx zi_435_0
theorem xi_ok435 (pc : Nat) : xi_ok cJ1_charAt_3b067 (xi_435 pc) = true := zq1 xi_w435
noncomputable def zi_436_0 : ZIs := [(0, ev_480), (1, ev_1156), (4, ev_480), (5, ev_1849), (8, ev_884), (11, ev_7), (12, ev_222), (15, ev_10), (16, ev_81)]
set_option maxRecDepth 100000 in
theorem xi_w436 : zall cJ1_canEncode_9a6ad [zi_436_0] := zall_w _ _ (by decide +kernel)
noncomputable def xi_436 (pc : Nat) : XIs := zx zi_436_0
theorem xi_ok436 (pc : Nat) : xi_ok cJ1_canEncode_9a6ad (xi_436 pc) = true := zq1 xi_w436
noncomputable def zi_437_0 : ZIs := [(0, ev_184), (1, ev_1850), (4, ev_373), (7, ev_245), (8, ev_81), (9, ev_189), (10, ev_10), (11, ev_1851), (14, ev_288), (15, ev_190), (16, ev_13), (17, ev_14), (18, ev_1852), (21, ev_289), (22, ev_189), (23, ev_190)]
noncomputable def zi_437_1 : ZIs := [(24, ev_991), (27, ev_245), (28, ev_81), (29, ev_13), (30, ev_184), (31, ev_189), (32, ev_190), (33, ev_893), (36, ev_81)]
set_option maxRecDepth 100000 in
theorem xi_w437 : zall cJ1_indexOf_4cfef [zi_437_0, zi_437_1] := zall_w _ _ (by decide +kernel)
noncomputable def xi_437 (pc : Nat) : XIs := cond (Nat.blt pc 24) (zx zi_437_0) (zx zi_437_1)
theorem xi_ok437 (pc : Nat) : xi_ok cJ1_indexOf_4cfef (xi_437 pc) = true := xi_c (zq1 xi_w437) (zq1 (zq2 xi_w437))
noncomputable def zi_438_0 : ZIs := [(0, ev_184), (1, ev_1853), (2, ev_11), (4, ev_189), (5, ev_25), (7, ev_191), (9, ev_190), (10, ev_359), (13, ev_13), (14, ev_191), (16, ev_1290), (17, ev_12), (19, ev_772), (22, ev_191), (24, ev_81), (25, ev_338)]
noncomputable def zi_438_1 : ZIs := [(28, ev_1325), (31, ev_245), (32, ev_81)]
set_option maxRecDepth 100000 in
theorem xi_w438 : zall cJ1_indexOfChar_4cfef [zi_438_0, zi_438_1] := zall_w _ _ (by decide +kernel)
noncomputable def xi_438 (pc : Nat) : XIs := cond (Nat.blt pc 28) (zx zi_438_0) (zx zi_438_1)
theorem xi_ok438 (pc : Nat) : xi_ok cJ1_indexOfChar_4cfef (xi_438 pc) = true := xi_c (zq1 xi_w438) (zq1 (zq2 xi_w438))
noncomputable def zi_439_0 : ZIs := [(0, ev_480), (1, ev_1854), (4, ev_480), (5, ev_184), (6, ev_1547), (9, ev_26), (10, ev_480), (11, ev_184), (12, ev_893), (15, ev_1855), (16, ev_480), (17, ev_81)]
set_option maxRecDepth 100000 in
theorem xi_w439 : zall cJ3_checkIndex_8e157 [zi_439_0] := zall_w _ _ (by decide +kernel)
noncomputable def xi_439 (pc : Nat) : XIs := zx zi_439_0
theorem xi_ok439 (pc : Nat) : xi_ok cJ3_checkIndex_8e157 (xi_439 pc) = true := zq1 xi_w439
end
