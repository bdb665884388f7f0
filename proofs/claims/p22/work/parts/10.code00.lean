section
/-! reading is local: what a short array shows at its beginning, a long one shows at its place -/
noncomputable abbrev DcR (α : Type) : Type := Jvm.ClassFile.Decoder α
def dl_ag (c c' : ByteArray) (p : Nat) : Prop := ∀ (i : Nat) (b : UInt8), c'.data[i]? = some b → c.data[p + i]? = some b
def dl_lc {α : Type} (r r' : DcR α) : Prop := ∀ (c c' : ByteArray) (p q : Nat) (a : α) (q' : Nat), dl_ag c c' p → Jvm.ClassFile.Reader.runAt r' c' q = .ok (a, q') → Jvm.ClassFile.Reader.runAt r c (p + q) = .ok (a, p + q')
theorem dl_u1t (c : ByteArray) (q : Nat) (h : q < c.size) : Jvm.ClassFile.Reader.runAt (Jvm.ClassFile.Reader.u1 : DcR Nat) c q = .ok ((c.data[q]'h).toNat, q + 1) := by
  show (dite (q < c.size) (fun h => (do set (q + 1); pure (c[q]).toNat : DcR Nat)) (fun _ => throw (Jvm.ClassFile.HasTruncated.truncated q)) : DcR Nat) c q = _
  rw [dif_pos h]
  rfl
theorem dl_u1f (c : ByteArray) (q : Nat) (h : ¬ q < c.size) : Jvm.ClassFile.Reader.runAt (Jvm.ClassFile.Reader.u1 : DcR Nat) c q = .error (.truncated q) := by
  show (dite (q < c.size) (fun h => (do set (q + 1); pure (c[q]).toNat : DcR Nat)) (fun _ => throw (Jvm.ClassFile.HasTruncated.truncated q)) : DcR Nat) c q = _
  rw [dif_neg h]
  rfl
theorem dl_bind {α β : Type} {x x' : DcR α} {f f' : α → DcR β} (hx : dl_lc x x') (hf : ∀ a, dl_lc (f a) (f' a)) : dl_lc (x >>= f) (x' >>= f') := by
  intro c c' p q a q' h hr
  have e : Jvm.ClassFile.Reader.runAt (x' >>= f') c' q = Except.bind (Jvm.ClassFile.Reader.runAt x' c' q) (fun v => Jvm.ClassFile.Reader.runAt (f' v.1) c' v.2) := rfl
  have e2 : Jvm.ClassFile.Reader.runAt (x >>= f) c (p + q) = Except.bind (Jvm.ClassFile.Reader.runAt x c (p + q)) (fun v => Jvm.ClassFile.Reader.runAt (f v.1) c v.2) := rfl
  rw [e] at hr
  rw [e2]
  cases hv : Jvm.ClassFile.Reader.runAt x' c' q with
  | error er => rw [hv] at hr; cases hr
  | ok v =>
    rw [hv] at hr
    rw [hx c c' p q v.1 v.2 h (by rw [hv])]
    exact hf v.1 c c' p v.2 a q' h hr
theorem dl_pure {α : Type} (a : α) : dl_lc (pure a) (pure a) := by
  intro c c' p q b q' h hr
  have e : Jvm.ClassFile.Reader.runAt (pure a : DcR α) c' q = .ok (a, q) := rfl
  rw [e] at hr
  cases hr
  rfl
theorem dl_map {α β : Type} {x x' : DcR α} {g : α → β} (hx : dl_lc x x') : dl_lc (g <$> x) (g <$> x') := by
  intro c c' p q a q' h hr
  have e : Jvm.ClassFile.Reader.runAt (g <$> x') c' q = Except.bind (Jvm.ClassFile.Reader.runAt x' c' q) (fun v => .ok (g v.1, v.2)) := rfl
  have e2 : Jvm.ClassFile.Reader.runAt (g <$> x) c (p + q) = Except.bind (Jvm.ClassFile.Reader.runAt x c (p + q)) (fun v => .ok (g v.1, v.2)) := rfl
  rw [e] at hr
  rw [e2]
  cases hv : Jvm.ClassFile.Reader.runAt x' c' q with
  | error er => rw [hv] at hr; cases hr
  | ok v =>
    rw [hv] at hr
    rw [hx c c' p q v.1 v.2 h (by rw [hv])]
    cases hr
    rfl
theorem dl_throw {α : Type} {r : DcR α} {e : Jvm.ClassFile.DecodeError} : dl_lc r (throw e) := by
  intro c c' p q b q' h hr
  have e : Jvm.ClassFile.Reader.runAt (throw e : DcR α) c' q = .error e := rfl
  rw [e] at hr
  cases hr
theorem dl_u1 : dl_lc (Jvm.ClassFile.Reader.u1 : DcR Nat) Jvm.ClassFile.Reader.u1 := by
  intro c c' p q a q' h hr
  by_cases hq : q < c'.size
  · rw [dl_u1t c' q hq] at hr
    cases hr
    have h1 := h q _ (Array.getElem?_eq_getElem hq)
    obtain ⟨h2, h3⟩ := Array.getElem?_eq_some_iff.mp h1
    rw [dl_u1t c (p + q) h2, h3]
    rfl
  · rw [dl_u1f c' q hq] at hr
    cases hr
theorem dl_u2 : dl_lc (Jvm.ClassFile.Reader.u2 : DcR Nat) Jvm.ClassFile.Reader.u2 := by
  unfold Jvm.ClassFile.Reader.u2
  exact dl_bind dl_u1 (fun _ => dl_bind dl_u1 (fun _ => dl_pure _))
theorem dl_s1 : dl_lc (Jvm.ClassFile.Reader.s1 : DcR Int) Jvm.ClassFile.Reader.s1 := by
  unfold Jvm.ClassFile.Reader.s1
  exact dl_map dl_u1
theorem dl_s2 : dl_lc (Jvm.ClassFile.Reader.s2 : DcR Int) Jvm.ClassFile.Reader.s2 := by
  unfold Jvm.ClassFile.Reader.s2
  exact dl_map dl_u2
theorem dl_a1 (g : Nat → Instr) : dl_lc (Jvm.ClassFile.Reader.u1 >>= fun a => (pure (g a) : DcR Instr)) (Jvm.ClassFile.Reader.u1 >>= fun a => pure (g a)) := dl_bind dl_u1 (fun _ => dl_pure _)
theorem dl_a2 (g : Nat → Instr) : dl_lc (Jvm.ClassFile.Reader.u2 >>= fun a => (pure (g a) : DcR Instr)) (Jvm.ClassFile.Reader.u2 >>= fun a => pure (g a)) := dl_bind dl_u2 (fun _ => dl_pure _)
theorem dl_b1 (g : Int → Instr) : dl_lc (Jvm.ClassFile.Reader.s1 >>= fun a => (pure (g a) : DcR Instr)) (Jvm.ClassFile.Reader.s1 >>= fun a => pure (g a)) := dl_bind dl_s1 (fun _ => dl_pure _)
theorem dl_b2 (g : Int → Instr) : dl_lc (Jvm.ClassFile.Reader.s2 >>= fun a => (pure (g a) : DcR Instr)) (Jvm.ClassFile.Reader.s2 >>= fun a => pure (g a)) := dl_bind dl_s2 (fun _ => dl_pure _)
theorem dl_newarray (p : Nat) : dl_lc (Jvm.ClassFile.Decoder.newarray p) (Jvm.ClassFile.Decoder.newarray 0) := by
  unfold Jvm.ClassFile.Decoder.newarray
  refine dl_bind dl_u1 (fun b => ?_)
  split <;> first | exact dl_pure _ | exact dl_throw
noncomputable def zel (b : Nat) (l : List Nat) : Bool := List.rec (motive := fun _ => Bool) false (fun x _ ih => Nat.beq b x || ih) l
def zal (P : Nat → Prop) (l : List Nat) : Prop := List.rec (motive := fun _ => Prop) True (fun x _ ih => P x ∧ ih) l
theorem zal_c {P : Nat → Prop} {x : Nat} {l : List Nat} (h : P x) (h2 : zal P l) : zal P (x :: l) := ⟨h, h2⟩
theorem zal_n {P : Nat → Prop} : zal P [] := trivial
theorem zel_w {P : Nat → Prop} : ∀ (l : List Nat), zal P l → ∀ b, zel b l = true → P b
  | [], _, b, h => by
    have h2 : false = true := h
    cases h2
  | x :: l, hp, b, h => by
    have h2 : (Nat.beq b x || zel b l) = true := h
    have h3 : P x ∧ zal P l := hp
    rw [Bool.or_eq_true] at h2
    rcases h2 with q | q
    · rw [Nat.eq_of_beq_eq_true q]
      exact h3.1
    · exact zel_w l h3.2 b q
noncomputable def dl_easy (b : Nat) : Bool := zel b [2, 3, 4, 5, 6, 7, 8, 9, 10, 16, 17, 18, 19, 20, 21, 22, 25, 26, 27, 28, 29, 30, 31, 32, 33, 42, 43, 44, 45, 46, 47, 51, 52, 54, 55, 58, 59, 60, 61, 62, 63, 64, 65, 66, 76, 77, 78, 79, 80, 84, 85, 87, 88, 89, 92, 96, 97, 100, 101, 104, 105, 108, 109, 112, 113, 116, 117, 120, 121, 122, 123, 124, 125, 126, 127, 128, 129, 130, 131, 132, 133, 136, 145, 146, 148, 153, 154, 155, 156, 157, 158, 159, 160, 161, 162, 163, 164, 167, 172, 173, 176, 177, 178, 180, 181, 182, 183, 184, 187, 188, 190, 191, 192]
set_option maxHeartbeats 8000000 in
set_option maxRecDepth 100000 in
theorem dl_ex : ∃ f : Nat → Nat → DcR Instr, (∀ pc, Jvm.ClassFile.Decoder.instr pc = (Jvm.ClassFile.Reader.u1 >>= f pc)) ∧ ∀ p b, dl_easy b = true → dl_lc (f p b) (f 0 b) := by
  refine ⟨_, fun pc => rfl, ?_⟩
  intro p
  refine zel_w [2, 3, 4, 5, 6, 7, 8, 9, 10, 16, 17, 18, 19, 20, 21, 22, 25, 26, 27, 28, 29, 30, 31, 32, 33, 42, 43, 44, 45, 46, 47, 51, 52, 54, 55, 58, 59, 60, 61, 62, 63, 64, 65, 66, 76, 77, 78, 79, 80, 84, 85, 87, 88, 89, 92, 96, 97, 100, 101, 104, 105, 108, 109, 112, 113, 116, 117, 120, 121, 122, 123, 124, 125, 126, 127, 128, 129, 130, 131, 132, 133, 136, 145, 146, 148, 153, 154, 155, 156, 157, 158, 159, 160, 161, 162, 163, 164, 167, 172, 173, 176, 177, 178, 180, 181, 182, 183, 184, 187, 188, 190, 191, 192] ?_
  refine zal_c (dl_pure _) ?_
  refine zal_c (dl_pure _) ?_
  refine zal_c (dl_pure _) ?_
  refine zal_c (dl_pure _) ?_
  refine zal_c (dl_pure _) ?_
  refine zal_c (dl_pure _) ?_
  refine zal_c (dl_pure _) ?_
  refine zal_c (dl_pure _) ?_
  refine zal_c (dl_pure _) ?_
  refine zal_c (dl_b1 _) ?_
  refine zal_c (dl_b2 _) ?_
  refine zal_c (dl_a1 _) ?_
  refine zal_c (dl_a2 _) ?_
  refine zal_c (dl_a2 _) ?_
  refine zal_c (dl_a1 _) ?_
  refine zal_c (dl_a1 _) ?_
  refine zal_c (dl_a1 _) ?_
  refine zal_c (dl_pure _) ?_
  refine zal_c (dl_pure _) ?_
  refine zal_c (dl_pure _) ?_
  refine zal_c (dl_pure _) ?_
  refine zal_c (dl_pure _) ?_
  refine zal_c (dl_pure _) ?_
  refine zal_c (dl_pure _) ?_
  refine zal_c (dl_pure _) ?_
  refine zal_c (dl_pure _) ?_
  refine zal_c (dl_pure _) ?_
  refine zal_c (dl_pure _) ?_
  refine zal_c (dl_pure _) ?_
  refine zal_c (dl_pure _) ?_
  refine zal_c (dl_pure _) ?_
  refine zal_c (dl_pure _) ?_
  refine zal_c (dl_pure _) ?_
  refine zal_c (dl_a1 _) ?_
  refine zal_c (dl_a1 _) ?_
  refine zal_c (dl_a1 _) ?_
  refine zal_c (dl_pure _) ?_
  refine zal_c (dl_pure _) ?_
  refine zal_c (dl_pure _) ?_
  refine zal_c (dl_pure _) ?_
  refine zal_c (dl_pure _) ?_
  refine zal_c (dl_pure _) ?_
  refine zal_c (dl_pure _) ?_
  refine zal_c (dl_pure _) ?_
  refine zal_c (dl_pure _) ?_
  refine zal_c (dl_pure _) ?_
  refine zal_c (dl_pure _) ?_
  refine zal_c (dl_pure _) ?_
  refine zal_c (dl_pure _) ?_
  refine zal_c (dl_pure _) ?_
  refine zal_c (dl_pure _) ?_
  refine zal_c (dl_pure _) ?_
  refine zal_c (dl_pure _) ?_
  refine zal_c (dl_pure _) ?_
  refine zal_c (dl_pure _) ?_
  refine zal_c (dl_pure _) ?_
  refine zal_c (dl_pure _) ?_
  refine zal_c (dl_pure _) ?_
  refine zal_c (dl_pure _) ?_
  refine zal_c (dl_pure _) ?_
  refine zal_c (dl_pure _) ?_
  refine zal_c (dl_pure _) ?_
  refine zal_c (dl_pure _) ?_
  refine zal_c (dl_pure _) ?_
  refine zal_c (dl_pure _) ?_
  refine zal_c (dl_pure _) ?_
  refine zal_c (dl_pure _) ?_
  refine zal_c (dl_pure _) ?_
  refine zal_c (dl_pure _) ?_
  refine zal_c (dl_pure _) ?_
  refine zal_c (dl_pure _) ?_
  refine zal_c (dl_pure _) ?_
  refine zal_c (dl_pure _) ?_
  refine zal_c (dl_pure _) ?_
  refine zal_c (dl_pure _) ?_
  refine zal_c (dl_pure _) ?_
  refine zal_c (dl_pure _) ?_
  refine zal_c (dl_pure _) ?_
  refine zal_c (dl_pure _) ?_
  refine zal_c (dl_bind dl_u1 (fun _ => dl_bind dl_s1 (fun _ => dl_pure _))) ?_
  refine zal_c (dl_pure _) ?_
  refine zal_c (dl_pure _) ?_
  refine zal_c (dl_pure _) ?_
  refine zal_c (dl_pure _) ?_
  refine zal_c (dl_pure _) ?_
  refine zal_c (dl_b2 _) ?_
  refine zal_c (dl_b2 _) ?_
  refine zal_c (dl_b2 _) ?_
  refine zal_c (dl_b2 _) ?_
  refine zal_c (dl_b2 _) ?_
  refine zal_c (dl_b2 _) ?_
  refine zal_c (dl_b2 _) ?_
  refine zal_c (dl_b2 _) ?_
  refine zal_c (dl_b2 _) ?_
  refine zal_c (dl_b2 _) ?_
  refine zal_c (dl_b2 _) ?_
  refine zal_c (dl_b2 _) ?_
  refine zal_c (dl_b2 _) ?_
  refine zal_c (dl_pure _) ?_
  refine zal_c (dl_pure _) ?_
  refine zal_c (dl_pure _) ?_
  refine zal_c (dl_pure _) ?_
  refine zal_c (dl_a2 _) ?_
  refine zal_c (dl_a2 _) ?_
  refine zal_c (dl_a2 _) ?_
  refine zal_c (dl_a2 _) ?_
  refine zal_c (dl_a2 _) ?_
  refine zal_c (dl_a2 _) ?_
  refine zal_c (dl_a2 _) ?_
  refine zal_c (dl_newarray _) ?_
  refine zal_c (dl_pure _) ?_
  refine zal_c (dl_pure _) ?_
  refine zal_c (dl_a2 _) ?_
  exact zal_n
theorem dl_instr (c c' : ByteArray) (p : Nat) (a : Instr) (k : Nat) (h : dl_ag c c' p) (b : UInt8) (h0 : c'.data[0]? = some b) (hb : dl_easy b.toNat = true) (hr : Jvm.ClassFile.Reader.runAt (Jvm.ClassFile.Decoder.instr 0) c' 0 = .ok (a, k)) : Jvm.ClassFile.Reader.runAt (Jvm.ClassFile.Decoder.instr p) c p = .ok (a, p + k) := by
  obtain ⟨f, hf, hl⟩ := dl_ex
  obtain ⟨hs, e0⟩ := Array.getElem?_eq_some_iff.mp h0
  obtain ⟨hs2, e1⟩ := Array.getElem?_eq_some_iff.mp (h 0 b h0)
  rw [hf 0] at hr
  rw [hf p]
  have e : Jvm.ClassFile.Reader.runAt (Jvm.ClassFile.Reader.u1 >>= f 0) c' 0 = Except.bind (Jvm.ClassFile.Reader.runAt Jvm.ClassFile.Reader.u1 c' 0) (fun v => Jvm.ClassFile.Reader.runAt (f 0 v.1) c' v.2) := rfl
  have e2 : Jvm.ClassFile.Reader.runAt (Jvm.ClassFile.Reader.u1 >>= f p) c p = Except.bind (Jvm.ClassFile.Reader.runAt Jvm.ClassFile.Reader.u1 c p) (fun v => Jvm.ClassFile.Reader.runAt (f p v.1) c v.2) := rfl
  rw [e, dl_u1t c' 0 hs, e0] at hr
  rw [e2, dl_u1t c p hs2]
  have e1' : c.data[p] = b := e1
  rw [e1']
  exact hl p b.toNat hb c c' p 1 a k h hr
theorem dl_dec (c c' : ByteArray) (p : Nat) (a : Instr) (k : Nat) (h : dl_ag c c' p) (b : UInt8) (h0 : c'.data[0]? = some b) (hb : dl_easy b.toNat = true) (hr : decode c' 0 = .ok (a, k)) : decode c p = .ok (a, k) := by
  have e : decode c' 0 = Except.bind (Jvm.ClassFile.Reader.runAt (Jvm.ClassFile.Decoder.instr 0) c' 0) (fun v => .ok (v.1, v.2 - 0)) := rfl
  have e2 : decode c p = Except.bind (Jvm.ClassFile.Reader.runAt (Jvm.ClassFile.Decoder.instr p) c p) (fun v => .ok (v.1, v.2 - p)) := rfl
  rw [e] at hr
  rw [e2]
  cases hv : Jvm.ClassFile.Reader.runAt (Jvm.ClassFile.Decoder.instr 0) c' 0 with
  | error er => rw [hv] at hr; cases hr
  | ok v =>
    rw [hv] at hr
    have hr2 : (Except.ok (v.1, v.2 - 0) : Except Jvm.ClassFile.DecodeError (Instr × Nat)) = .ok (a, k) := hr
    rw [dl_instr c c' p v.1 v.2 h b h0 hb (by rw [hv])]
    show (Except.ok (v.1, p + v.2 - p) : Except Jvm.ClassFile.DecodeError (Instr × Nat)) = .ok (a, k)
    rw [Nat.add_sub_cancel_left]
    exact hr2
/-! the instructions of a method, walked along its bytes -/
noncomputable abbrev XIs : Type := List (Nat × Instr × Nat)
noncomputable def xi_ok (cc : ByteArray) (l : XIs) : Bool := l.all (fun q => decide (decode cc q.1 = .ok (q.2.1, q.2.2)))
theorem xi_c {cc : ByteArray} {b : Bool} {x y : XIs} (hx : xi_ok cc x = true) (hy : xi_ok cc y = true) : xi_ok cc (cond b x y) = true := by
  cases b
  · exact hy
  · exact hx
theorem xi_ap {cc : ByteArray} {x y : XIs} (h : xi_ok cc (x ++ y) = true) : xi_ok cc x = true ∧ xi_ok cc y = true := by
  unfold xi_ok at h ⊢
  rw [List.all_append, Bool.and_eq_true] at h
  exact h
/-! instructions once by name, methods as lists of names: each is decoded once -/
noncomputable def ev_ok (e : List UInt8 × Instr × Nat) : Bool := match e.1 with
  | [] => false
  | b :: _ => dl_easy b.toNat && decide (decode ⟨e.1.toArray⟩ 0 = .ok e.2)
noncomputable abbrev ZEV : Type := {e : List UInt8 × Instr × Nat // ev_ok e = true}
noncomputable abbrev ZIs : Type := List (Nat × ZEV)
noncomputable def zx (l : ZIs) : XIs := List.rec (motive := fun _ => XIs) [] (fun q _ ih => (q.1, q.2.1.2) :: ih) l
noncomputable def zpre (a : List UInt8) : List UInt8 → Bool := List.rec (motive := fun _ => List UInt8 → Bool) (fun _ => true) (fun x _ ih l => match l with
  | [] => false
  | y :: t => Nat.beq x.toNat y.toNat && ih t) a
theorem zpre_i : ∀ (a l : List UInt8), zpre a l = true → ∀ (i : Nat) (x : UInt8), a[i]? = some x → l[i]? = some x
  | [], l, h, i, x, hx => by
    rw [List.getElem?_nil] at hx
    cases hx
  | y :: a, [], h, i, x, hx => by
    have h2 : false = true := h
    cases h2
  | y :: a, z :: l, h, i, x, hx => by
    have h2 : (Nat.beq y.toNat z.toNat && zpre a l) = true := h
    rw [Bool.and_eq_true] at h2
    have e : y = z := UInt8.toNat_inj.mp (Nat.eq_of_beq_eq_true h2.1)
    cases i with
    | zero =>
      rw [List.getElem?_cons_zero] at hx ⊢
      rw [← e]
      exact hx
    | succ i =>
      rw [List.getElem?_cons_succ] at hx ⊢
      exact zpre_i a l h2.2 i x hx
noncomputable def zgap (q : Nat × ZEV) (r : ZIs) : Nat := match r with
  | [] => 0
  | q2 :: _ => q2.1 - q.1 - 1
noncomputable def znx (q : Nat × ZEV) (r : ZIs) : Bool := match r with
  | [] => true
  | q2 :: _ => Nat.blt q.1 q2.1
noncomputable def zat (b : UInt8) (t : List UInt8) (ih : Nat → ZIs → Bool) (is : ZIs) : Bool := match is with
  | [] => true
  | q :: r => zpre q.2.1.1 (b :: t) && (znx q r && ih (zgap q r) r)
noncomputable def zw (l : List UInt8) : Nat → ZIs → Bool :=
  List.rec (motive := fun _ => Nat → ZIs → Bool) (fun _ is => is.isEmpty)
    (fun b t ih k is => Nat.rec (motive := fun _ => Bool) (zat b t ih is) (fun k' _ => ih k' is) k) l
theorem ev_dec (c : ByteArray) (p : Nat) (l : List UInt8) (e : ZEV) (hl : ∀ i b, l[i]? = some b → c.data[p + i]? = some b) (h : zpre e.1.1 l = true) : decode c p = .ok (e.1.2.1, e.1.2.2) := by
  obtain ⟨⟨bs, ins⟩, he⟩ := e
  cases bs with
  | nil =>
    have h2 : false = true := he
    cases h2
  | cons b0 t0 =>
    have h6 : (dl_easy b0.toNat && decide (decode ⟨(b0 :: t0).toArray⟩ 0 = .ok ins)) = true := he
    rw [Bool.and_eq_true] at h6
    exact dl_dec c ⟨(b0 :: t0).toArray⟩ p ins.1 ins.2 (fun i x hx => by
      have hx2 := hx
      rw [List.getElem?_toArray] at hx2
      exact hl i x (zpre_i _ _ h i x hx2)) b0 rfl h6.1 (of_decide_eq_true h6.2)
theorem zwok (c : ByteArray) : ∀ (l : List UInt8) (p k : Nat) (is : ZIs), (∀ i b, l[i]? = some b → c.data[p + i]? = some b) → (∀ q r, is = q :: r → q.1 = p + k) → zw l k is = true → xi_ok c (zx is) = true
  | [], p, k, is, hl, hq, h => by
    have h2 : is.isEmpty = true := h
    cases is with
    | nil => rfl
    | cons q r => cases h2
  | b :: t, p, 0, is, hl, hq, h => by
    have h2 : zat b t (zw t) is = true := h
    cases is with
    | nil => rfl
    | cons q r =>
      have h3 : (zpre q.2.1.1 (b :: t) && (znx q r && zw t (zgap q r) r)) = true := h2
      rw [Bool.and_eq_true, Bool.and_eq_true] at h3
      obtain ⟨hc, hn, hw⟩ := h3
      have hp : q.1 = p := hq q r rfl
      have hr := zwok c t (p + 1) (zgap q r) r (fun i x hx => by
        have := hl (i + 1) x (by rw [List.getElem?_cons_succ]; exact hx)
        rw [show p + 1 + i = p + (i + 1) by omega]
        exact this) (fun q2 r2 e => by
        subst e
        have h5 : q.1 < q2.1 := Nat.blt_eq.mp hn
        show q2.1 = p + 1 + (q2.1 - q.1 - 1)
        omega) hw
      have h7 : decode c p = .ok (q.2.1.2.1, q.2.1.2.2) := ev_dec c p (b :: t) q.2 hl hc
      show xi_ok c ((q.1, q.2.1.2) :: zx r) = true
      unfold xi_ok at hr ⊢
      rw [List.all_cons, Bool.and_eq_true]
      exact ⟨decide_eq_true (show decode c q.1 = .ok (q.2.1.2.1, q.2.1.2.2) from (by rw [hp]; exact h7)), hr⟩
  | b :: t, p, k + 1, is, hl, hq, h => by
    have h2 : zw t k is = true := h
    exact zwok c t (p + 1) k is (fun i x hx => by
        have := hl (i + 1) x (by rw [List.getElem?_cons_succ]; exact hx)
        rw [show p + 1 + i = p + (i + 1) by omega]
        exact this) (fun q r e => by rw [hq q r e]; omega) h2
noncomputable def zk0 (is : ZIs) : Nat := match is with
  | [] => 0
  | q :: _ => q.1
noncomputable def zcat (L : List ZIs) : ZIs := List.rec (motive := fun _ => ZIs) [] (fun a _ ih => a ++ ih) L
def zall (c : ByteArray) (L : List ZIs) : Prop := List.rec (motive := fun _ => Prop) True (fun a _ ih => xi_ok c (zx a) = true ∧ ih) L
theorem zx_ap : ∀ a b : ZIs, zx (a ++ b) = zx a ++ zx b
  | [], b => rfl
  | q :: a, b => congrArg (fun z => (q.1, q.2.1.2) :: z) (zx_ap a b)
theorem zall_of (c : ByteArray) : ∀ L : List ZIs, xi_ok c (zx (zcat L)) = true → zall c L
  | [], _ => trivial
  | a :: L, h => by
    have h2 : xi_ok c (zx (a ++ zcat L)) = true := h
    rw [zx_ap] at h2
    have h3 := xi_ap h2
    exact ⟨h3.1, zall_of c L h3.2⟩
theorem zall_w (c : ByteArray) (L : List ZIs) (h : zw c.data.toList (zk0 (zcat L)) (zcat L) = true) : zall c L := by
  refine zall_of c L (zwok c c.data.toList 0 (zk0 (zcat L)) (zcat L) (fun i b hb => ?_) (fun q r e => ?_) h)
  · rw [Nat.zero_add, ← Array.getElem?_toList]
    exact hb
  · rw [e]
    show q.1 = 0 + q.1
    omega
theorem zq1 {c : ByteArray} {a : ZIs} {L : List ZIs} (h : zall c (a :: L)) : xi_ok c (zx a) = true := h.1
theorem zq2 {c : ByteArray} {a : ZIs} {L : List ZIs} (h : zall c (a :: L)) : zall c L := h.2
end
section
noncomputable def ev_0 : ZEV := ⟨([187, 0, 8], .new 8, 3), by decide +kernel⟩
noncomputable def ev_1 : ZEV := ⟨([89], .dup, 1), by decide +kernel⟩
noncomputable def ev_2 : ZEV := ⟨([183, 0, 141], .invokespecial 141, 3), by decide +kernel⟩
noncomputable def ev_3 : ZEV := ⟨([76], .astore_n 1, 1), by decide +kernel⟩
noncomputable def ev_4 : ZEV := ⟨([187, 0, 142], .new 142, 3), by decide +kernel⟩
noncomputable def ev_5 : ZEV := ⟨([183, 0, 144], .invokespecial 144, 3), by decide +kernel⟩
noncomputable def ev_6 : ZEV := ⟨([77], .astore_n 2, 1), by decide +kernel⟩
noncomputable def ev_7 : ZEV := ⟨([4], .iconst 1, 1), by decide +kernel⟩
noncomputable def ev_8 : ZEV := ⟨([188, 11], .newarray .long, 2), by decide +kernel⟩
noncomputable def ev_9 : ZEV := ⟨([78], .astore_n 3, 1), by decide +kernel⟩
noncomputable def ev_10 : ZEV := ⟨([3], .iconst 0, 1), by decide +kernel⟩
noncomputable def ev_11 : ZEV := ⟨([54, 4], .istore 4, 2), by decide +kernel⟩
noncomputable def ev_12 : ZEV := ⟨([21, 4], .iload 4, 2), by decide +kernel⟩
noncomputable def ev_13 : ZEV := ⟨([42], .aload_n 0, 1), by decide +kernel⟩
noncomputable def ev_14 : ZEV := ⟨([190], .arraylength, 1), by decide +kernel⟩
noncomputable def ev_15 : ZEV := ⟨([16, 6], .bipush 6, 2), by decide +kernel⟩
noncomputable def ev_16 : ZEV := ⟨([100], .isub, 1), by decide +kernel⟩
noncomputable def ev_17 : ZEV := ⟨([163, 7, 68], .if_icmp .gt 1860, 3), by decide +kernel⟩
noncomputable def ev_18 : ZEV := ⟨([46], .iaload, 1), by decide +kernel⟩
noncomputable def ev_19 : ZEV := ⟨([16, 63], .bipush 63, 2), by decide +kernel⟩
noncomputable def ev_20 : ZEV := ⟨([126], .iand, 1), by decide +kernel⟩
noncomputable def ev_21 : ZEV := ⟨([43], .aload_n 1, 1), by decide +kernel⟩
noncomputable def ev_22 : ZEV := ⟨([96], .iadd, 1), by decide +kernel⟩
noncomputable def ev_23 : ZEV := ⟨([45], .aload_n 3, 1), by decide +kernel⟩
noncomputable def ev_24 : ZEV := ⟨([184, 0, 145], .invokestatic 145, 3), by decide +kernel⟩
noncomputable def ev_25 : ZEV := ⟨([54, 5], .istore 5, 2), by decide +kernel⟩
noncomputable def ev_26 : ZEV := ⟨([44], .aload_n 2, 1), by decide +kernel⟩
noncomputable def ev_27 : ZEV := ⟨([182, 0, 150], .invokevirtual 150, 3), by decide +kernel⟩
noncomputable def ev_28 : ZEV := ⟨([54, 6], .istore 6, 2), by decide +kernel⟩
noncomputable def ev_29 : ZEV := ⟨([167, 6, 79], .goto 1615, 3), by decide +kernel⟩
noncomputable def ev_30 : ZEV := ⟨([5], .iconst 2, 1), by decide +kernel⟩
noncomputable def ev_31 : ZEV := ⟨([6], .iconst 3, 1), by decide +kernel⟩
noncomputable def ev_32 : ZEV := ⟨([7], .iconst 4, 1), by decide +kernel⟩
noncomputable def ev_33 : ZEV := ⟨([8], .iconst 5, 1), by decide +kernel⟩
noncomputable def ev_34 : ZEV := ⟨([184, 0, 151], .invokestatic 151, 3), by decide +kernel⟩
noncomputable def ev_35 : ZEV := ⟨([182, 0, 154], .invokevirtual 154, 3), by decide +kernel⟩
noncomputable def ev_36 : ZEV := ⟨([167, 6, 3], .goto 1539, 3), by decide +kernel⟩
noncomputable def ev_37 : ZEV := ⟨([184, 0, 155], .invokestatic 155, 3), by decide +kernel⟩
noncomputable def ev_38 : ZEV := ⟨([182, 0, 157], .invokevirtual 157, 3), by decide +kernel⟩
noncomputable def ev_39 : ZEV := ⟨([167, 5, 231], .goto 1511, 3), by decide +kernel⟩
noncomputable def ev_40 : ZEV := ⟨([184, 0, 158], .invokestatic 158, 3), by decide +kernel⟩
noncomputable def ev_41 : ZEV := ⟨([182, 0, 161], .invokevirtual 161, 3), by decide +kernel⟩
noncomputable def ev_42 : ZEV := ⟨([167, 5, 179], .goto 1459, 3), by decide +kernel⟩
noncomputable def ev_43 : ZEV := ⟨([184, 0, 162], .invokestatic 162, 3), by decide +kernel⟩
noncomputable def ev_44 : ZEV := ⟨([182, 0, 165], .invokevirtual 165, 3), by decide +kernel⟩
noncomputable def ev_45 : ZEV := ⟨([167, 5, 139], .goto 1419, 3), by decide +kernel⟩
noncomputable def ev_46 : ZEV := ⟨([184, 0, 166], .invokestatic 166, 3), by decide +kernel⟩
noncomputable def ev_47 : ZEV := ⟨([182, 0, 168], .invokevirtual 168, 3), by decide +kernel⟩
noncomputable def ev_48 : ZEV := ⟨([167, 5, 111], .goto 1391, 3), by decide +kernel⟩
noncomputable def ev_49 : ZEV := ⟨([182, 0, 169], .invokevirtual 169, 3), by decide +kernel⟩
noncomputable def ev_50 : ZEV := ⟨([87], .pop, 1), by decide +kernel⟩
noncomputable def ev_51 : ZEV := ⟨([182, 0, 173], .invokevirtual 173, 3), by decide +kernel⟩
noncomputable def ev_52 : ZEV := ⟨([167, 5, 98], .goto 1378, 3), by decide +kernel⟩
noncomputable def ev_53 : ZEV := ⟨([184, 0, 174], .invokestatic 174, 3), by decide +kernel⟩
noncomputable def ev_54 : ZEV := ⟨([182, 0, 176], .invokevirtual 176, 3), by decide +kernel⟩
noncomputable def ev_55 : ZEV := ⟨([167, 5, 70], .goto 1350, 3), by decide +kernel⟩
noncomputable def ev_56 : ZEV := ⟨([184, 0, 177], .invokestatic 177, 3), by decide +kernel⟩
noncomputable def ev_57 : ZEV := ⟨([182, 0, 179], .invokevirtual 179, 3), by decide +kernel⟩
noncomputable def ev_58 : ZEV := ⟨([55, 6], .lstore 6, 2), by decide +kernel⟩
noncomputable def ev_59 : ZEV := ⟨([167, 5, 30], .goto 1310, 3), by decide +kernel⟩
noncomputable def ev_60 : ZEV := ⟨([184, 0, 180], .invokestatic 180, 3), by decide +kernel⟩
noncomputable def ev_61 : ZEV := ⟨([182, 0, 182], .invokevirtual 182, 3), by decide +kernel⟩
noncomputable def ev_62 : ZEV := ⟨([167, 5, 2], .goto 1282, 3), by decide +kernel⟩
noncomputable def ev_63 : ZEV := ⟨([184, 0, 183], .invokestatic 183, 3), by decide +kernel⟩
noncomputable def ev_64 : ZEV := ⟨([182, 0, 185], .invokevirtual 185, 3), by decide +kernel⟩
noncomputable def ev_65 : ZEV := ⟨([167, 4, 206], .goto 1230, 3), by decide +kernel⟩
noncomputable def ev_66 : ZEV := ⟨([184, 0, 186], .invokestatic 186, 3), by decide +kernel⟩
noncomputable def ev_67 : ZEV := ⟨([182, 0, 188], .invokevirtual 188, 3), by decide +kernel⟩
noncomputable def ev_68 : ZEV := ⟨([167, 4, 178], .goto 1202, 3), by decide +kernel⟩
noncomputable def ev_69 : ZEV := ⟨([182, 0, 189], .invokevirtual 189, 3), by decide +kernel⟩
noncomputable def ev_70 : ZEV := ⟨([182, 0, 192], .invokevirtual 192, 3), by decide +kernel⟩
noncomputable def ev_71 : ZEV := ⟨([167, 4, 165], .goto 1189, 3), by decide +kernel⟩
noncomputable def ev_72 : ZEV := ⟨([182, 0, 193], .invokevirtual 193, 3), by decide +kernel⟩
noncomputable def ev_73 : ZEV := ⟨([182, 0, 196], .invokevirtual 196, 3), by decide +kernel⟩
noncomputable def ev_74 : ZEV := ⟨([167, 4, 152], .goto 1176, 3), by decide +kernel⟩
noncomputable def ev_75 : ZEV := ⟨([184, 0, 197], .invokestatic 197, 3), by decide +kernel⟩
noncomputable def ev_76 : ZEV := ⟨([182, 0, 199], .invokevirtual 199, 3), by decide +kernel⟩
noncomputable def ev_77 : ZEV := ⟨([167, 4, 124], .goto 1148, 3), by decide +kernel⟩
noncomputable def ev_78 : ZEV := ⟨([182, 0, 200], .invokevirtual 200, 3), by decide +kernel⟩
noncomputable def ev_79 : ZEV := ⟨([182, 0, 203], .invokevirtual 203, 3), by decide +kernel⟩
noncomputable def ev_80 : ZEV := ⟨([167, 4, 111], .goto 1135, 3), by decide +kernel⟩
noncomputable def ev_81 : ZEV := ⟨([184, 0, 204], .invokestatic 204, 3), by decide +kernel⟩
noncomputable def ev_82 : ZEV := ⟨([182, 0, 206], .invokevirtual 206, 3), by decide +kernel⟩
noncomputable def ev_83 : ZEV := ⟨([167, 4, 83], .goto 1107, 3), by decide +kernel⟩
noncomputable def ev_84 : ZEV := ⟨([184, 0, 207], .invokestatic 207, 3), by decide +kernel⟩
noncomputable def ev_85 : ZEV := ⟨([182, 0, 209], .invokevirtual 209, 3), by decide +kernel⟩
noncomputable def ev_86 : ZEV := ⟨([167, 4, 43], .goto 1067, 3), by decide +kernel⟩
noncomputable def ev_87 : ZEV := ⟨([184, 0, 210], .invokestatic 210, 3), by decide +kernel⟩
noncomputable def ev_88 : ZEV := ⟨([182, 0, 212], .invokevirtual 212, 3), by decide +kernel⟩
noncomputable def ev_89 : ZEV := ⟨([167, 3, 247], .goto 1015, 3), by decide +kernel⟩
noncomputable def ev_90 : ZEV := ⟨([184, 0, 213], .invokestatic 213, 3), by decide +kernel⟩
noncomputable def ev_91 : ZEV := ⟨([182, 0, 215], .invokevirtual 215, 3), by decide +kernel⟩
noncomputable def ev_92 : ZEV := ⟨([167, 3, 207], .goto 975, 3), by decide +kernel⟩
noncomputable def ev_93 : ZEV := ⟨([184, 0, 216], .invokestatic 216, 3), by decide +kernel⟩
noncomputable def ev_94 : ZEV := ⟨([182, 0, 218], .invokevirtual 218, 3), by decide +kernel⟩
noncomputable def ev_95 : ZEV := ⟨([182, 0, 219], .invokevirtual 219, 3), by decide +kernel⟩
noncomputable def ev_96 : ZEV := ⟨([21, 5], .iload 5, 2), by decide +kernel⟩
noncomputable def ev_97 : ZEV := ⟨([159, 0, 5], .if_icmp .eq 5, 3), by decide +kernel⟩
noncomputable def ev_98 : ZEV := ⟨([172], .ireturn, 1), by decide +kernel⟩
noncomputable def ev_99 : ZEV := ⟨([154, 0, 15], .ifCond .ne 15, 3), by decide +kernel⟩
noncomputable def ev_100 : ZEV := ⟨([47], .laload, 1), by decide +kernel⟩
noncomputable def ev_101 : ZEV := ⟨([21, 6], .iload 6, 2), by decide +kernel⟩
noncomputable def ev_102 : ZEV := ⟨([133], .i2l, 1), by decide +kernel⟩
noncomputable def ev_103 : ZEV := ⟨([148], .lcmp, 1), by decide +kernel⟩
noncomputable def ev_104 : ZEV := ⟨([153, 0, 5], .ifCond .eq 5, 3), by decide +kernel⟩
noncomputable def ev_105 : ZEV := ⟨([167, 3, 139], .goto 907, 3), by decide +kernel⟩
noncomputable def ev_106 : ZEV := ⟨([184, 0, 222], .invokestatic 222, 3), by decide +kernel⟩
noncomputable def ev_107 : ZEV := ⟨([182, 0, 225], .invokevirtual 225, 3), by decide +kernel⟩
noncomputable def ev_108 : ZEV := ⟨([167, 3, 75], .goto 843, 3), by decide +kernel⟩
noncomputable def ev_109 : ZEV := ⟨([184, 0, 226], .invokestatic 226, 3), by decide +kernel⟩
noncomputable def ev_110 : ZEV := ⟨([182, 0, 228], .invokevirtual 228, 3), by decide +kernel⟩
noncomputable def ev_111 : ZEV := ⟨([167, 3, 35], .goto 803, 3), by decide +kernel⟩
noncomputable def ev_112 : ZEV := ⟨([184, 0, 229], .invokestatic 229, 3), by decide +kernel⟩
noncomputable def ev_113 : ZEV := ⟨([182, 0, 231], .invokevirtual 231, 3), by decide +kernel⟩
noncomputable def ev_114 : ZEV := ⟨([167, 3, 7], .goto 775, 3), by decide +kernel⟩
noncomputable def ev_115 : ZEV := ⟨([184, 0, 232], .invokestatic 232, 3), by decide +kernel⟩
noncomputable def ev_116 : ZEV := ⟨([182, 0, 234], .invokevirtual 234, 3), by decide +kernel⟩
noncomputable def ev_117 : ZEV := ⟨([167, 2, 235], .goto 747, 3), by decide +kernel⟩
noncomputable def ev_118 : ZEV := ⟨([184, 0, 235], .invokestatic 235, 3), by decide +kernel⟩
noncomputable def ev_119 : ZEV := ⟨([182, 0, 237], .invokevirtual 237, 3), by decide +kernel⟩
noncomputable def ev_120 : ZEV := ⟨([167, 2, 207], .goto 719, 3), by decide +kernel⟩
noncomputable def ev_121 : ZEV := ⟨([184, 0, 238], .invokestatic 238, 3), by decide +kernel⟩
noncomputable def ev_122 : ZEV := ⟨([182, 0, 240], .invokevirtual 240, 3), by decide +kernel⟩
noncomputable def ev_123 : ZEV := ⟨([167, 2, 179], .goto 691, 3), by decide +kernel⟩
noncomputable def ev_124 : ZEV := ⟨([184, 0, 241], .invokestatic 241, 3), by decide +kernel⟩
noncomputable def ev_125 : ZEV := ⟨([182, 0, 243], .invokevirtual 243, 3), by decide +kernel⟩
noncomputable def ev_126 : ZEV := ⟨([167, 2, 151], .goto 663, 3), by decide +kernel⟩
noncomputable def ev_127 : ZEV := ⟨([184, 0, 244], .invokestatic 244, 3), by decide +kernel⟩
noncomputable def ev_128 : ZEV := ⟨([182, 0, 246], .invokevirtual 246, 3), by decide +kernel⟩
noncomputable def ev_129 : ZEV := ⟨([167, 2, 123], .goto 635, 3), by decide +kernel⟩
noncomputable def ev_130 : ZEV := ⟨([184, 0, 247], .invokestatic 247, 3), by decide +kernel⟩
noncomputable def ev_131 : ZEV := ⟨([182, 0, 249], .invokevirtual 249, 3), by decide +kernel⟩
noncomputable def ev_132 : ZEV := ⟨([167, 2, 83], .goto 595, 3), by decide +kernel⟩
noncomputable def ev_133 : ZEV := ⟨([184, 0, 250], .invokestatic 250, 3), by decide +kernel⟩
noncomputable def ev_134 : ZEV := ⟨([182, 0, 252], .invokevirtual 252, 3), by decide +kernel⟩
noncomputable def ev_135 : ZEV := ⟨([167, 2, 31], .goto 543, 3), by decide +kernel⟩
noncomputable def ev_136 : ZEV := ⟨([184, 0, 253], .invokestatic 253, 3), by decide +kernel⟩
noncomputable def ev_137 : ZEV := ⟨([182, 0, 255], .invokevirtual 255, 3), by decide +kernel⟩
noncomputable def ev_138 : ZEV := ⟨([167, 1, 235], .goto 491, 3), by decide +kernel⟩
noncomputable def ev_139 : ZEV := ⟨([184, 1, 0], .invokestatic 256, 3), by decide +kernel⟩
noncomputable def ev_140 : ZEV := ⟨([182, 1, 2], .invokevirtual 258, 3), by decide +kernel⟩
noncomputable def ev_141 : ZEV := ⟨([167, 1, 207], .goto 463, 3), by decide +kernel⟩
noncomputable def ev_142 : ZEV := ⟨([184, 1, 3], .invokestatic 259, 3), by decide +kernel⟩
noncomputable def ev_143 : ZEV := ⟨([182, 1, 5], .invokevirtual 261, 3), by decide +kernel⟩
noncomputable def ev_144 : ZEV := ⟨([167, 1, 179], .goto 435, 3), by decide +kernel⟩
noncomputable def ev_145 : ZEV := ⟨([184, 1, 6], .invokestatic 262, 3), by decide +kernel⟩
noncomputable def ev_146 : ZEV := ⟨([182, 1, 8], .invokevirtual 264, 3), by decide +kernel⟩
noncomputable def ev_147 : ZEV := ⟨([167, 1, 151], .goto 407, 3), by decide +kernel⟩
noncomputable def ev_148 : ZEV := ⟨([182, 1, 9], .invokevirtual 265, 3), by decide +kernel⟩
noncomputable def ev_149 : ZEV := ⟨([182, 1, 12], .invokevirtual 268, 3), by decide +kernel⟩
noncomputable def ev_150 : ZEV := ⟨([167, 1, 138], .goto 394, 3), by decide +kernel⟩
noncomputable def ev_151 : ZEV := ⟨([184, 1, 13], .invokestatic 269, 3), by decide +kernel⟩
noncomputable def ev_152 : ZEV := ⟨([182, 1, 15], .invokevirtual 271, 3), by decide +kernel⟩
noncomputable def ev_153 : ZEV := ⟨([167, 1, 98], .goto 354, 3), by decide +kernel⟩
noncomputable def ev_154 : ZEV := ⟨([184, 1, 16], .invokestatic 272, 3), by decide +kernel⟩
noncomputable def ev_155 : ZEV := ⟨([182, 1, 18], .invokevirtual 274, 3), by decide +kernel⟩
noncomputable def ev_156 : ZEV := ⟨([167, 1, 34], .goto 290, 3), by decide +kernel⟩
noncomputable def ev_157 : ZEV := ⟨([184, 1, 19], .invokestatic 275, 3), by decide +kernel⟩
noncomputable def ev_158 : ZEV := ⟨([182, 1, 21], .invokevirtual 277, 3), by decide +kernel⟩
noncomputable def ev_159 : ZEV := ⟨([167, 1, 6], .goto 262, 3), by decide +kernel⟩
noncomputable def ev_160 : ZEV := ⟨([182, 1, 22], .invokevirtual 278, 3), by decide +kernel⟩
noncomputable def ev_161 : ZEV := ⟨([88], .pop2, 1), by decide +kernel⟩
noncomputable def ev_162 : ZEV := ⟨([182, 1, 26], .invokevirtual 282, 3), by decide +kernel⟩
noncomputable def ev_163 : ZEV := ⟨([167, 0, 249], .goto 249, 3), by decide +kernel⟩
noncomputable def ev_164 : ZEV := ⟨([184, 1, 27], .invokestatic 283, 3), by decide +kernel⟩
noncomputable def ev_165 : ZEV := ⟨([182, 1, 29], .invokevirtual 285, 3), by decide +kernel⟩
noncomputable def ev_166 : ZEV := ⟨([167, 0, 221], .goto 221, 3), by decide +kernel⟩
noncomputable def ev_167 : ZEV := ⟨([182, 1, 30], .invokevirtual 286, 3), by decide +kernel⟩
noncomputable def ev_168 : ZEV := ⟨([182, 1, 33], .invokevirtual 289, 3), by decide +kernel⟩
noncomputable def ev_169 : ZEV := ⟨([167, 0, 208], .goto 208, 3), by decide +kernel⟩
noncomputable def ev_170 : ZEV := ⟨([184, 1, 34], .invokestatic 290, 3), by decide +kernel⟩
noncomputable def ev_171 : ZEV := ⟨([182, 1, 36], .invokevirtual 292, 3), by decide +kernel⟩
noncomputable def ev_172 : ZEV := ⟨([167, 0, 168], .goto 168, 3), by decide +kernel⟩
noncomputable def ev_173 : ZEV := ⟨([182, 1, 37], .invokevirtual 293, 3), by decide +kernel⟩
noncomputable def ev_174 : ZEV := ⟨([182, 1, 40], .invokevirtual 296, 3), by decide +kernel⟩
noncomputable def ev_175 : ZEV := ⟨([167, 0, 155], .goto 155, 3), by decide +kernel⟩
noncomputable def ev_176 : ZEV := ⟨([16, 32], .bipush 32, 2), by decide +kernel⟩
noncomputable def ev_177 : ZEV := ⟨([121], .lshl, 1), by decide +kernel⟩
noncomputable def ev_178 : ZEV := ⟨([20, 1, 41], .ldc2_w 297, 3), by decide +kernel⟩
noncomputable def ev_179 : ZEV := ⟨([127], .land, 1), by decide +kernel⟩
noncomputable def ev_180 : ZEV := ⟨([129], .lor, 1), by decide +kernel⟩
noncomputable def ev_181 : ZEV := ⟨([184, 1, 43], .invokestatic 299, 3), by decide +kernel⟩
noncomputable def ev_182 : ZEV := ⟨([182, 1, 46], .invokevirtual 302, 3), by decide +kernel⟩
noncomputable def ev_183 : ZEV := ⟨([167, 0, 59], .goto 59, 3), by decide +kernel⟩
noncomputable def ev_184 : ZEV := ⟨([184, 1, 47], .invokestatic 303, 3), by decide +kernel⟩
noncomputable def ev_185 : ZEV := ⟨([182, 1, 49], .invokevirtual 305, 3), by decide +kernel⟩
noncomputable def ev_186 : ZEV := ⟨([167, 0, 31], .goto 31, 3), by decide +kernel⟩
noncomputable def ev_187 : ZEV := ⟨([184, 1, 50], .invokestatic 306, 3), by decide +kernel⟩
noncomputable def ev_188 : ZEV := ⟨([182, 1, 52], .invokevirtual 308, 3), by decide +kernel⟩
noncomputable def ev_189 : ZEV := ⟨([167, 0, 3], .goto 3, 3), by decide +kernel⟩
noncomputable def ev_190 : ZEV := ⟨([132, 4, 6], .iinc 4 6, 3), by decide +kernel⟩
noncomputable def ev_191 : ZEV := ⟨([167, 248, 184], .goto (-1864), 3), by decide +kernel⟩
noncomputable def ev_192 : ZEV := ⟨([27], .iload_n 1, 1), by decide +kernel⟩
noncomputable def ev_193 : ZEV := ⟨([182, 0, 7], .invokevirtual 7, 3), by decide +kernel⟩
noncomputable def ev_194 : ZEV := ⟨([80], .lastore, 1), by decide +kernel⟩
noncomputable def ev_195 : ZEV := ⟨([167, 0, 9], .goto 9, 3), by decide +kernel⟩
noncomputable def ev_196 : ZEV := ⟨([25, 6], .aload 6, 2), by decide +kernel⟩
noncomputable def ev_197 : ZEV := ⟨([28], .iload_n 2, 1), by decide +kernel⟩
noncomputable def ev_198 : ZEV := ⟨([29], .iload_n 3, 1), by decide +kernel⟩
noncomputable def ev_199 : ZEV := ⟨([182, 0, 17], .invokevirtual 17, 3), by decide +kernel⟩
noncomputable def ev_200 : ZEV := ⟨([167, 0, 11], .goto 11, 3), by decide +kernel⟩
noncomputable def ev_201 : ZEV := ⟨([58, 7], .astore 7, 2), by decide +kernel⟩
noncomputable def ev_202 : ZEV := ⟨([182, 0, 21], .invokevirtual 21, 3), by decide +kernel⟩
noncomputable def ev_203 : ZEV := ⟨([25, 4], .aload 4, 2), by decide +kernel⟩
noncomputable def ev_204 : ZEV := ⟨([182, 0, 24], .invokevirtual 24, 3), by decide +kernel⟩
noncomputable def ev_205 : ZEV := ⟨([58, 5], .astore 5, 2), by decide +kernel⟩
noncomputable def ev_206 : ZEV := ⟨([182, 0, 28], .invokevirtual 28, 3), by decide +kernel⟩
noncomputable def ev_207 : ZEV := ⟨([58, 4], .astore 4, 2), by decide +kernel⟩
noncomputable def ev_208 : ZEV := ⟨([182, 0, 32], .invokevirtual 32, 3), by decide +kernel⟩
noncomputable def ev_209 : ZEV := ⟨([167, 0, 6], .goto 6, 3), by decide +kernel⟩
noncomputable def ev_210 : ZEV := ⟨([182, 0, 35], .invokevirtual 35, 3), by decide +kernel⟩
noncomputable def ev_211 : ZEV := ⟨([182, 0, 38], .invokevirtual 38, 3), by decide +kernel⟩
noncomputable def ev_212 : ZEV := ⟨([167, 0, 7], .goto 7, 3), by decide +kernel⟩
noncomputable def ev_213 : ZEV := ⟨([182, 0, 42], .invokevirtual 42, 3), by decide +kernel⟩
noncomputable def ev_214 : ZEV := ⟨([182, 0, 45], .invokevirtual 45, 3), by decide +kernel⟩
noncomputable def ev_215 : ZEV := ⟨([182, 0, 48], .invokevirtual 48, 3), by decide +kernel⟩
noncomputable def ev_216 : ZEV := ⟨([182, 0, 51], .invokevirtual 51, 3), by decide +kernel⟩
noncomputable def ev_217 : ZEV := ⟨([182, 0, 54], .invokevirtual 54, 3), by decide +kernel⟩
noncomputable def ev_218 : ZEV := ⟨([182, 0, 57], .invokevirtual 57, 3), by decide +kernel⟩
noncomputable def ev_219 : ZEV := ⟨([182, 0, 60], .invokevirtual 60, 3), by decide +kernel⟩
noncomputable def ev_220 : ZEV := ⟨([182, 0, 63], .invokevirtual 63, 3), by decide +kernel⟩
noncomputable def ev_221 : ZEV := ⟨([182, 0, 66], .invokevirtual 66, 3), by decide +kernel⟩
noncomputable def ev_222 : ZEV := ⟨([25, 5], .aload 5, 2), by decide +kernel⟩
noncomputable def ev_223 : ZEV := ⟨([182, 0, 69], .invokevirtual 69, 3), by decide +kernel⟩
noncomputable def ev_224 : ZEV := ⟨([58, 6], .astore 6, 2), by decide +kernel⟩
noncomputable def ev_225 : ZEV := ⟨([182, 0, 73], .invokevirtual 73, 3), by decide +kernel⟩
noncomputable def ev_226 : ZEV := ⟨([182, 0, 76], .invokevirtual 76, 3), by decide +kernel⟩
noncomputable def ev_227 : ZEV := ⟨([153, 0, 7], .ifCond .eq 7, 3), by decide +kernel⟩
noncomputable def ev_228 : ZEV := ⟨([10], .lconst 1, 1), by decide +kernel⟩
noncomputable def ev_229 : ZEV := ⟨([167, 0, 4], .goto 4, 3), by decide +kernel⟩
noncomputable def ev_230 : ZEV := ⟨([9], .lconst 0, 1), by decide +kernel⟩
noncomputable def ev_231 : ZEV := ⟨([182, 0, 80], .invokevirtual 80, 3), by decide +kernel⟩
noncomputable def ev_232 : ZEV := ⟨([182, 0, 83], .invokevirtual 83, 3), by decide +kernel⟩
noncomputable def ev_233 : ZEV := ⟨([182, 0, 86], .invokevirtual 86, 3), by decide +kernel⟩
noncomputable def ev_234 : ZEV := ⟨([182, 0, 89], .invokevirtual 89, 3), by decide +kernel⟩
noncomputable def ev_235 : ZEV := ⟨([182, 0, 92], .invokevirtual 92, 3), by decide +kernel⟩
noncomputable def ev_236 : ZEV := ⟨([182, 0, 95], .invokevirtual 95, 3), by decide +kernel⟩
noncomputable def ev_237 : ZEV := ⟨([182, 0, 98], .invokevirtual 98, 3), by decide +kernel⟩
noncomputable def ev_238 : ZEV := ⟨([182, 0, 102], .invokevirtual 102, 3), by decide +kernel⟩
noncomputable def ev_239 : ZEV := ⟨([182, 0, 106], .invokevirtual 106, 3), by decide +kernel⟩
noncomputable def ev_240 : ZEV := ⟨([182, 0, 110], .invokevirtual 110, 3), by decide +kernel⟩
noncomputable def ev_241 : ZEV := ⟨([182, 0, 113], .invokevirtual 113, 3), by decide +kernel⟩
noncomputable def ev_242 : ZEV := ⟨([182, 0, 116], .invokevirtual 116, 3), by decide +kernel⟩
noncomputable def ev_243 : ZEV := ⟨([182, 0, 119], .invokevirtual 119, 3), by decide +kernel⟩
noncomputable def ev_244 : ZEV := ⟨([182, 0, 122], .invokevirtual 122, 3), by decide +kernel⟩
noncomputable def ev_245 : ZEV := ⟨([182, 0, 125], .invokevirtual 125, 3), by decide +kernel⟩
noncomputable def ev_246 : ZEV := ⟨([182, 0, 128], .invokevirtual 128, 3), by decide +kernel⟩
noncomputable def ev_247 : ZEV := ⟨([22, 4], .lload 4, 2), by decide +kernel⟩
noncomputable def ev_248 : ZEV := ⟨([182, 0, 131], .invokevirtual 131, 3), by decide +kernel⟩
noncomputable def ev_249 : ZEV := ⟨([182, 0, 135], .invokevirtual 135, 3), by decide +kernel⟩
noncomputable def ev_250 : ZEV := ⟨([182, 0, 138], .invokevirtual 138, 3), by decide +kernel⟩
noncomputable def ev_251 : ZEV := ⟨([183, 0, 3], .invokespecial 3, 3), by decide +kernel⟩
noncomputable def ev_252 : ZEV := ⟨([2], .iconst (-1), 1), by decide +kernel⟩
noncomputable def ev_253 : ZEV := ⟨([181, 0, 9], .putfield 9, 3), by decide +kernel⟩
noncomputable def ev_254 : ZEV := ⟨([181, 0, 15], .putfield 15, 3), by decide +kernel⟩
noncomputable def ev_255 : ZEV := ⟨([188, 10], .newarray .int, 2), by decide +kernel⟩
noncomputable def ev_256 : ZEV := ⟨([181, 0, 18], .putfield 18, 3), by decide +kernel⟩
noncomputable def ev_257 : ZEV := ⟨([181, 0, 22], .putfield 22, 3), by decide +kernel⟩
noncomputable def ev_258 : ZEV := ⟨([181, 0, 25], .putfield 25, 3), by decide +kernel⟩
noncomputable def ev_259 : ZEV := ⟨([181, 0, 28], .putfield 28, 3), by decide +kernel⟩
noncomputable def ev_260 : ZEV := ⟨([177], .return_, 1), by decide +kernel⟩
noncomputable def ev_261 : ZEV := ⟨([180, 0, 9], .getfield 9, 3), by decide +kernel⟩
noncomputable def ev_262 : ZEV := ⟨([180, 0, 31], .getfield 31, 3), by decide +kernel⟩
noncomputable def ev_263 : ZEV := ⟨([159, 0, 34], .if_icmp .eq 34, 3), by decide +kernel⟩
noncomputable def ev_264 : ZEV := ⟨([182, 0, 36], .invokevirtual 36, 3), by decide +kernel⟩
noncomputable def ev_265 : ZEV := ⟨([181, 0, 39], .putfield 39, 3), by decide +kernel⟩
noncomputable def ev_266 : ZEV := ⟨([180, 0, 42], .getfield 42, 3), by decide +kernel⟩
noncomputable def ev_267 : ZEV := ⟨([182, 0, 49], .invokevirtual 49, 3), by decide +kernel⟩
noncomputable def ev_268 : ZEV := ⟨([180, 0, 39], .getfield 39, 3), by decide +kernel⟩
noncomputable def ev_269 : ZEV := ⟨([184, 0, 53], .invokestatic 53, 3), by decide +kernel⟩
noncomputable def ev_270 : ZEV := ⟨([164, 0, 8], .if_icmp .le 8, 3), by decide +kernel⟩
noncomputable def ev_271 : ZEV := ⟨([161, 0, 4], .if_icmp .lt 4, 3), by decide +kernel⟩
noncomputable def ev_272 : ZEV := ⟨([153, 0, 63], .ifCond .eq 63, 3), by decide +kernel⟩
noncomputable def ev_273 : ZEV := ⟨([163, 0, 4], .if_icmp .gt 4, 3), by decide +kernel⟩
noncomputable def ev_274 : ZEV := ⟨([184, 0, 59], .invokestatic 59, 3), by decide +kernel⟩
noncomputable def ev_275 : ZEV := ⟨([54, 7], .istore 7, 2), by decide +kernel⟩
noncomputable def ev_276 : ZEV := ⟨([21, 7], .iload 7, 2), by decide +kernel⟩
noncomputable def ev_277 : ZEV := ⟨([120], .ishl, 1), by decide +kernel⟩
noncomputable def ev_278 : ZEV := ⟨([128], .ior, 1), by decide +kernel⟩
noncomputable def ev_279 : ZEV := ⟨([167, 255, 194], .goto (-62), 3), by decide +kernel⟩
noncomputable def ev_280 : ZEV := ⟨([180, 0, 15], .getfield 15, 3), by decide +kernel⟩
noncomputable def ev_281 : ZEV := ⟨([159, 0, 16], .if_icmp .eq 16, 3), by decide +kernel⟩
noncomputable def ev_282 : ZEV := ⟨([182, 0, 62], .invokevirtual 62, 3), by decide +kernel⟩
noncomputable def ev_283 : ZEV := ⟨([180, 0, 28], .getfield 28, 3), by decide +kernel⟩
noncomputable def ev_284 : ZEV := ⟨([184, 0, 70], .invokestatic 70, 3), by decide +kernel⟩
noncomputable def ev_285 : ZEV := ⟨([181, 0, 76], .putfield 76, 3), by decide +kernel⟩
noncomputable def ev_286 : ZEV := ⟨([181, 0, 79], .putfield 79, 3), by decide +kernel⟩
noncomputable def ev_287 : ZEV := ⟨([180, 0, 18], .getfield 18, 3), by decide +kernel⟩
noncomputable def ev_288 : ZEV := ⟨([184, 0, 82], .invokestatic 82, 3), by decide +kernel⟩
noncomputable def ev_289 : ZEV := ⟨([180, 0, 76], .getfield 76, 3), by decide +kernel⟩
noncomputable def ev_290 : ZEV := ⟨([162, 0, 32], .if_icmp .ge 32, 3), by decide +kernel⟩
noncomputable def ev_291 : ZEV := ⟨([182, 0, 88], .invokevirtual 88, 3), by decide +kernel⟩
noncomputable def ev_292 : ZEV := ⟨([154, 0, 16], .ifCond .ne 16, 3), by decide +kernel⟩
noncomputable def ev_293 : ZEV := ⟨([167, 255, 221], .goto (-35), 3), by decide +kernel⟩
noncomputable def ev_294 : ZEV := ⟨([61], .istore_n 2, 1), by decide +kernel⟩
noncomputable def ev_295 : ZEV := ⟨([62], .istore_n 3, 1), by decide +kernel⟩
noncomputable def ev_296 : ZEV := ⟨([180, 0, 91], .getfield 91, 3), by decide +kernel⟩
noncomputable def ev_297 : ZEV := ⟨([162, 0, 35], .if_icmp .ge 35, 3), by decide +kernel⟩
noncomputable def ev_298 : ZEV := ⟨([182, 0, 94], .invokevirtual 94, 3), by decide +kernel⟩
noncomputable def ev_299 : ZEV := ⟨([79], .iastore, 1), by decide +kernel⟩
noncomputable def ev_300 : ZEV := ⟨([132, 3, 1], .iinc 3 1, 3), by decide +kernel⟩
noncomputable def ev_301 : ZEV := ⟨([167, 255, 219], .goto (-37), 3), by decide +kernel⟩
noncomputable def ev_302 : ZEV := ⟨([162, 0, 24], .if_icmp .ge 24, 3), by decide +kernel⟩
noncomputable def ev_303 : ZEV := ⟨([122], .ishr, 1), by decide +kernel⟩
noncomputable def ev_304 : ZEV := ⟨([132, 2, 1], .iinc 2 1, 3), by decide +kernel⟩
noncomputable def ev_305 : ZEV := ⟨([167, 255, 232], .goto (-24), 3), by decide +kernel⟩
noncomputable def ev_306 : ZEV := ⟨([164, 0, 5], .if_icmp .le 5, 3), by decide +kernel⟩
noncomputable def ev_307 : ZEV := ⟨([180, 0, 79], .getfield 79, 3), by decide +kernel⟩
noncomputable def ev_308 : ZEV := ⟨([162, 0, 87], .if_icmp .ge 87, 3), by decide +kernel⟩
noncomputable def ev_309 : ZEV := ⟨([153, 0, 82], .ifCond .eq 82, 3), by decide +kernel⟩
noncomputable def ev_310 : ZEV := ⟨([116], .ineg, 1), by decide +kernel⟩
noncomputable def ev_311 : ZEV := ⟨([184, 0, 102], .invokestatic 102, 3), by decide +kernel⟩
noncomputable def ev_312 : ZEV := ⟨([154, 0, 42], .ifCond .ne 42, 3), by decide +kernel⟩
noncomputable def ev_313 : ZEV := ⟨([54, 8], .istore 8, 2), by decide +kernel⟩
noncomputable def ev_314 : ZEV := ⟨([21, 8], .iload 8, 2), by decide +kernel⟩
noncomputable def ev_315 : ZEV := ⟨([162, 0, 22], .if_icmp .ge 22, 3), by decide +kernel⟩
noncomputable def ev_316 : ZEV := ⟨([92], .dup2, 1), by decide +kernel⟩
noncomputable def ev_317 : ZEV := ⟨([130], .ixor, 1), by decide +kernel⟩
noncomputable def ev_318 : ZEV := ⟨([132, 8, 1], .iinc 8 1, 3), by decide +kernel⟩
noncomputable def ev_319 : ZEV := ⟨([167, 255, 231], .goto (-25), 3), by decide +kernel⟩
noncomputable def ev_320 : ZEV := ⟨([132, 6, 1], .iinc 6 1, 3), by decide +kernel⟩
noncomputable def ev_321 : ZEV := ⟨([167, 255, 168], .goto (-88), 3), by decide +kernel⟩
noncomputable def ev_322 : ZEV := ⟨([182, 0, 109], .invokevirtual 109, 3), by decide +kernel⟩
noncomputable def ev_323 : ZEV := ⟨([182, 0, 112], .invokevirtual 112, 3), by decide +kernel⟩
noncomputable def ev_324 : ZEV := ⟨([184, 0, 115], .invokestatic 115, 3), by decide +kernel⟩
noncomputable def ev_325 : ZEV := ⟨([162, 0, 106], .if_icmp .ge 106, 3), by decide +kernel⟩
noncomputable def ev_326 : ZEV := ⟨([154, 0, 7], .ifCond .ne 7, 3), by decide +kernel⟩
noncomputable def ev_327 : ZEV := ⟨([54, 9], .istore 9, 2), by decide +kernel⟩
noncomputable def ev_328 : ZEV := ⟨([154, 0, 65], .ifCond .ne 65, 3), by decide +kernel⟩
noncomputable def ev_329 : ZEV := ⟨([21, 9], .iload 9, 2), by decide +kernel⟩
noncomputable def ev_330 : ZEV := ⟨([153, 0, 8], .ifCond .eq 8, 3), by decide +kernel⟩
noncomputable def ev_331 : ZEV := ⟨([154, 0, 55], .ifCond .ne 55, 3), by decide +kernel⟩
noncomputable def ev_332 : ZEV := ⟨([167, 255, 147], .goto (-109), 3), by decide +kernel⟩
noncomputable def ev_333 : ZEV := ⟨([153, 0, 21], .ifCond .eq 21, 3), by decide +kernel⟩
noncomputable def ev_334 : ZEV := ⟨([167, 255, 237], .goto (-19), 3), by decide +kernel⟩
noncomputable def ev_335 : ZEV := ⟨([163, 0, 104], .if_icmp .gt 104, 3), by decide +kernel⟩
noncomputable def ev_336 : ZEV := ⟨([159, 0, 98], .if_icmp .eq 98, 3), by decide +kernel⟩
noncomputable def ev_337 : ZEV := ⟨([153, 0, 81], .ifCond .eq 81, 3), by decide +kernel⟩
noncomputable def ev_338 : ZEV := ⟨([182, 0, 118], .invokevirtual 118, 3), by decide +kernel⟩
noncomputable def ev_339 : ZEV := ⟨([164, 0, 42], .if_icmp .le 42, 3), by decide +kernel⟩
noncomputable def ev_340 : ZEV := ⟨([162, 0, 33], .if_icmp .ge 33, 3), by decide +kernel⟩
noncomputable def ev_341 : ZEV := ⟨([180, 0, 25], .getfield 25, 3), by decide +kernel⟩
noncomputable def ev_342 : ZEV := ⟨([167, 255, 176], .goto (-80), 3), by decide +kernel⟩
noncomputable def ev_343 : ZEV := ⟨([132, 5, 1], .iinc 5 1, 3), by decide +kernel⟩
noncomputable def ev_344 : ZEV := ⟨([167, 255, 151], .goto (-105), 3), by decide +kernel⟩
noncomputable def ev_345 : ZEV := ⟨([164, 0, 75], .if_icmp .le 75, 3), by decide +kernel⟩
noncomputable def ev_346 : ZEV := ⟨([162, 0, 23], .if_icmp .ge 23, 3), by decide +kernel⟩
noncomputable def ev_347 : ZEV := ⟨([153, 0, 9], .ifCond .eq 9, 3), by decide +kernel⟩
noncomputable def ev_348 : ZEV := ⟨([132, 4, 1], .iinc 4 1, 3), by decide +kernel⟩
noncomputable def ev_349 : ZEV := ⟨([167, 255, 228], .goto (-28), 3), by decide +kernel⟩
noncomputable def ev_350 : ZEV := ⟨([167, 255, 179], .goto (-77), 3), by decide +kernel⟩
noncomputable def ev_351 : ZEV := ⟨([154, 0, 6], .ifCond .ne 6, 3), by decide +kernel⟩
noncomputable def ev_352 : ZEV := ⟨([18, 121], .ldc 121, 2), by decide +kernel⟩
noncomputable def ev_353 : ZEV := ⟨([153, 0, 59], .ifCond .eq 59, 3), by decide +kernel⟩
noncomputable def ev_354 : ZEV := ⟨([16, 64], .bipush 64, 2), by decide +kernel⟩
noncomputable def ev_355 : ZEV := ⟨([104], .imul, 1), by decide +kernel⟩
noncomputable def ev_356 : ZEV := ⟨([162, 0, 10], .if_icmp .ge 10, 3), by decide +kernel⟩
noncomputable def ev_357 : ZEV := ⟨([167, 255, 198], .goto (-58), 3), by decide +kernel⟩
noncomputable def ev_358 : ZEV := ⟨([164, 0, 36], .if_icmp .le 36, 3), by decide +kernel⟩
noncomputable def ev_359 : ZEV := ⟨([162, 0, 26], .if_icmp .ge 26, 3), by decide +kernel⟩
noncomputable def ev_360 : ZEV := ⟨([167, 255, 229], .goto (-27), 3), by decide +kernel⟩
noncomputable def ev_361 : ZEV := ⟨([154, 0, 28], .ifCond .ne 28, 3), by decide +kernel⟩
noncomputable def ev_362 : ZEV := ⟨([180, 0, 22], .getfield 22, 3), by decide +kernel⟩
noncomputable def ev_363 : ZEV := ⟨([184, 0, 129], .invokestatic 129, 3), by decide +kernel⟩
noncomputable def ev_364 : ZEV := ⟨([162, 0, 21], .if_icmp .ge 21, 3), by decide +kernel⟩
noncomputable def ev_365 : ZEV := ⟨([183, 0, 5], .invokespecial 5, 3), by decide +kernel⟩
noncomputable def ev_366 : ZEV := ⟨([16, 120], .bipush 120, 2), by decide +kernel⟩
noncomputable def ev_367 : ZEV := ⟨([181, 0, 11], .putfield 11, 3), by decide +kernel⟩
noncomputable def ev_368 : ZEV := ⟨([181, 0, 19], .putfield 19, 3), by decide +kernel⟩
noncomputable def ev_369 : ZEV := ⟨([16, 9], .bipush 9, 2), by decide +kernel⟩
noncomputable def ev_370 : ZEV := ⟨([181, 0, 29], .putfield 29, 3), by decide +kernel⟩
noncomputable def ev_371 : ZEV := ⟨([181, 0, 32], .putfield 32, 3), by decide +kernel⟩
noncomputable def ev_372 : ZEV := ⟨([181, 0, 35], .putfield 35, 3), by decide +kernel⟩
noncomputable def ev_373 : ZEV := ⟨([180, 0, 43], .getfield 43, 3), by decide +kernel⟩
noncomputable def ev_374 : ZEV := ⟨([164, 0, 11], .if_icmp .le 11, 3), by decide +kernel⟩
noncomputable def ev_375 : ZEV := ⟨([182, 0, 46], .invokevirtual 46, 3), by decide +kernel⟩
noncomputable def ev_376 : ZEV := ⟨([181, 0, 50], .putfield 50, 3), by decide +kernel⟩
noncomputable def ev_377 : ZEV := ⟨([182, 0, 53], .invokevirtual 53, 3), by decide +kernel⟩
noncomputable def ev_378 : ZEV := ⟨([154, 0, 5], .ifCond .ne 5, 3), by decide +kernel⟩
noncomputable def ev_379 : ZEV := ⟨([16, 59], .bipush 59, 2), by decide +kernel⟩
noncomputable def ev_380 : ZEV := ⟨([182, 0, 61], .invokevirtual 61, 3), by decide +kernel⟩
noncomputable def ev_381 : ZEV := ⟨([154, 0, 10], .ifCond .ne 10, 3), by decide +kernel⟩
noncomputable def ev_382 : ZEV := ⟨([182, 0, 65], .invokevirtual 65, 3), by decide +kernel⟩
noncomputable def ev_383 : ZEV := ⟨([180, 0, 50], .getfield 50, 3), by decide +kernel⟩
noncomputable def ev_384 : ZEV := ⟨([180, 0, 68], .getfield 68, 3), by decide +kernel⟩
noncomputable def ev_385 : ZEV := ⟨([153, 0, 10], .ifCond .eq 10, 3), by decide +kernel⟩
noncomputable def ev_386 : ZEV := ⟨([180, 0, 11], .getfield 11, 3), by decide +kernel⟩
noncomputable def ev_387 : ZEV := ⟨([184, 0, 71], .invokestatic 71, 3), by decide +kernel⟩
noncomputable def ev_388 : ZEV := ⟨([182, 0, 77], .invokevirtual 77, 3), by decide +kernel⟩
noncomputable def ev_389 : ZEV := ⟨([16, 60], .bipush 60, 2), by decide +kernel⟩
noncomputable def ev_390 : ZEV := ⟨([154, 0, 14], .ifCond .ne 14, 3), by decide +kernel⟩
noncomputable def ev_391 : ZEV := ⟨([16, 61], .bipush 61, 2), by decide +kernel⟩
noncomputable def ev_392 : ZEV := ⟨([180, 0, 80], .getfield 80, 3), by decide +kernel⟩
noncomputable def ev_393 : ZEV := ⟨([153, 0, 18], .ifCond .eq 18, 3), by decide +kernel⟩
noncomputable def ev_394 : ZEV := ⟨([18, 83], .ldc 83, 2), by decide +kernel⟩
noncomputable def ev_395 : ZEV := ⟨([182, 0, 84], .invokevirtual 84, 3), by decide +kernel⟩
noncomputable def ev_396 : ZEV := ⟨([182, 0, 87], .invokevirtual 87, 3), by decide +kernel⟩
noncomputable def ev_397 : ZEV := ⟨([162, 0, 61], .if_icmp .ge 61, 3), by decide +kernel⟩
noncomputable def ev_398 : ZEV := ⟨([16, 43], .bipush 43, 2), by decide +kernel⟩
noncomputable def ev_399 : ZEV := ⟨([154, 0, 12], .ifCond .ne 12, 3), by decide +kernel⟩
noncomputable def ev_400 : ZEV := ⟨([16, 45], .bipush 45, 2), by decide +kernel⟩
noncomputable def ev_401 : ZEV := ⟨([153, 0, 43], .ifCond .eq 43, 3), by decide +kernel⟩
noncomputable def ev_402 : ZEV := ⟨([167, 255, 195], .goto (-61), 3), by decide +kernel⟩
noncomputable def ev_403 : ZEV := ⟨([182, 0, 90], .invokevirtual 90, 3), by decide +kernel⟩
noncomputable def ev_404 : ZEV := ⟨([162, 0, 43], .if_icmp .ge 43, 3), by decide +kernel⟩
noncomputable def ev_405 : ZEV := ⟨([16, 42], .bipush 42, 2), by decide +kernel⟩
noncomputable def ev_406 : ZEV := ⟨([153, 0, 34], .ifCond .eq 34, 3), by decide +kernel⟩
noncomputable def ev_407 : ZEV := ⟨([18, 93], .ldc 93, 2), by decide +kernel⟩
noncomputable def ev_408 : ZEV := ⟨([167, 255, 213], .goto (-43), 3), by decide +kernel⟩
noncomputable def ev_409 : ZEV := ⟨([159, 0, 11], .if_icmp .eq 11, 3), by decide +kernel⟩
noncomputable def ev_410 : ZEV := ⟨([160, 0, 9], .if_icmp .ne 9, 3), by decide +kernel⟩
noncomputable def ev_411 : ZEV := ⟨([154, 0, 19], .ifCond .ne 19, 3), by decide +kernel⟩
noncomputable def ev_412 : ZEV := ⟨([16, 40], .bipush 40, 2), by decide +kernel⟩
noncomputable def ev_413 : ZEV := ⟨([16, 10], .bipush 10, 2), by decide +kernel⟩
noncomputable def ev_414 : ZEV := ⟨([161, 0, 13], .if_icmp .lt 13, 3), by decide +kernel⟩
noncomputable def ev_415 : ZEV := ⟨([180, 0, 98], .getfield 98, 3), by decide +kernel⟩
noncomputable def ev_416 : ZEV := ⟨([153, 0, 29], .ifCond .eq 29, 3), by decide +kernel⟩
noncomputable def ev_417 : ZEV := ⟨([153, 0, 16], .ifCond .eq 16, 3), by decide +kernel⟩
noncomputable def ev_418 : ZEV := ⟨([18, 101], .ldc 101, 2), by decide +kernel⟩
noncomputable def ev_419 : ZEV := ⟨([16, 41], .bipush 41, 2), by decide +kernel⟩
noncomputable def ev_420 : ZEV := ⟨([160, 0, 36], .if_icmp .ne 36, 3), by decide +kernel⟩
noncomputable def ev_421 : ZEV := ⟨([18, 102], .ldc 102, 2), by decide +kernel⟩
noncomputable def ev_422 : ZEV := ⟨([16, 97], .bipush 97, 2), by decide +kernel⟩
noncomputable def ev_423 : ZEV := ⟨([146], .i2c, 1), by decide +kernel⟩
noncomputable def ev_424 : ZEV := ⟨([182, 0, 104], .invokevirtual 104, 3), by decide +kernel⟩
noncomputable def ev_425 : ZEV := ⟨([156, 0, 13], .ifCond .ge 13, 3), by decide +kernel⟩
noncomputable def ev_426 : ZEV := ⟨([18, 110], .ldc 110, 2), by decide +kernel⟩
noncomputable def ev_427 : ZEV := ⟨([182, 0, 111], .invokevirtual 111, 3), by decide +kernel⟩
noncomputable def ev_428 : ZEV := ⟨([180, 0, 116], .getfield 116, 3), by decide +kernel⟩
noncomputable def ev_429 : ZEV := ⟨([181, 0, 119], .putfield 119, 3), by decide +kernel⟩
noncomputable def ev_430 : ZEV := ⟨([180, 0, 35], .getfield 35, 3), by decide +kernel⟩
noncomputable def ev_431 : ZEV := ⟨([184, 0, 120], .invokestatic 120, 3), by decide +kernel⟩
noncomputable def ev_432 : ZEV := ⟨([182, 0, 126], .invokevirtual 126, 3), by decide +kernel⟩
noncomputable def ev_433 : ZEV := ⟨([163, 0, 35], .if_icmp .gt 35, 3), by decide +kernel⟩
noncomputable def ev_434 : ZEV := ⟨([180, 0, 32], .getfield 32, 3), by decide +kernel⟩
noncomputable def ev_435 : ZEV := ⟨([167, 255, 222], .goto (-34), 3), by decide +kernel⟩
noncomputable def ev_436 : ZEV := ⟨([162, 0, 78], .if_icmp .ge 78, 3), by decide +kernel⟩
noncomputable def ev_437 : ZEV := ⟨([182, 0, 130], .invokevirtual 130, 3), by decide +kernel⟩
noncomputable def ev_438 : ZEV := ⟨([182, 0, 134], .invokevirtual 134, 3), by decide +kernel⟩
noncomputable def ev_439 : ZEV := ⟨([167, 0, 15], .goto 15, 3), by decide +kernel⟩
noncomputable def ev_440 : ZEV := ⟨([180, 0, 19], .getfield 19, 3), by decide +kernel⟩
noncomputable def ev_441 : ZEV := ⟨([167, 255, 175], .goto (-81), 3), by decide +kernel⟩
noncomputable def ev_442 : ZEV := ⟨([55, 4], .lstore 4, 2), by decide +kernel⟩
noncomputable def ev_443 : ZEV := ⟨([20, 0, 138], .ldc2_w 138, 3), by decide +kernel⟩
noncomputable def ev_444 : ZEV := ⟨([20, 0, 140], .ldc2_w 140, 3), by decide +kernel⟩
noncomputable def ev_445 : ZEV := ⟨([55, 8], .lstore 8, 2), by decide +kernel⟩
noncomputable def ev_446 : ZEV := ⟨([180, 0, 142], .getfield 142, 3), by decide +kernel⟩
noncomputable def ev_447 : ZEV := ⟨([54, 10], .istore 10, 2), by decide +kernel⟩
noncomputable def ev_448 : ZEV := ⟨([21, 10], .iload 10, 2), by decide +kernel⟩
noncomputable def ev_449 : ZEV := ⟨([162, 0, 73], .if_icmp .ge 73, 3), by decide +kernel⟩
noncomputable def ev_450 : ZEV := ⟨([180, 0, 145], .getfield 145, 3), by decide +kernel⟩
noncomputable def ev_451 : ZEV := ⟨([54, 11], .istore 11, 2), by decide +kernel⟩
noncomputable def ev_452 : ZEV := ⟨([180, 0, 148], .getfield 148, 3), by decide +kernel⟩
noncomputable def ev_453 : ZEV := ⟨([21, 11], .iload 11, 2), by decide +kernel⟩
noncomputable def ev_454 : ZEV := ⟨([55, 12], .lstore 12, 2), by decide +kernel⟩
noncomputable def ev_455 : ZEV := ⟨([22, 12], .lload 12, 2), by decide +kernel⟩
noncomputable def ev_456 : ZEV := ⟨([180, 0, 151], .getfield 151, 3), by decide +kernel⟩
noncomputable def ev_457 : ZEV := ⟨([97], .ladd, 1), by decide +kernel⟩
noncomputable def ev_458 : ZEV := ⟨([184, 0, 154], .invokestatic 154, 3), by decide +kernel⟩
noncomputable def ev_459 : ZEV := ⟨([55, 14], .lstore 14, 2), by decide +kernel⟩
noncomputable def ev_460 : ZEV := ⟨([22, 6], .lload 6, 2), by decide +kernel⟩
noncomputable def ev_461 : ZEV := ⟨([22, 14], .lload 14, 2), by decide +kernel⟩
noncomputable def ev_462 : ZEV := ⟨([22, 8], .lload 8, 2), by decide +kernel⟩
noncomputable def ev_463 : ZEV := ⟨([184, 0, 164], .invokestatic 164, 3), by decide +kernel⟩
noncomputable def ev_464 : ZEV := ⟨([132, 10, 1], .iinc 10 1, 3), by decide +kernel⟩
noncomputable def ev_465 : ZEV := ⟨([180, 0, 29], .getfield 29, 3), by decide +kernel⟩
noncomputable def ev_466 : ZEV := ⟨([180, 0, 167], .getfield 167, 3), by decide +kernel⟩
noncomputable def ev_467 : ZEV := ⟨([182, 0, 170], .invokevirtual 170, 3), by decide +kernel⟩
noncomputable def ev_468 : ZEV := ⟨([16, 7], .bipush 7, 2), by decide +kernel⟩
noncomputable def ev_469 : ZEV := ⟨([16, 8], .bipush 8, 2), by decide +kernel⟩
noncomputable def ev_470 : ZEV := ⟨([162, 0, 120], .if_icmp .ge 120, 3), by decide +kernel⟩
noncomputable def ev_471 : ZEV := ⟨([162, 0, 38], .if_icmp .ge 38, 3), by decide +kernel⟩
noncomputable def ev_472 : ZEV := ⟨([162, 0, 9], .if_icmp .ge 9, 3), by decide +kernel⟩
noncomputable def ev_473 : ZEV := ⟨([167, 0, 13], .goto 13, 3), by decide +kernel⟩
noncomputable def ev_474 : ZEV := ⟨([167, 0, 63], .goto 63, 3), by decide +kernel⟩
noncomputable def ev_475 : ZEV := ⟨([160, 0, 23], .if_icmp .ne 23, 3), by decide +kernel⟩
noncomputable def ev_476 : ZEV := ⟨([117], .lneg, 1), by decide +kernel⟩
noncomputable def ev_477 : ZEV := ⟨([167, 0, 36], .goto 36, 3), by decide +kernel⟩
noncomputable def ev_478 : ZEV := ⟨([132, 3, 255], .iinc 3 (-1), 3), by decide +kernel⟩
noncomputable def ev_479 : ZEV := ⟨([184, 0, 176], .invokestatic 176, 3), by decide +kernel⟩
noncomputable def ev_480 : ZEV := ⟨([167, 255, 136], .goto (-120), 3), by decide +kernel⟩
noncomputable def ev_481 : ZEV := ⟨([173], .lreturn, 1), by decide +kernel⟩
noncomputable def ev_482 : ZEV := ⟨([26], .iload_n 0, 1), by decide +kernel⟩
noncomputable def ev_483 : ZEV := ⟨([31], .lload_n 1, 1), by decide +kernel⟩
noncomputable def ev_484 : ZEV := ⟨([33], .lload_n 3, 1), by decide +kernel⟩
noncomputable def ev_485 : ZEV := ⟨([101], .lsub, 1), by decide +kernel⟩
noncomputable def ev_486 : ZEV := ⟨([156, 0, 7], .ifCond .ge 7, 3), by decide +kernel⟩
noncomputable def ev_487 : ZEV := ⟨([30], .lload_n 0, 1), by decide +kernel⟩
noncomputable def ev_488 : ZEV := ⟨([153, 0, 19], .ifCond .eq 19, 3), by decide +kernel⟩
noncomputable def ev_489 : ZEV := ⟨([32], .lload_n 2, 1), by decide +kernel⟩
noncomputable def ev_490 : ZEV := ⟨([109], .ldiv, 1), by decide +kernel⟩
noncomputable def ev_491 : ZEV := ⟨([157, 0, 7], .ifCond .gt 7, 3), by decide +kernel⟩
noncomputable def ev_492 : ZEV := ⟨([105], .lmul, 1), by decide +kernel⟩
noncomputable def ev_493 : ZEV := ⟨([158, 0, 7], .ifCond .le 7, 3), by decide +kernel⟩
noncomputable def ev_494 : ZEV := ⟨([181, 0, 186], .putfield 186, 3), by decide +kernel⟩
noncomputable def ev_495 : ZEV := ⟨([181, 0, 189], .putfield 189, 3), by decide +kernel⟩
noncomputable def ev_496 : ZEV := ⟨([181, 0, 192], .putfield 192, 3), by decide +kernel⟩
noncomputable def ev_497 : ZEV := ⟨([184, 0, 195], .invokestatic 195, 3), by decide +kernel⟩
noncomputable def ev_498 : ZEV := ⟨([162, 0, 56], .if_icmp .ge 56, 3), by decide +kernel⟩
noncomputable def ev_499 : ZEV := ⟨([162, 0, 36], .if_icmp .ge 36, 3), by decide +kernel⟩
noncomputable def ev_500 : ZEV := ⟨([158, 0, 31], .ifCond .le 31, 3), by decide +kernel⟩
noncomputable def ev_501 : ZEV := ⟨([22, 5], .lload 5, 2), by decide +kernel⟩
noncomputable def ev_502 : ZEV := ⟨([180, 0, 192], .getfield 192, 3), by decide +kernel⟩
noncomputable def ev_503 : ZEV := ⟨([167, 255, 200], .goto (-56), 3), by decide +kernel⟩
noncomputable def ev_504 : ZEV := ⟨([162, 0, 5], .if_icmp .ge 5, 3), by decide +kernel⟩
noncomputable def ev_505 : ZEV := ⟨([162, 0, 67], .if_icmp .ge 67, 3), by decide +kernel⟩
noncomputable def ev_506 : ZEV := ⟨([180, 0, 203], .getfield 203, 3), by decide +kernel⟩
noncomputable def ev_507 : ZEV := ⟨([184, 0, 206], .invokestatic 206, 3), by decide +kernel⟩
noncomputable def ev_508 : ZEV := ⟨([112], .irem, 1), by decide +kernel⟩
noncomputable def ev_509 : ZEV := ⟨([184, 0, 209], .invokestatic 209, 3), by decide +kernel⟩
noncomputable def ev_510 : ZEV := ⟨([167, 255, 187], .goto (-69), 3), by decide +kernel⟩
noncomputable def ev_511 : ZEV := ⟨([162, 0, 42], .if_icmp .ge 42, 3), by decide +kernel⟩
noncomputable def ev_512 : ZEV := ⟨([180, 0, 186], .getfield 186, 3), by decide +kernel⟩
noncomputable def ev_513 : ZEV := ⟨([20, 0, 214], .ldc2_w 214, 3), by decide +kernel⟩
noncomputable def ev_514 : ZEV := ⟨([156, 0, 6], .ifCond .ge 6, 3), by decide +kernel⟩
noncomputable def ev_515 : ZEV := ⟨([167, 255, 214], .goto (-42), 3), by decide +kernel⟩
noncomputable def ev_516 : ZEV := ⟨([180, 0, 189], .getfield 189, 3), by decide +kernel⟩
noncomputable def ev_517 : ZEV := ⟨([65], .lstore_n 2, 1), by decide +kernel⟩
noncomputable def ev_518 : ZEV := ⟨([16, 30], .bipush 30, 2), by decide +kernel⟩
noncomputable def ev_519 : ZEV := ⟨([125], .lushr, 1), by decide +kernel⟩
noncomputable def ev_520 : ZEV := ⟨([131], .lxor, 1), by decide +kernel⟩
noncomputable def ev_521 : ZEV := ⟨([20, 0, 219], .ldc2_w 219, 3), by decide +kernel⟩
noncomputable def ev_522 : ZEV := ⟨([16, 27], .bipush 27, 2), by decide +kernel⟩
noncomputable def ev_523 : ZEV := ⟨([20, 0, 221], .ldc2_w 221, 3), by decide +kernel⟩
noncomputable def ev_524 : ZEV := ⟨([16, 31], .bipush 31, 2), by decide +kernel⟩
noncomputable def ev_525 : ZEV := ⟨([16, 33], .bipush 33, 2), by decide +kernel⟩
noncomputable def ev_526 : ZEV := ⟨([20, 0, 223], .ldc2_w 223, 3), by decide +kernel⟩
noncomputable def ev_527 : ZEV := ⟨([113], .lrem, 1), by decide +kernel⟩
noncomputable def ev_528 : ZEV := ⟨([17, 4, 0], .sipush 1024, 3), by decide +kernel⟩
noncomputable def ev_529 : ZEV := ⟨([17, 0, 160], .sipush 160, 3), by decide +kernel⟩
noncomputable def ev_530 : ZEV := ⟨([181, 0, 31], .putfield 31, 3), by decide +kernel⟩
noncomputable def ev_531 : ZEV := ⟨([181, 0, 34], .putfield 34, 3), by decide +kernel⟩
noncomputable def ev_532 : ZEV := ⟨([181, 0, 37], .putfield 37, 3), by decide +kernel⟩
noncomputable def ev_533 : ZEV := ⟨([181, 0, 40], .putfield 40, 3), by decide +kernel⟩
noncomputable def ev_534 : ZEV := ⟨([181, 0, 43], .putfield 43, 3), by decide +kernel⟩
noncomputable def ev_535 : ZEV := ⟨([181, 0, 47], .putfield 47, 3), by decide +kernel⟩
noncomputable def ev_536 : ZEV := ⟨([160, 0, 24], .if_icmp .ne 24, 3), by decide +kernel⟩
noncomputable def ev_537 : ZEV := ⟨([180, 0, 55], .getfield 55, 3), by decide +kernel⟩
noncomputable def ev_538 : ZEV := ⟨([160, 0, 16], .if_icmp .ne 16, 3), by decide +kernel⟩
noncomputable def ev_539 : ZEV := ⟨([180, 0, 58], .getfield 58, 3), by decide +kernel⟩
noncomputable def ev_540 : ZEV := ⟨([160, 0, 8], .if_icmp .ne 8, 3), by decide +kernel⟩
noncomputable def ev_541 : ZEV := ⟨([180, 0, 61], .getfield 61, 3), by decide +kernel⟩
noncomputable def ev_542 : ZEV := ⟨([181, 0, 55], .putfield 55, 3), by decide +kernel⟩
noncomputable def ev_543 : ZEV := ⟨([181, 0, 58], .putfield 58, 3), by decide +kernel⟩
noncomputable def ev_544 : ZEV := ⟨([181, 0, 61], .putfield 61, 3), by decide +kernel⟩
noncomputable def ev_545 : ZEV := ⟨([18, 69], .ldc 69, 2), by decide +kernel⟩
noncomputable def ev_546 : ZEV := ⟨([162, 0, 34], .if_icmp .ge 34, 3), by decide +kernel⟩
noncomputable def ev_547 : ZEV := ⟨([182, 0, 70], .invokevirtual 70, 3), by decide +kernel⟩
noncomputable def ev_548 : ZEV := ⟨([153, 0, 25], .ifCond .eq 25, 3), by decide +kernel⟩
noncomputable def ev_549 : ZEV := ⟨([182, 0, 74], .invokevirtual 74, 3), by decide +kernel⟩
noncomputable def ev_550 : ZEV := ⟨([184, 0, 78], .invokestatic 78, 3), by decide +kernel⟩
noncomputable def ev_551 : ZEV := ⟨([180, 0, 84], .getfield 84, 3), by decide +kernel⟩
noncomputable def ev_552 : ZEV := ⟨([153, 0, 64], .ifCond .eq 64, 3), by decide +kernel⟩
noncomputable def ev_553 : ZEV := ⟨([158, 0, 55], .ifCond .le 55, 3), by decide +kernel⟩
noncomputable def ev_554 : ZEV := ⟨([180, 0, 94], .getfield 94, 3), by decide +kernel⟩
noncomputable def ev_555 : ZEV := ⟨([180, 0, 97], .getfield 97, 3), by decide +kernel⟩
noncomputable def ev_556 : ZEV := ⟨([162, 0, 115], .if_icmp .ge 115, 3), by decide +kernel⟩
noncomputable def ev_557 : ZEV := ⟨([153, 0, 110], .ifCond .eq 110, 3), by decide +kernel⟩
noncomputable def ev_558 : ZEV := ⟨([154, 0, 102], .ifCond .ne 102, 3), by decide +kernel⟩
noncomputable def ev_559 : ZEV := ⟨([153, 0, 80], .ifCond .eq 80, 3), by decide +kernel⟩
noncomputable def ev_560 : ZEV := ⟨([184, 0, 100], .invokestatic 100, 3), by decide +kernel⟩
noncomputable def ev_561 : ZEV := ⟨([153, 0, 27], .ifCond .eq 27, 3), by decide +kernel⟩
noncomputable def ev_562 : ZEV := ⟨([167, 255, 230], .goto (-26), 3), by decide +kernel⟩
noncomputable def ev_563 : ZEV := ⟨([167, 255, 177], .goto (-79), 3), by decide +kernel⟩
noncomputable def ev_564 : ZEV := ⟨([167, 255, 140], .goto (-116), 3), by decide +kernel⟩
noncomputable def ev_565 : ZEV := ⟨([181, 0, 104], .putfield 104, 3), by decide +kernel⟩
noncomputable def ev_566 : ZEV := ⟨([18, 107], .ldc 107, 2), by decide +kernel⟩
noncomputable def ev_567 : ZEV := ⟨([162, 0, 47], .if_icmp .ge 47, 3), by decide +kernel⟩
noncomputable def ev_568 : ZEV := ⟨([159, 0, 41], .if_icmp .eq 41, 3), by decide +kernel⟩
noncomputable def ev_569 : ZEV := ⟨([184, 0, 108], .invokestatic 108, 3), by decide +kernel⟩
noncomputable def ev_570 : ZEV := ⟨([167, 255, 208], .goto (-48), 3), by decide +kernel⟩
noncomputable def ev_571 : ZEV := ⟨([162, 0, 108], .if_icmp .ge 108, 3), by decide +kernel⟩
noncomputable def ev_572 : ZEV := ⟨([159, 0, 102], .if_icmp .eq 102, 3), by decide +kernel⟩
noncomputable def ev_573 : ZEV := ⟨([20, 0, 117], .ldc2_w 117, 3), by decide +kernel⟩
noncomputable def ev_574 : ZEV := ⟨([55, 5], .lstore 5, 2), by decide +kernel⟩
noncomputable def ev_575 : ZEV := ⟨([180, 0, 40], .getfield 40, 3), by decide +kernel⟩
noncomputable def ev_576 : ZEV := ⟨([18, 123], .ldc 123, 2), by decide +kernel⟩
noncomputable def ev_577 : ZEV := ⟨([18, 124], .ldc 124, 2), by decide +kernel⟩
noncomputable def ev_578 : ZEV := ⟨([158, 0, 39], .ifCond .le 39, 3), by decide +kernel⟩
noncomputable def ev_579 : ZEV := ⟨([180, 0, 125], .getfield 125, 3), by decide +kernel⟩
noncomputable def ev_580 : ZEV := ⟨([182, 0, 132], .invokevirtual 132, 3), by decide +kernel⟩
noncomputable def ev_581 : ZEV := ⟨([16, 16], .bipush 16, 2), by decide +kernel⟩
noncomputable def ev_582 : ZEV := ⟨([108], .idiv, 1), by decide +kernel⟩
noncomputable def ev_583 : ZEV := ⟨([167, 255, 218], .goto (-38), 3), by decide +kernel⟩
noncomputable def ev_584 : ZEV := ⟨([180, 0, 136], .getfield 136, 3), by decide +kernel⟩
noncomputable def ev_585 : ZEV := ⟨([162, 0, 31], .if_icmp .ge 31, 3), by decide +kernel⟩
noncomputable def ev_586 : ZEV := ⟨([180, 0, 37], .getfield 37, 3), by decide +kernel⟩
noncomputable def ev_587 : ZEV := ⟨([181, 0, 136], .putfield 136, 3), by decide +kernel⟩
noncomputable def ev_588 : ZEV := ⟨([162, 0, 94], .if_icmp .ge 94, 3), by decide +kernel⟩
noncomputable def ev_589 : ZEV := ⟨([153, 0, 38], .ifCond .eq 38, 3), by decide +kernel⟩
noncomputable def ev_590 : ZEV := ⟨([180, 0, 139], .getfield 139, 3), by decide +kernel⟩
noncomputable def ev_591 : ZEV := ⟨([182, 0, 142], .invokevirtual 142, 3), by decide +kernel⟩
noncomputable def ev_592 : ZEV := ⟨([167, 0, 44], .goto 44, 3), by decide +kernel⟩
noncomputable def ev_593 : ZEV := ⟨([159, 0, 33], .if_icmp .eq 33, 3), by decide +kernel⟩
noncomputable def ev_594 : ZEV := ⟨([156, 0, 23], .ifCond .ge 23, 3), by decide +kernel⟩
noncomputable def ev_595 : ZEV := ⟨([167, 255, 159], .goto (-97), 3), by decide +kernel⟩
noncomputable def ev_596 : ZEV := ⟨([184, 0, 146], .invokestatic 146, 3), by decide +kernel⟩
noncomputable def ev_597 : ZEV := ⟨([182, 0, 149], .invokevirtual 149, 3), by decide +kernel⟩
noncomputable def ev_598 : ZEV := ⟨([162, 0, 118], .if_icmp .ge 118, 3), by decide +kernel⟩
noncomputable def ev_599 : ZEV := ⟨([180, 0, 34], .getfield 34, 3), by decide +kernel⟩
noncomputable def ev_600 : ZEV := ⟨([156, 0, 20], .ifCond .ge 20, 3), by decide +kernel⟩
noncomputable def ev_601 : ZEV := ⟨([161, 0, 14], .if_icmp .lt 14, 3), by decide +kernel⟩
noncomputable def ev_602 : ZEV := ⟨([182, 0, 152], .invokevirtual 152, 3), by decide +kernel⟩
noncomputable def ev_603 : ZEV := ⟨([167, 0, 35], .goto 35, 3), by decide +kernel⟩
noncomputable def ev_604 : ZEV := ⟨([158, 0, 28], .ifCond .le 28, 3), by decide +kernel⟩
noncomputable def ev_605 : ZEV := ⟨([161, 0, 17], .if_icmp .lt 17, 3), by decide +kernel⟩
noncomputable def ev_606 : ZEV := ⟨([167, 255, 135], .goto (-121), 3), by decide +kernel⟩
noncomputable def ev_607 : ZEV := ⟨([182, 0, 155], .invokevirtual 155, 3), by decide +kernel⟩
noncomputable def ev_608 : ZEV := ⟨([160, 0, 4], .if_icmp .ne 4, 3), by decide +kernel⟩
noncomputable def ev_609 : ZEV := ⟨([182, 0, 158], .invokevirtual 158, 3), by decide +kernel⟩
noncomputable def ev_610 : ZEV := ⟨([167, 255, 225], .goto (-31), 3), by decide +kernel⟩
noncomputable def ev_611 : ZEV := ⟨([162, 0, 64], .if_icmp .ge 64, 3), by decide +kernel⟩
noncomputable def ev_612 : ZEV := ⟨([162, 0, 39], .if_icmp .ge 39, 3), by decide +kernel⟩
noncomputable def ev_613 : ZEV := ⟨([161, 0, 7], .if_icmp .lt 7, 3), by decide +kernel⟩
noncomputable def ev_614 : ZEV := ⟨([20, 0, 162], .ldc2_w 162, 3), by decide +kernel⟩
noncomputable def ev_615 : ZEV := ⟨([162, 0, 60], .if_icmp .ge 60, 3), by decide +kernel⟩
noncomputable def ev_616 : ZEV := ⟨([163, 0, 42], .if_icmp .gt 42, 3), by decide +kernel⟩
noncomputable def ev_617 : ZEV := ⟨([153, 0, 28], .ifCond .eq 28, 3), by decide +kernel⟩
noncomputable def ev_618 : ZEV := ⟨([159, 0, 20], .if_icmp .eq 20, 3), by decide +kernel⟩
noncomputable def ev_619 : ZEV := ⟨([167, 255, 196], .goto (-60), 3), by decide +kernel⟩
noncomputable def ev_620 : ZEV := ⟨([163, 0, 43], .if_icmp .gt 43, 3), by decide +kernel⟩
noncomputable def ev_621 : ZEV := ⟨([153, 0, 39], .ifCond .eq 39, 3), by decide +kernel⟩
noncomputable def ev_622 : ZEV := ⟨([162, 0, 19], .if_icmp .ge 19, 3), by decide +kernel⟩
noncomputable def ev_623 : ZEV := ⟨([182, 0, 164], .invokevirtual 164, 3), by decide +kernel⟩
noncomputable def ev_624 : ZEV := ⟨([167, 255, 234], .goto (-22), 3), by decide +kernel⟩
noncomputable def ev_625 : ZEV := ⟨([161, 0, 74], .if_icmp .lt 74, 3), by decide +kernel⟩
noncomputable def ev_626 : ZEV := ⟨([153, 0, 61], .ifCond .eq 61, 3), by decide +kernel⟩
noncomputable def ev_627 : ZEV := ⟨([156, 0, 36], .ifCond .ge 36, 3), by decide +kernel⟩
noncomputable def ev_628 : ZEV := ⟨([161, 0, 76], .if_icmp .lt 76, 3), by decide +kernel⟩
noncomputable def ev_629 : ZEV := ⟨([153, 0, 62], .ifCond .eq 62, 3), by decide +kernel⟩
noncomputable def ev_630 : ZEV := ⟨([156, 0, 37], .ifCond .ge 37, 3), by decide +kernel⟩
noncomputable def ev_631 : ZEV := ⟨([162, 0, 105], .if_icmp .ge 105, 3), by decide +kernel⟩
noncomputable def ev_632 : ZEV := ⟨([159, 0, 95], .if_icmp .eq 95, 3), by decide +kernel⟩
noncomputable def ev_633 : ZEV := ⟨([167, 0, 10], .goto 10, 3), by decide +kernel⟩
noncomputable def ev_634 : ZEV := ⟨([153, 0, 13], .ifCond .eq 13, 3), by decide +kernel⟩
noncomputable def ev_635 : ZEV := ⟨([167, 255, 150], .goto (-106), 3), by decide +kernel⟩
noncomputable def ev_636 : ZEV := ⟨([162, 0, 91], .if_icmp .ge 91, 3), by decide +kernel⟩
noncomputable def ev_637 : ZEV := ⟨([159, 0, 81], .if_icmp .eq 81, 3), by decide +kernel⟩
noncomputable def ev_638 : ZEV := ⟨([167, 0, 5], .goto 5, 3), by decide +kernel⟩
noncomputable def ev_639 : ZEV := ⟨([167, 255, 164], .goto (-92), 3), by decide +kernel⟩
noncomputable def ev_640 : ZEV := ⟨([180, 0, 47], .getfield 47, 3), by decide +kernel⟩
noncomputable def ev_641 : ZEV := ⟨([181, 0, 167], .putfield 167, 3), by decide +kernel⟩
noncomputable def ev_642 : ZEV := ⟨([181, 0, 170], .putfield 170, 3), by decide +kernel⟩
noncomputable def ev_643 : ZEV := ⟨([162, 0, 28], .if_icmp .ge 28, 3), by decide +kernel⟩
noncomputable def ev_644 : ZEV := ⟨([184, 0, 173], .invokestatic 173, 3), by decide +kernel⟩
noncomputable def ev_645 : ZEV := ⟨([167, 255, 226], .goto (-30), 3), by decide +kernel⟩
noncomputable def ev_646 : ZEV := ⟨([162, 0, 100], .if_icmp .ge 100, 3), by decide +kernel⟩
noncomputable def ev_647 : ZEV := ⟨([153, 0, 86], .ifCond .eq 86, 3), by decide +kernel⟩
noncomputable def ev_648 : ZEV := ⟨([159, 0, 63], .if_icmp .eq 63, 3), by decide +kernel⟩
noncomputable def ev_649 : ZEV := ⟨([153, 0, 12], .ifCond .eq 12, 3), by decide +kernel⟩
noncomputable def ev_650 : ZEV := ⟨([167, 255, 154], .goto (-102), 3), by decide +kernel⟩
noncomputable def ev_651 : ZEV := ⟨([162, 0, 49], .if_icmp .ge 49, 3), by decide +kernel⟩
noncomputable def ev_652 : ZEV := ⟨([180, 0, 170], .getfield 170, 3), by decide +kernel⟩
noncomputable def ev_653 : ZEV := ⟨([167, 255, 207], .goto (-49), 3), by decide +kernel⟩
noncomputable def ev_654 : ZEV := ⟨([180, 0, 177], .getfield 177, 3), by decide +kernel⟩
noncomputable def ev_655 : ZEV := ⟨([16, 13], .bipush 13, 2), by decide +kernel⟩
noncomputable def ev_656 : ZEV := ⟨([162, 0, 7], .if_icmp .ge 7, 3), by decide +kernel⟩
noncomputable def ev_657 : ZEV := ⟨([181, 0, 21], .putfield 21, 3), by decide +kernel⟩
noncomputable def ev_658 : ZEV := ⟨([181, 0, 24], .putfield 24, 3), by decide +kernel⟩
noncomputable def ev_659 : ZEV := ⟨([181, 0, 27], .putfield 27, 3), by decide +kernel⟩
noncomputable def ev_660 : ZEV := ⟨([181, 0, 30], .putfield 30, 3), by decide +kernel⟩
noncomputable def ev_661 : ZEV := ⟨([181, 0, 33], .putfield 33, 3), by decide +kernel⟩
noncomputable def ev_662 : ZEV := ⟨([181, 0, 36], .putfield 36, 3), by decide +kernel⟩
noncomputable def ev_663 : ZEV := ⟨([181, 0, 42], .putfield 42, 3), by decide +kernel⟩
noncomputable def ev_664 : ZEV := ⟨([181, 0, 45], .putfield 45, 3), by decide +kernel⟩
noncomputable def ev_665 : ZEV := ⟨([181, 0, 48], .putfield 48, 3), by decide +kernel⟩
noncomputable def ev_666 : ZEV := ⟨([181, 0, 51], .putfield 51, 3), by decide +kernel⟩
noncomputable def ev_667 : ZEV := ⟨([184, 0, 55], .invokestatic 55, 3), by decide +kernel⟩
noncomputable def ev_668 : ZEV := ⟨([181, 0, 64], .putfield 64, 3), by decide +kernel⟩
noncomputable def ev_669 : ZEV := ⟨([181, 0, 67], .putfield 67, 3), by decide +kernel⟩
noncomputable def ev_670 : ZEV := ⟨([181, 0, 70], .putfield 70, 3), by decide +kernel⟩
noncomputable def ev_671 : ZEV := ⟨([180, 0, 64], .getfield 64, 3), by decide +kernel⟩
noncomputable def ev_672 : ZEV := ⟨([180, 0, 67], .getfield 67, 3), by decide +kernel⟩
noncomputable def ev_673 : ZEV := ⟨([180, 0, 70], .getfield 70, 3), by decide +kernel⟩
noncomputable def ev_674 : ZEV := ⟨([184, 0, 73], .invokestatic 73, 3), by decide +kernel⟩
noncomputable def ev_675 : ZEV := ⟨([180, 0, 21], .getfield 21, 3), by decide +kernel⟩
noncomputable def ev_676 : ZEV := ⟨([180, 0, 24], .getfield 24, 3), by decide +kernel⟩
noncomputable def ev_677 : ZEV := ⟨([180, 0, 27], .getfield 27, 3), by decide +kernel⟩
noncomputable def ev_678 : ZEV := ⟨([155, 0, 15], .ifCond .lt 15, 3), by decide +kernel⟩
noncomputable def ev_679 : ZEV := ⟨([182, 0, 79], .invokevirtual 79, 3), by decide +kernel⟩
noncomputable def ev_680 : ZEV := ⟨([153, 0, 20], .ifCond .eq 20, 3), by decide +kernel⟩
noncomputable def ev_681 : ZEV := ⟨([159, 0, 7], .if_icmp .eq 7, 3), by decide +kernel⟩
noncomputable def ev_682 : ZEV := ⟨([155, 0, 25], .ifCond .lt 25, 3), by decide +kernel⟩
noncomputable def ev_683 : ZEV := ⟨([162, 0, 17], .if_icmp .ge 17, 3), by decide +kernel⟩
noncomputable def ev_684 : ZEV := ⟨([159, 0, 22], .if_icmp .eq 22, 3), by decide +kernel⟩
noncomputable def ev_685 : ZEV := ⟨([60], .istore_n 1, 1), by decide +kernel⟩
noncomputable def ev_686 : ZEV := ⟨([162, 0, 20], .if_icmp .ge 20, 3), by decide +kernel⟩
noncomputable def ev_687 : ZEV := ⟨([153, 0, 6], .ifCond .eq 6, 3), by decide +kernel⟩
noncomputable def ev_688 : ZEV := ⟨([132, 1, 1], .iinc 1 1, 3), by decide +kernel⟩
noncomputable def ev_689 : ZEV := ⟨([162, 0, 41], .if_icmp .ge 41, 3), by decide +kernel⟩
noncomputable def ev_690 : ZEV := ⟨([160, 0, 12], .if_icmp .ne 12, 3), by decide +kernel⟩
noncomputable def ev_691 : ZEV := ⟨([160, 0, 5], .if_icmp .ne 5, 3), by decide +kernel⟩
noncomputable def ev_692 : ZEV := ⟨([180, 0, 45], .getfield 45, 3), by decide +kernel⟩
noncomputable def ev_693 : ZEV := ⟨([167, 255, 224], .goto (-32), 3), by decide +kernel⟩
noncomputable def ev_694 : ZEV := ⟨([180, 0, 51], .getfield 51, 3), by decide +kernel⟩
noncomputable def ev_695 : ZEV := ⟨([180, 0, 30], .getfield 30, 3), by decide +kernel⟩
noncomputable def ev_696 : ZEV := ⟨([180, 0, 33], .getfield 33, 3), by decide +kernel⟩
noncomputable def ev_697 : ZEV := ⟨([180, 0, 36], .getfield 36, 3), by decide +kernel⟩
noncomputable def ev_698 : ZEV := ⟨([159, 0, 19], .if_icmp .eq 19, 3), by decide +kernel⟩
noncomputable def ev_699 : ZEV := ⟨([155, 0, 83], .ifCond .lt 83, 3), by decide +kernel⟩
noncomputable def ev_700 : ZEV := ⟨([159, 0, 67], .if_icmp .eq 67, 3), by decide +kernel⟩
noncomputable def ev_701 : ZEV := ⟨([180, 0, 48], .getfield 48, 3), by decide +kernel⟩
noncomputable def ev_702 : ZEV := ⟨([132, 1, 255], .iinc 1 (-1), 3), by decide +kernel⟩
noncomputable def ev_703 : ZEV := ⟨([159, 0, 27], .if_icmp .eq 27, 3), by decide +kernel⟩
noncomputable def ev_704 : ZEV := ⟨([181, 0, 38], .putfield 38, 3), by decide +kernel⟩
noncomputable def ev_705 : ZEV := ⟨([180, 0, 41], .getfield 41, 3), by decide +kernel⟩
noncomputable def ev_706 : ZEV := ⟨([160, 0, 11], .if_icmp .ne 11, 3), by decide +kernel⟩
noncomputable def ev_707 : ZEV := ⟨([180, 0, 46], .getfield 46, 3), by decide +kernel⟩
noncomputable def ev_708 : ZEV := ⟨([181, 0, 46], .putfield 46, 3), by decide +kernel⟩
noncomputable def ev_709 : ZEV := ⟨([20, 0, 49], .ldc2_w 49, 3), by decide +kernel⟩
noncomputable def ev_710 : ZEV := ⟨([184, 0, 51], .invokestatic 51, 3), by decide +kernel⟩
noncomputable def ev_711 : ZEV := ⟨([167, 255, 233], .goto (-23), 3), by decide +kernel⟩
noncomputable def ev_712 : ZEV := ⟨([182, 0, 67], .invokevirtual 67, 3), by decide +kernel⟩
noncomputable def ev_713 : ZEV := ⟨([167, 0, 22], .goto 22, 3), by decide +kernel⟩
noncomputable def ev_714 : ZEV := ⟨([20, 0, 71], .ldc2_w 71, 3), by decide +kernel⟩
noncomputable def ev_715 : ZEV := ⟨([20, 0, 73], .ldc2_w 73, 3), by decide +kernel⟩
noncomputable def ev_716 : ZEV := ⟨([180, 0, 75], .getfield 75, 3), by decide +kernel⟩
noncomputable def ev_717 : ZEV := ⟨([180, 0, 78], .getfield 78, 3), by decide +kernel⟩
noncomputable def ev_718 : ZEV := ⟨([180, 0, 81], .getfield 81, 3), by decide +kernel⟩
noncomputable def ev_719 : ZEV := ⟨([167, 255, 217], .goto (-39), 3), by decide +kernel⟩
noncomputable def ev_720 : ZEV := ⟨([167, 255, 138], .goto (-118), 3), by decide +kernel⟩
noncomputable def ev_721 : ZEV := ⟨([162, 0, 46], .if_icmp .ge 46, 3), by decide +kernel⟩
noncomputable def ev_722 : ZEV := ⟨([184, 0, 87], .invokestatic 87, 3), by decide +kernel⟩
noncomputable def ev_723 : ZEV := ⟨([180, 0, 90], .getfield 90, 3), by decide +kernel⟩
noncomputable def ev_724 : ZEV := ⟨([162, 0, 57], .if_icmp .ge 57, 3), by decide +kernel⟩
noncomputable def ev_725 : ZEV := ⟨([182, 0, 93], .invokevirtual 93, 3), by decide +kernel⟩
noncomputable def ev_726 : ZEV := ⟨([153, 0, 42], .ifCond .eq 42, 3), by decide +kernel⟩
noncomputable def ev_727 : ZEV := ⟨([160, 0, 15], .if_icmp .ne 15, 3), by decide +kernel⟩
noncomputable def ev_728 : ZEV := ⟨([20, 0, 100], .ldc2_w 100, 3), by decide +kernel⟩
noncomputable def ev_729 : ZEV := ⟨([180, 0, 102], .getfield 102, 3), by decide +kernel⟩
noncomputable def ev_730 : ZEV := ⟨([167, 255, 211], .goto (-45), 3), by decide +kernel⟩
noncomputable def ev_731 : ZEV := ⟨([182, 0, 105], .invokevirtual 105, 3), by decide +kernel⟩
noncomputable def ev_732 : ZEV := ⟨([16, 20], .bipush 20, 2), by decide +kernel⟩
noncomputable def ev_733 : ZEV := ⟨([182, 0, 108], .invokevirtual 108, 3), by decide +kernel⟩
noncomputable def ev_734 : ZEV := ⟨([181, 0, 102], .putfield 102, 3), by decide +kernel⟩
noncomputable def ev_735 : ZEV := ⟨([182, 0, 115], .invokevirtual 115, 3), by decide +kernel⟩
noncomputable def ev_736 : ZEV := ⟨([184, 0, 119], .invokestatic 119, 3), by decide +kernel⟩
noncomputable def ev_737 : ZEV := ⟨([162, 0, 37], .if_icmp .ge 37, 3), by decide +kernel⟩
noncomputable def ev_738 : ZEV := ⟨([180, 0, 130], .getfield 130, 3), by decide +kernel⟩
noncomputable def ev_739 : ZEV := ⟨([153, 0, 79], .ifCond .eq 79, 3), by decide +kernel⟩
noncomputable def ev_740 : ZEV := ⟨([159, 0, 49], .if_icmp .eq 49, 3), by decide +kernel⟩
noncomputable def ev_741 : ZEV := ⟨([154, 0, 39], .ifCond .ne 39, 3), by decide +kernel⟩
noncomputable def ev_742 : ZEV := ⟨([159, 0, 15], .if_icmp .eq 15, 3), by decide +kernel⟩
noncomputable def ev_743 : ZEV := ⟨([182, 0, 133], .invokevirtual 133, 3), by decide +kernel⟩
noncomputable def ev_744 : ZEV := ⟨([167, 255, 178], .goto (-78), 3), by decide +kernel⟩
noncomputable def ev_745 : ZEV := ⟨([156, 0, 28], .ifCond .ge 28, 3), by decide +kernel⟩
noncomputable def ev_746 : ZEV := ⟨([158, 0, 19], .ifCond .le 19, 3), by decide +kernel⟩
noncomputable def ev_747 : ZEV := ⟨([182, 0, 137], .invokevirtual 137, 3), by decide +kernel⟩
noncomputable def ev_748 : ZEV := ⟨([182, 0, 140], .invokevirtual 140, 3), by decide +kernel⟩
noncomputable def ev_749 : ZEV := ⟨([158, 0, 17], .ifCond .le 17, 3), by decide +kernel⟩
noncomputable def ev_750 : ZEV := ⟨([157, 0, 31], .ifCond .gt 31, 3), by decide +kernel⟩
noncomputable def ev_751 : ZEV := ⟨([180, 0, 38], .getfield 38, 3), by decide +kernel⟩
noncomputable def ev_752 : ZEV := ⟨([167, 255, 216], .goto (-40), 3), by decide +kernel⟩
noncomputable def ev_753 : ZEV := ⟨([180, 0, 144], .getfield 144, 3), by decide +kernel⟩
noncomputable def ev_754 : ZEV := ⟨([180, 0, 147], .getfield 147, 3), by decide +kernel⟩
noncomputable def ev_755 : ZEV := ⟨([160, 0, 18], .if_icmp .ne 18, 3), by decide +kernel⟩
noncomputable def ev_756 : ZEV := ⟨([160, 0, 19], .if_icmp .ne 19, 3), by decide +kernel⟩
noncomputable def ev_757 : ZEV := ⟨([20, 0, 150], .ldc2_w 150, 3), by decide +kernel⟩
noncomputable def ev_758 : ZEV := ⟨([167, 255, 236], .goto (-20), 3), by decide +kernel⟩
noncomputable def ev_759 : ZEV := ⟨([167, 0, 16], .goto 16, 3), by decide +kernel⟩
noncomputable def ev_760 : ZEV := ⟨([187, 0, 9], .new 9, 3), by decide +kernel⟩
noncomputable def ev_761 : ZEV := ⟨([183, 0, 11], .invokespecial 11, 3), by decide +kernel⟩
noncomputable def ev_762 : ZEV := ⟨([181, 0, 12], .putfield 12, 3), by decide +kernel⟩
noncomputable def ev_763 : ZEV := ⟨([17, 1, 192], .sipush 448, 3), by decide +kernel⟩
noncomputable def ev_764 : ZEV := ⟨([180, 0, 12], .getfield 12, 3), by decide +kernel⟩
noncomputable def ev_765 : ZEV := ⟨([17, 15, 160], .sipush 4000, 3), by decide +kernel⟩
noncomputable def ev_766 : ZEV := ⟨([153, 0, 41], .ifCond .eq 41, 3), by decide +kernel⟩
noncomputable def ev_767 : ZEV := ⟨([153, 0, 30], .ifCond .eq 30, 3), by decide +kernel⟩
noncomputable def ev_768 : ZEV := ⟨([184, 0, 36], .invokestatic 36, 3), by decide +kernel⟩
noncomputable def ev_769 : ZEV := ⟨([153, 0, 23], .ifCond .eq 23, 3), by decide +kernel⟩
noncomputable def ev_770 : ZEV := ⟨([184, 0, 39], .invokestatic 39, 3), by decide +kernel⟩
noncomputable def ev_771 : ZEV := ⟨([153, 0, 15], .ifCond .eq 15, 3), by decide +kernel⟩
noncomputable def ev_772 : ZEV := ⟨([184, 0, 42], .invokestatic 42, 3), by decide +kernel⟩
noncomputable def ev_773 : ZEV := ⟨([182, 0, 52], .invokevirtual 52, 3), by decide +kernel⟩
noncomputable def ev_774 : ZEV := ⟨([160, 0, 6], .if_icmp .ne 6, 3), by decide +kernel⟩
noncomputable def ev_775 : ZEV := ⟨([16, 253], .bipush (-3), 2), by decide +kernel⟩
noncomputable def ev_776 : ZEV := ⟨([182, 0, 56], .invokevirtual 56, 3), by decide +kernel⟩
noncomputable def ev_777 : ZEV := ⟨([182, 0, 59], .invokevirtual 59, 3), by decide +kernel⟩
noncomputable def ev_778 : ZEV := ⟨([164, 0, 34], .if_icmp .le 34, 3), by decide +kernel⟩
noncomputable def ev_779 : ZEV := ⟨([17, 109, 96], .sipush 28000, 3), by decide +kernel⟩
noncomputable def ev_780 : ZEV := ⟨([184, 0, 63], .invokestatic 63, 3), by decide +kernel⟩
noncomputable def ev_781 : ZEV := ⟨([184, 0, 69], .invokestatic 69, 3), by decide +kernel⟩
noncomputable def ev_782 : ZEV := ⟨([184, 0, 72], .invokestatic 72, 3), by decide +kernel⟩
noncomputable def ev_783 : ZEV := ⟨([167, 0, 60], .goto 60, 3), by decide +kernel⟩
noncomputable def ev_784 : ZEV := ⟨([182, 0, 81], .invokevirtual 81, 3), by decide +kernel⟩
noncomputable def ev_785 : ZEV := ⟨([167, 0, 50], .goto 50, 3), by decide +kernel⟩
noncomputable def ev_786 : ZEV := ⟨([182, 0, 85], .invokevirtual 85, 3), by decide +kernel⟩
noncomputable def ev_787 : ZEV := ⟨([167, 0, 42], .goto 42, 3), by decide +kernel⟩
noncomputable def ev_788 : ZEV := ⟨([167, 0, 17], .goto 17, 3), by decide +kernel⟩
noncomputable def ev_789 : ZEV := ⟨([180, 0, 93], .getfield 93, 3), by decide +kernel⟩
noncomputable def ev_790 : ZEV := ⟨([180, 0, 96], .getfield 96, 3), by decide +kernel⟩
noncomputable def ev_791 : ZEV := ⟨([180, 0, 99], .getfield 99, 3), by decide +kernel⟩
noncomputable def ev_792 : ZEV := ⟨([180, 0, 105], .getfield 105, 3), by decide +kernel⟩
noncomputable def ev_793 : ZEV := ⟨([180, 0, 108], .getfield 108, 3), by decide +kernel⟩
noncomputable def ev_794 : ZEV := ⟨([181, 0, 108], .putfield 108, 3), by decide +kernel⟩
noncomputable def ev_795 : ZEV := ⟨([180, 0, 111], .getfield 111, 3), by decide +kernel⟩
noncomputable def ev_796 : ZEV := ⟨([181, 0, 111], .putfield 111, 3), by decide +kernel⟩
noncomputable def ev_797 : ZEV := ⟨([167, 0, 27], .goto 27, 3), by decide +kernel⟩
noncomputable def ev_798 : ZEV := ⟨([160, 0, 14], .if_icmp .ne 14, 3), by decide +kernel⟩
noncomputable def ev_799 : ZEV := ⟨([182, 0, 114], .invokevirtual 114, 3), by decide +kernel⟩
noncomputable def ev_800 : ZEV := ⟨([162, 0, 14], .if_icmp .ge 14, 3), by decide +kernel⟩
noncomputable def ev_801 : ZEV := ⟨([167, 255, 243], .goto (-13), 3), by decide +kernel⟩
noncomputable def ev_802 : ZEV := ⟨([182, 0, 117], .invokevirtual 117, 3), by decide +kernel⟩
noncomputable def ev_803 : ZEV := ⟨([17, 3, 232], .sipush 1000, 3), by decide +kernel⟩
noncomputable def ev_804 : ZEV := ⟨([163, 0, 47], .if_icmp .gt 47, 3), by decide +kernel⟩
noncomputable def ev_805 : ZEV := ⟨([182, 0, 124], .invokevirtual 124, 3), by decide +kernel⟩
noncomputable def ev_806 : ZEV := ⟨([180, 0, 128], .getfield 128, 3), by decide +kernel⟩
noncomputable def ev_807 : ZEV := ⟨([154, 0, 17], .ifCond .ne 17, 3), by decide +kernel⟩
noncomputable def ev_808 : ZEV := ⟨([16, 252], .bipush (-4), 2), by decide +kernel⟩
noncomputable def ev_809 : ZEV := ⟨([180, 0, 135], .getfield 135, 3), by decide +kernel⟩
noncomputable def ev_810 : ZEV := ⟨([160, 0, 10], .if_icmp .ne 10, 3), by decide +kernel⟩
noncomputable def ev_811 : ZEV := ⟨([180, 0, 138], .getfield 138, 3), by decide +kernel⟩
noncomputable def ev_812 : ZEV := ⟨([184, 0, 141], .invokestatic 141, 3), by decide +kernel⟩
noncomputable def ev_813 : ZEV := ⟨([182, 0, 145], .invokevirtual 145, 3), by decide +kernel⟩
noncomputable def ev_814 : ZEV := ⟨([182, 0, 151], .invokevirtual 151, 3), by decide +kernel⟩
noncomputable def ev_815 : ZEV := ⟨([162, 0, 72], .if_icmp .ge 72, 3), by decide +kernel⟩
noncomputable def ev_816 : ZEV := ⟨([162, 0, 62], .if_icmp .ge 62, 3), by decide +kernel⟩
noncomputable def ev_817 : ZEV := ⟨([16, 108], .bipush 108, 2), by decide +kernel⟩
noncomputable def ev_818 : ZEV := ⟨([160, 0, 7], .if_icmp .ne 7, 3), by decide +kernel⟩
noncomputable def ev_819 : ZEV := ⟨([159, 0, 10], .if_icmp .eq 10, 3), by decide +kernel⟩
noncomputable def ev_820 : ZEV := ⟨([167, 255, 180], .goto (-76), 3), by decide +kernel⟩
noncomputable def ev_821 : ZEV := ⟨([182, 0, 162], .invokevirtual 162, 3), by decide +kernel⟩
noncomputable def ev_822 : ZEV := ⟨([18, 171], .ldc 171, 2), by decide +kernel⟩
noncomputable def ev_823 : ZEV := ⟨([176], .areturn, 1), by decide +kernel⟩
noncomputable def ev_824 : ZEV := ⟨([18, 173], .ldc 173, 2), by decide +kernel⟩
noncomputable def ev_825 : ZEV := ⟨([18, 175], .ldc 175, 2), by decide +kernel⟩
noncomputable def ev_826 : ZEV := ⟨([18, 177], .ldc 177, 2), by decide +kernel⟩
noncomputable def ev_827 : ZEV := ⟨([18, 179], .ldc 179, 2), by decide +kernel⟩
noncomputable def ev_828 : ZEV := ⟨([182, 0, 181], .invokevirtual 181, 3), by decide +kernel⟩
noncomputable def ev_829 : ZEV := ⟨([160, 0, 34], .if_icmp .ne 34, 3), by decide +kernel⟩
noncomputable def ev_830 : ZEV := ⟨([182, 0, 184], .invokevirtual 184, 3), by decide +kernel⟩
noncomputable def ev_831 : ZEV := ⟨([155, 0, 7], .ifCond .lt 7, 3), by decide +kernel⟩
noncomputable def ev_832 : ZEV := ⟨([154, 0, 85], .ifCond .ne 85, 3), by decide +kernel⟩
noncomputable def ev_833 : ZEV := ⟨([153, 0, 46], .ifCond .eq 46, 3), by decide +kernel⟩
noncomputable def ev_834 : ZEV := ⟨([16, 19], .bipush 19, 2), by decide +kernel⟩
noncomputable def ev_835 : ZEV := ⟨([182, 0, 202], .invokevirtual 202, 3), by decide +kernel⟩
noncomputable def ev_836 : ZEV := ⟨([184, 0, 43], .invokestatic 43, 3), by decide +kernel⟩
noncomputable def ev_837 : ZEV := ⟨([182, 0, 50], .invokevirtual 50, 3), by decide +kernel⟩
noncomputable def ev_838 : ZEV := ⟨([180, 0, 54], .getfield 54, 3), by decide +kernel⟩
noncomputable def ev_839 : ZEV := ⟨([180, 0, 57], .getfield 57, 3), by decide +kernel⟩
noncomputable def ev_840 : ZEV := ⟨([180, 0, 60], .getfield 60, 3), by decide +kernel⟩
noncomputable def ev_841 : ZEV := ⟨([159, 0, 60], .if_icmp .eq 60, 3), by decide +kernel⟩
noncomputable def ev_842 : ZEV := ⟨([153, 0, 51], .ifCond .eq 51, 3), by decide +kernel⟩
noncomputable def ev_843 : ZEV := ⟨([159, 0, 26], .if_icmp .eq 26, 3), by decide +kernel⟩
noncomputable def ev_844 : ZEV := ⟨([167, 255, 181], .goto (-75), 3), by decide +kernel⟩
noncomputable def ev_845 : ZEV := ⟨([180, 0, 63], .getfield 63, 3), by decide +kernel⟩
noncomputable def ev_846 : ZEV := ⟨([162, 0, 12], .if_icmp .ge 12, 3), by decide +kernel⟩
noncomputable def ev_847 : ZEV := ⟨([180, 0, 77], .getfield 77, 3), by decide +kernel⟩
noncomputable def ev_848 : ZEV := ⟨([162, 0, 45], .if_icmp .ge 45, 3), by decide +kernel⟩
noncomputable def ev_849 : ZEV := ⟨([184, 0, 80], .invokestatic 80, 3), by decide +kernel⟩
noncomputable def ev_850 : ZEV := ⟨([167, 255, 209], .goto (-47), 3), by decide +kernel⟩
noncomputable def ev_851 : ZEV := ⟨([153, 0, 31], .ifCond .eq 31, 3), by decide +kernel⟩
noncomputable def ev_852 : ZEV := ⟨([154, 0, 8], .ifCond .ne 8, 3), by decide +kernel⟩
noncomputable def ev_853 : ZEV := ⟨([167, 255, 227], .goto (-29), 3), by decide +kernel⟩
noncomputable def ev_854 : ZEV := ⟨([162, 0, 52], .if_icmp .ge 52, 3), by decide +kernel⟩
noncomputable def ev_855 : ZEV := ⟨([182, 0, 91], .invokevirtual 91, 3), by decide +kernel⟩
noncomputable def ev_856 : ZEV := ⟨([184, 0, 94], .invokestatic 94, 3), by decide +kernel⟩
noncomputable def ev_857 : ZEV := ⟨([182, 0, 100], .invokevirtual 100, 3), by decide +kernel⟩
noncomputable def ev_858 : ZEV := ⟨([167, 255, 201], .goto (-55), 3), by decide +kernel⟩
noncomputable def ev_859 : ZEV := ⟨([153, 0, 35], .ifCond .eq 35, 3), by decide +kernel⟩
noncomputable def ev_860 : ZEV := ⟨([162, 0, 8], .if_icmp .ge 8, 3), by decide +kernel⟩
noncomputable def ev_861 : ZEV := ⟨([167, 255, 223], .goto (-33), 3), by decide +kernel⟩
noncomputable def ev_862 : ZEV := ⟨([180, 0, 104], .getfield 104, 3), by decide +kernel⟩
noncomputable def ev_863 : ZEV := ⟨([162, 0, 29], .if_icmp .ge 29, 3), by decide +kernel⟩
noncomputable def ev_864 : ZEV := ⟨([180, 0, 107], .getfield 107, 3), by decide +kernel⟩
noncomputable def ev_865 : ZEV := ⟨([180, 0, 110], .getfield 110, 3), by decide +kernel⟩
noncomputable def ev_866 : ZEV := ⟨([180, 0, 113], .getfield 113, 3), by decide +kernel⟩
noncomputable def ev_867 : ZEV := ⟨([153, 0, 40], .ifCond .eq 40, 3), by decide +kernel⟩
noncomputable def ev_868 : ZEV := ⟨([184, 0, 116], .invokestatic 116, 3), by decide +kernel⟩
noncomputable def ev_869 : ZEV := ⟨([167, 255, 193], .goto (-63), 3), by decide +kernel⟩
noncomputable def ev_870 : ZEV := ⟨([20, 0, 121], .ldc2_w 121, 3), by decide +kernel⟩
noncomputable def ev_871 : ZEV := ⟨([162, 0, 63], .if_icmp .ge 63, 3), by decide +kernel⟩
noncomputable def ev_872 : ZEV := ⟨([167, 255, 190], .goto (-66), 3), by decide +kernel⟩
noncomputable def ev_873 : ZEV := ⟨([20, 0, 123], .ldc2_w 123, 3), by decide +kernel⟩
noncomputable def ev_874 : ZEV := ⟨([16, 26], .bipush 26, 2), by decide +kernel⟩
noncomputable def ev_875 : ZEV := ⟨([16, 11], .bipush 11, 2), by decide +kernel⟩
noncomputable def ev_876 : ZEV := ⟨([182, 0, 41], .invokevirtual 41, 3), by decide +kernel⟩
noncomputable def ev_877 : ZEV := ⟨([184, 0, 54], .invokestatic 54, 3), by decide +kernel⟩
noncomputable def ev_878 : ZEV := ⟨([182, 0, 58], .invokevirtual 58, 3), by decide +kernel⟩
noncomputable def ev_879 : ZEV := ⟨([162, 0, 81], .if_icmp .ge 81, 3), by decide +kernel⟩
noncomputable def ev_880 : ZEV := ⟨([180, 0, 62], .getfield 62, 3), by decide +kernel⟩
noncomputable def ev_881 : ZEV := ⟨([52], .caload, 1), by decide +kernel⟩
noncomputable def ev_882 : ZEV := ⟨([184, 0, 66], .invokestatic 66, 3), by decide +kernel⟩
noncomputable def ev_883 : ZEV := ⟨([167, 255, 173], .goto (-83), 3), by decide +kernel⟩
noncomputable def ev_884 : ZEV := ⟨([16, 46], .bipush 46, 2), by decide +kernel⟩
noncomputable def ev_885 : ZEV := ⟨([16, 122], .bipush 122, 2), by decide +kernel⟩
noncomputable def ev_886 : ZEV := ⟨([163, 0, 7], .if_icmp .gt 7, 3), by decide +kernel⟩
noncomputable def ev_887 : ZEV := ⟨([184, 0, 74], .invokestatic 74, 3), by decide +kernel⟩
noncomputable def ev_888 : ZEV := ⟨([162, 0, 123], .if_icmp .ge 123, 3), by decide +kernel⟩
noncomputable def ev_889 : ZEV := ⟨([160, 0, 29], .if_icmp .ne 29, 3), by decide +kernel⟩
noncomputable def ev_890 : ZEV := ⟨([167, 0, 38], .goto 38, 3), by decide +kernel⟩
noncomputable def ev_891 : ZEV := ⟨([160, 0, 31], .if_icmp .ne 31, 3), by decide +kernel⟩
noncomputable def ev_892 : ZEV := ⟨([158, 0, 27], .ifCond .le 27, 3), by decide +kernel⟩
noncomputable def ev_893 : ZEV := ⟨([132, 2, 255], .iinc 2 (-1), 3), by decide +kernel⟩
noncomputable def ev_894 : ZEV := ⟨([167, 255, 131], .goto (-125), 3), by decide +kernel⟩
noncomputable def ev_895 : ZEV := ⟨([184, 0, 95], .invokestatic 95, 3), by decide +kernel⟩
noncomputable def ev_896 : ZEV := ⟨([160, 0, 35], .if_icmp .ne 35, 3), by decide +kernel⟩
noncomputable def ev_897 : ZEV := ⟨([167, 0, 94], .goto 94, 3), by decide +kernel⟩
noncomputable def ev_898 : ZEV := ⟨([167, 0, 69], .goto 69, 3), by decide +kernel⟩
noncomputable def ev_899 : ZEV := ⟨([16, 124], .bipush 124, 2), by decide +kernel⟩
noncomputable def ev_900 : ZEV := ⟨([159, 0, 17], .if_icmp .eq 17, 3), by decide +kernel⟩
noncomputable def ev_901 : ZEV := ⟨([167, 0, 49], .goto 49, 3), by decide +kernel⟩
noncomputable def ev_902 : ZEV := ⟨([167, 0, 19], .goto 19, 3), by decide +kernel⟩
noncomputable def ev_903 : ZEV := ⟨([159, 0, 9], .if_icmp .eq 9, 3), by decide +kernel⟩
noncomputable def ev_904 : ZEV := ⟨([163, 0, 21], .if_icmp .gt 21, 3), by decide +kernel⟩
noncomputable def ev_905 : ZEV := ⟨([163, 0, 52], .if_icmp .gt 52, 3), by decide +kernel⟩
noncomputable def ev_906 : ZEV := ⟨([163, 0, 39], .if_icmp .gt 39, 3), by decide +kernel⟩
noncomputable def ev_907 : ZEV := ⟨([123], .lshr, 1), by decide +kernel⟩
noncomputable def ev_908 : ZEV := ⟨([167, 255, 205], .goto (-51), 3), by decide +kernel⟩
noncomputable def ev_909 : ZEV := ⟨([163, 0, 20], .if_icmp .gt 20, 3), by decide +kernel⟩
noncomputable def ev_910 : ZEV := ⟨([182, 0, 99], .invokevirtual 99, 3), by decide +kernel⟩
noncomputable def ev_911 : ZEV := ⟨([17, 7, 160], .sipush 1952, 3), by decide +kernel⟩
noncomputable def ev_912 : ZEV := ⟨([163, 0, 38], .if_icmp .gt 38, 3), by decide +kernel⟩
noncomputable def ev_913 : ZEV := ⟨([162, 0, 141], .if_icmp .ge 141, 3), by decide +kernel⟩
noncomputable def ev_914 : ZEV := ⟨([162, 0, 114], .if_icmp .ge 114, 3), by decide +kernel⟩
noncomputable def ev_915 : ZEV := ⟨([153, 0, 103], .ifCond .eq 103, 3), by decide +kernel⟩
noncomputable def ev_916 : ZEV := ⟨([180, 0, 114], .getfield 114, 3), by decide +kernel⟩
noncomputable def ev_917 : ZEV := ⟨([180, 0, 117], .getfield 117, 3), by decide +kernel⟩
noncomputable def ev_918 : ZEV := ⟨([180, 0, 120], .getfield 120, 3), by decide +kernel⟩
noncomputable def ev_919 : ZEV := ⟨([182, 0, 123], .invokevirtual 123, 3), by decide +kernel⟩
noncomputable def ev_920 : ZEV := ⟨([20, 0, 127], .ldc2_w 127, 3), by decide +kernel⟩
noncomputable def ev_921 : ZEV := ⟨([55, 7], .lstore 7, 2), by decide +kernel⟩
noncomputable def ev_922 : ZEV := ⟨([22, 7], .lload 7, 2), by decide +kernel⟩
noncomputable def ev_923 : ZEV := ⟨([167, 255, 113], .goto (-143), 3), by decide +kernel⟩
noncomputable def ev_924 : ZEV := ⟨([66], .lstore_n 3, 1), by decide +kernel⟩
noncomputable def ev_925 : ZEV := ⟨([188, 5], .newarray .char, 2), by decide +kernel⟩
noncomputable def ev_926 : ZEV := ⟨([17, 18, 0], .sipush 4608, 3), by decide +kernel⟩
noncomputable def ev_927 : ZEV := ⟨([160, 0, 13], .if_icmp .ne 13, 3), by decide +kernel⟩
noncomputable def ev_928 : ZEV := ⟨([182, 0, 34], .invokevirtual 34, 3), by decide +kernel⟩
noncomputable def ev_929 : ZEV := ⟨([162, 0, 30], .if_icmp .ge 30, 3), by decide +kernel⟩
noncomputable def ev_930 : ZEV := ⟨([182, 0, 44], .invokevirtual 44, 3), by decide +kernel⟩
noncomputable def ev_931 : ZEV := ⟨([153, 0, 11], .ifCond .eq 11, 3), by decide +kernel⟩
noncomputable def ev_932 : ZEV := ⟨([161, 0, 23], .if_icmp .lt 23, 3), by decide +kernel⟩
noncomputable def ev_933 : ZEV := ⟨([163, 0, 17], .if_icmp .gt 17, 3), by decide +kernel⟩
noncomputable def ev_934 : ZEV := ⟨([184, 0, 52], .invokestatic 52, 3), by decide +kernel⟩
noncomputable def ev_935 : ZEV := ⟨([16, 48], .bipush 48, 2), by decide +kernel⟩
noncomputable def ev_936 : ZEV := ⟨([161, 0, 18], .if_icmp .lt 18, 3), by decide +kernel⟩
noncomputable def ev_937 : ZEV := ⟨([16, 57], .bipush 57, 2), by decide +kernel⟩
noncomputable def ev_938 : ZEV := ⟨([162, 0, 55], .if_icmp .ge 55, 3), by decide +kernel⟩
noncomputable def ev_939 : ZEV := ⟨([153, 0, 44], .ifCond .eq 44, 3), by decide +kernel⟩
noncomputable def ev_940 : ZEV := ⟨([163, 0, 23], .if_icmp .gt 23, 3), by decide +kernel⟩
noncomputable def ev_941 : ZEV := ⟨([164, 0, 7], .if_icmp .le 7, 3), by decide +kernel⟩
noncomputable def ev_942 : ZEV := ⟨([18, 56], .ldc 56, 2), by decide +kernel⟩
noncomputable def ev_943 : ZEV := ⟨([162, 0, 25], .if_icmp .ge 25, 3), by decide +kernel⟩
noncomputable def ev_944 : ZEV := ⟨([16, 110], .bipush 110, 2), by decide +kernel⟩
noncomputable def ev_945 : ZEV := ⟨([182, 0, 72], .invokevirtual 72, 3), by decide +kernel⟩
noncomputable def ev_946 : ZEV := ⟨([162, 0, 75], .if_icmp .ge 75, 3), by decide +kernel⟩
noncomputable def ev_947 : ZEV := ⟨([180, 0, 87], .getfield 87, 3), by decide +kernel⟩
noncomputable def ev_948 : ZEV := ⟨([159, 0, 59], .if_icmp .eq 59, 3), by decide +kernel⟩
noncomputable def ev_949 : ZEV := ⟨([85], .castore, 1), by decide +kernel⟩
noncomputable def ev_950 : ZEV := ⟨([156, 0, 9], .ifCond .ge 9, 3), by decide +kernel⟩
noncomputable def ev_951 : ZEV := ⟨([184, 0, 105], .invokestatic 105, 3), by decide +kernel⟩
noncomputable def ev_952 : ZEV := ⟨([158, 0, 25], .ifCond .le 25, 3), by decide +kernel⟩
noncomputable def ev_953 : ZEV := ⟨([181, 0, 41], .putfield 41, 3), by decide +kernel⟩
noncomputable def ev_954 : ZEV := ⟨([20, 0, 57], .ldc2_w 57, 3), by decide +kernel⟩
noncomputable def ev_955 : ZEV := ⟨([132, 7, 1], .iinc 7 1, 3), by decide +kernel⟩
noncomputable def ev_956 : ZEV := ⟨([167, 255, 161], .goto (-95), 3), by decide +kernel⟩
noncomputable def ev_957 : ZEV := ⟨([181, 0, 69], .putfield 69, 3), by decide +kernel⟩
noncomputable def ev_958 : ZEV := ⟨([180, 0, 72], .getfield 72, 3), by decide +kernel⟩
noncomputable def ev_959 : ZEV := ⟨([182, 0, 75], .invokevirtual 75, 3), by decide +kernel⟩
noncomputable def ev_960 : ZEV := ⟨([180, 0, 69], .getfield 69, 3), by decide +kernel⟩
noncomputable def ev_961 : ZEV := ⟨([180, 0, 82], .getfield 82, 3), by decide +kernel⟩
noncomputable def ev_962 : ZEV := ⟨([180, 0, 85], .getfield 85, 3), by decide +kernel⟩
noncomputable def ev_963 : ZEV := ⟨([20, 0, 88], .ldc2_w 88, 3), by decide +kernel⟩
noncomputable def ev_964 : ZEV := ⟨([184, 0, 90], .invokestatic 90, 3), by decide +kernel⟩
noncomputable def ev_965 : ZEV := ⟨([162, 0, 79], .if_icmp .ge 79, 3), by decide +kernel⟩
noncomputable def ev_966 : ZEV := ⟨([159, 0, 58], .if_icmp .eq 58, 3), by decide +kernel⟩
noncomputable def ev_967 : ZEV := ⟨([184, 0, 96], .invokestatic 96, 3), by decide +kernel⟩
noncomputable def ev_968 : ZEV := ⟨([162, 0, 138], .if_icmp .ge 138, 3), by decide +kernel⟩
noncomputable def ev_969 : ZEV := ⟨([163, 0, 44], .if_icmp .gt 44, 3), by decide +kernel⟩
noncomputable def ev_970 : ZEV := ⟨([159, 0, 38], .if_icmp .eq 38, 3), by decide +kernel⟩
noncomputable def ev_971 : ZEV := ⟨([160, 0, 27], .if_icmp .ne 27, 3), by decide +kernel⟩
noncomputable def ev_972 : ZEV := ⟨([167, 255, 212], .goto (-44), 3), by decide +kernel⟩
noncomputable def ev_973 : ZEV := ⟨([159, 0, 72], .if_icmp .eq 72, 3), by decide +kernel⟩
noncomputable def ev_974 : ZEV := ⟨([160, 0, 60], .if_icmp .ne 60, 3), by decide +kernel⟩
noncomputable def ev_975 : ZEV := ⟨([160, 0, 49], .if_icmp .ne 49, 3), by decide +kernel⟩
noncomputable def ev_976 : ZEV := ⟨([160, 0, 26], .if_icmp .ne 26, 3), by decide +kernel⟩
noncomputable def ev_977 : ZEV := ⟨([167, 255, 118], .goto (-138), 3), by decide +kernel⟩
noncomputable def ev_978 : ZEV := ⟨([159, 0, 18], .if_icmp .eq 18, 3), by decide +kernel⟩
noncomputable def ev_979 : ZEV := ⟨([162, 0, 70], .if_icmp .ge 70, 3), by decide +kernel⟩
noncomputable def ev_980 : ZEV := ⟨([153, 0, 56], .ifCond .eq 56, 3), by decide +kernel⟩
noncomputable def ev_981 : ZEV := ⟨([184, 0, 99], .invokestatic 99, 3), by decide +kernel⟩
noncomputable def ev_982 : ZEV := ⟨([153, 0, 47], .ifCond .eq 47, 3), by decide +kernel⟩
noncomputable def ev_983 : ZEV := ⟨([167, 255, 184], .goto (-72), 3), by decide +kernel⟩
noncomputable def ev_984 : ZEV := ⟨([184, 0, 103], .invokestatic 103, 3), by decide +kernel⟩
noncomputable def ev_985 : ZEV := ⟨([159, 0, 31], .if_icmp .eq 31, 3), by decide +kernel⟩
noncomputable def ev_986 : ZEV := ⟨([167, 0, 8], .goto 8, 3), by decide +kernel⟩
noncomputable def ev_987 : ZEV := ⟨([181, 0, 114], .putfield 114, 3), by decide +kernel⟩
noncomputable def ev_988 : ZEV := ⟨([162, 0, 117], .if_icmp .ge 117, 3), by decide +kernel⟩
noncomputable def ev_989 : ZEV := ⟨([167, 255, 137], .goto (-119), 3), by decide +kernel⟩
noncomputable def ev_990 : ZEV := ⟨([162, 0, 27], .if_icmp .ge 27, 3), by decide +kernel⟩
noncomputable def ev_991 : ZEV := ⟨([136], .l2i, 1), by decide +kernel⟩
noncomputable def ev_992 : ZEV := ⟨([154, 0, 9], .ifCond .ne 9, 3), by decide +kernel⟩
noncomputable def ev_993 : ZEV := ⟨([161, 0, 5], .if_icmp .lt 5, 3), by decide +kernel⟩
noncomputable def ev_994 : ZEV := ⟨([182, 0, 129], .invokevirtual 129, 3), by decide +kernel⟩
noncomputable def ev_995 : ZEV := ⟨([20, 0, 133], .ldc2_w 133, 3), by decide +kernel⟩
noncomputable def ev_996 : ZEV := ⟨([184, 0, 135], .invokestatic 135, 3), by decide +kernel⟩
noncomputable def ev_997 : ZEV := ⟨([162, 0, 102], .if_icmp .ge 102, 3), by decide +kernel⟩
noncomputable def ev_998 : ZEV := ⟨([55, 9], .lstore 9, 2), by decide +kernel⟩
noncomputable def ev_999 : ZEV := ⟨([22, 9], .lload 9, 2), by decide +kernel⟩
noncomputable def ev_1000 : ZEV := ⟨([153, 0, 55], .ifCond .eq 55, 3), by decide +kernel⟩
noncomputable def ev_1001 : ZEV := ⟨([132, 11, 1], .iinc 11 1, 3), by decide +kernel⟩
noncomputable def ev_1002 : ZEV := ⟨([167, 255, 199], .goto (-57), 3), by decide +kernel⟩
noncomputable def ev_1003 : ZEV := ⟨([158, 0, 43], .ifCond .le 43, 3), by decide +kernel⟩
noncomputable def ev_1004 : ZEV := ⟨([153, 0, 14], .ifCond .eq 14, 3), by decide +kernel⟩
noncomputable def ev_1005 : ZEV := ⟨([181, 0, 23], .putfield 23, 3), by decide +kernel⟩
noncomputable def ev_1006 : ZEV := ⟨([181, 0, 26], .putfield 26, 3), by decide +kernel⟩
noncomputable def ev_1007 : ZEV := ⟨([17, 7, 209], .sipush 2001, 3), by decide +kernel⟩
noncomputable def ev_1008 : ZEV := ⟨([20, 0, 45], .ldc2_w 45, 3), by decide +kernel⟩
noncomputable def ev_1009 : ZEV := ⟨([20, 0, 47], .ldc2_w 47, 3), by decide +kernel⟩
noncomputable def ev_1010 : ZEV := ⟨([20, 0, 51], .ldc2_w 51, 3), by decide +kernel⟩
noncomputable def ev_1011 : ZEV := ⟨([154, 0, 35], .ifCond .ne 35, 3), by decide +kernel⟩
noncomputable def ev_1012 : ZEV := ⟨([153, 0, 22], .ifCond .eq 22, 3), by decide +kernel⟩
noncomputable def ev_1013 : ZEV := ⟨([155, 0, 5], .ifCond .lt 5, 3), by decide +kernel⟩
noncomputable def ev_1014 : ZEV := ⟨([180, 0, 66], .getfield 66, 3), by decide +kernel⟩
noncomputable def ev_1015 : ZEV := ⟨([167, 255, 220], .goto (-36), 3), by decide +kernel⟩
noncomputable def ev_1016 : ZEV := ⟨([180, 0, 71], .getfield 71, 3), by decide +kernel⟩
noncomputable def ev_1017 : ZEV := ⟨([162, 0, 68], .if_icmp .ge 68, 3), by decide +kernel⟩
noncomputable def ev_1018 : ZEV := ⟨([180, 0, 74], .getfield 74, 3), by decide +kernel⟩
noncomputable def ev_1019 : ZEV := ⟨([184, 0, 77], .invokestatic 77, 3), by decide +kernel⟩
noncomputable def ev_1020 : ZEV := ⟨([167, 255, 182], .goto (-74), 3), by decide +kernel⟩
noncomputable def ev_1021 : ZEV := ⟨([181, 0, 90], .putfield 90, 3), by decide +kernel⟩
noncomputable def ev_1022 : ZEV := ⟨([184, 0, 93], .invokestatic 93, 3), by decide +kernel⟩
noncomputable def ev_1023 : ZEV := ⟨([153, 0, 122], .ifCond .eq 122, 3), by decide +kernel⟩
noncomputable def ev_1024 : ZEV := ⟨([184, 0, 112], .invokestatic 112, 3), by decide +kernel⟩
noncomputable def ev_1025 : ZEV := ⟨([162, 0, 80], .if_icmp .ge 80, 3), by decide +kernel⟩
noncomputable def ev_1026 : ZEV := ⟨([180, 0, 119], .getfield 119, 3), by decide +kernel⟩
noncomputable def ev_1027 : ZEV := ⟨([180, 0, 122], .getfield 122, 3), by decide +kernel⟩
noncomputable def ev_1028 : ZEV := ⟨([156, 0, 31], .ifCond .ge 31, 3), by decide +kernel⟩
noncomputable def ev_1029 : ZEV := ⟨([184, 0, 125], .invokestatic 125, 3), by decide +kernel⟩
noncomputable def ev_1030 : ZEV := ⟨([18, 128], .ldc 128, 2), by decide +kernel⟩
noncomputable def ev_1031 : ZEV := ⟨([162, 0, 134], .if_icmp .ge 134, 3), by decide +kernel⟩
noncomputable def ev_1032 : ZEV := ⟨([159, 0, 14], .if_icmp .eq 14, 3), by decide +kernel⟩
noncomputable def ev_1033 : ZEV := ⟨([184, 0, 139], .invokestatic 139, 3), by decide +kernel⟩
noncomputable def ev_1034 : ZEV := ⟨([184, 0, 143], .invokestatic 143, 3), by decide +kernel⟩
noncomputable def ev_1035 : ZEV := ⟨([167, 255, 186], .goto (-70), 3), by decide +kernel⟩
noncomputable def ev_1036 : ZEV := ⟨([167, 255, 119], .goto (-137), 3), by decide +kernel⟩
noncomputable def ev_1037 : ZEV := ⟨([182, 0, 146], .invokevirtual 146, 3), by decide +kernel⟩
noncomputable def ev_1038 : ZEV := ⟨([180, 0, 23], .getfield 23, 3), by decide +kernel⟩
noncomputable def ev_1039 : ZEV := ⟨([180, 0, 26], .getfield 26, 3), by decide +kernel⟩
noncomputable def ev_1040 : ZEV := ⟨([20, 0, 149], .ldc2_w 149, 3), by decide +kernel⟩
noncomputable def ev_1041 : ZEV := ⟨([162, 0, 150], .if_icmp .ge 150, 3), by decide +kernel⟩
noncomputable def ev_1042 : ZEV := ⟨([162, 0, 112], .if_icmp .ge 112, 3), by decide +kernel⟩
noncomputable def ev_1043 : ZEV := ⟨([167, 255, 106], .goto (-150), 3), by decide +kernel⟩
noncomputable def ev_1044 : ZEV := ⟨([180, 0, 155], .getfield 155, 3), by decide +kernel⟩
noncomputable def ev_1045 : ZEV := ⟨([17, 7, 208], .sipush 2000, 3), by decide +kernel⟩
noncomputable def ev_1046 : ZEV := ⟨([16, 254], .bipush (-2), 2), by decide +kernel⟩
noncomputable def ev_1047 : ZEV := ⟨([163, 0, 12], .if_icmp .gt 12, 3), by decide +kernel⟩
noncomputable def ev_1048 : ZEV := ⟨([20, 0, 158], .ldc2_w 158, 3), by decide +kernel⟩
noncomputable def ev_1049 : ZEV := ⟨([16, 24], .bipush 24, 2), by decide +kernel⟩
noncomputable def ev_1050 : ZEV := ⟨([20, 0, 160], .ldc2_w 160, 3), by decide +kernel⟩
noncomputable def ev_1051 : ZEV := ⟨([160, 0, 20], .if_icmp .ne 20, 3), by decide +kernel⟩
noncomputable def ev_1052 : ZEV := ⟨([180, 0, 162], .getfield 162, 3), by decide +kernel⟩
noncomputable def ev_1053 : ZEV := ⟨([180, 0, 165], .getfield 165, 3), by decide +kernel⟩
noncomputable def ev_1054 : ZEV := ⟨([181, 0, 162], .putfield 162, 3), by decide +kernel⟩
noncomputable def ev_1055 : ZEV := ⟨([181, 0, 165], .putfield 165, 3), by decide +kernel⟩
noncomputable def ev_1056 : ZEV := ⟨([181, 0, 155], .putfield 155, 3), by decide +kernel⟩
noncomputable def ev_1057 : ZEV := ⟨([182, 0, 172], .invokevirtual 172, 3), by decide +kernel⟩
noncomputable def ev_1058 : ZEV := ⟨([162, 0, 166], .if_icmp .ge 166, 3), by decide +kernel⟩
noncomputable def ev_1059 : ZEV := ⟨([163, 0, 156], .if_icmp .gt 156, 3), by decide +kernel⟩
noncomputable def ev_1060 : ZEV := ⟨([16, 35], .bipush 35, 2), by decide +kernel⟩
noncomputable def ev_1061 : ZEV := ⟨([55, 10], .lstore 10, 2), by decide +kernel⟩
noncomputable def ev_1062 : ZEV := ⟨([160, 0, 40], .if_icmp .ne 40, 3), by decide +kernel⟩
noncomputable def ev_1063 : ZEV := ⟨([22, 10], .lload 10, 2), by decide +kernel⟩
noncomputable def ev_1064 : ZEV := ⟨([20, 0, 175], .ldc2_w 175, 3), by decide +kernel⟩
noncomputable def ev_1065 : ZEV := ⟨([167, 0, 51], .goto 51, 3), by decide +kernel⟩
noncomputable def ev_1066 : ZEV := ⟨([182, 0, 177], .invokevirtual 177, 3), by decide +kernel⟩
noncomputable def ev_1067 : ZEV := ⟨([167, 255, 83], .goto (-173), 3), by decide +kernel⟩
noncomputable def ev_1068 : ZEV := ⟨([180, 0, 181], .getfield 181, 3), by decide +kernel⟩
noncomputable def ev_1069 : ZEV := ⟨([161, 0, 42], .if_icmp .lt 42, 3), by decide +kernel⟩
noncomputable def ev_1070 : ZEV := ⟨([153, 0, 37], .ifCond .eq 37, 3), by decide +kernel⟩
noncomputable def ev_1071 : ZEV := ⟨([167, 255, 240], .goto (-16), 3), by decide +kernel⟩
noncomputable def ev_1072 : ZEV := ⟨([158, 0, 89], .ifCond .le 89, 3), by decide +kernel⟩
noncomputable def ev_1073 : ZEV := ⟨([167, 255, 169], .goto (-87), 3), by decide +kernel⟩
noncomputable def ev_1074 : ZEV := ⟨([183, 0, 1], .invokespecial 1, 3), by decide +kernel⟩
noncomputable def ev_1075 : ZEV := ⟨([187, 0, 7], .new 7, 3), by decide +kernel⟩
noncomputable def ev_1076 : ZEV := ⟨([183, 0, 9], .invokespecial 9, 3), by decide +kernel⟩
noncomputable def ev_1077 : ZEV := ⟨([181, 0, 10], .putfield 10, 3), by decide +kernel⟩
noncomputable def ev_1078 : ZEV := ⟨([187, 0, 16], .new 16, 3), by decide +kernel⟩
noncomputable def ev_1079 : ZEV := ⟨([183, 0, 18], .invokespecial 18, 3), by decide +kernel⟩
noncomputable def ev_1080 : ZEV := ⟨([187, 0, 27], .new 27, 3), by decide +kernel⟩
noncomputable def ev_1081 : ZEV := ⟨([183, 0, 29], .invokespecial 29, 3), by decide +kernel⟩
noncomputable def ev_1082 : ZEV := ⟨([187, 0, 34], .new 34, 3), by decide +kernel⟩
noncomputable def ev_1083 : ZEV := ⟨([183, 0, 36], .invokespecial 36, 3), by decide +kernel⟩
noncomputable def ev_1084 : ZEV := ⟨([187, 0, 41], .new 41, 3), by decide +kernel⟩
noncomputable def ev_1085 : ZEV := ⟨([183, 0, 43], .invokespecial 43, 3), by decide +kernel⟩
noncomputable def ev_1086 : ZEV := ⟨([181, 0, 44], .putfield 44, 3), by decide +kernel⟩
noncomputable def ev_1087 : ZEV := ⟨([187, 0, 48], .new 48, 3), by decide +kernel⟩
noncomputable def ev_1088 : ZEV := ⟨([183, 0, 50], .invokespecial 50, 3), by decide +kernel⟩
noncomputable def ev_1089 : ZEV := ⟨([187, 0, 55], .new 55, 3), by decide +kernel⟩
noncomputable def ev_1090 : ZEV := ⟨([183, 0, 57], .invokespecial 57, 3), by decide +kernel⟩
noncomputable def ev_1091 : ZEV := ⟨([187, 0, 62], .new 62, 3), by decide +kernel⟩
noncomputable def ev_1092 : ZEV := ⟨([183, 0, 64], .invokespecial 64, 3), by decide +kernel⟩
noncomputable def ev_1093 : ZEV := ⟨([181, 0, 65], .putfield 65, 3), by decide +kernel⟩
noncomputable def ev_1094 : ZEV := ⟨([187, 0, 69], .new 69, 3), by decide +kernel⟩
noncomputable def ev_1095 : ZEV := ⟨([183, 0, 71], .invokespecial 71, 3), by decide +kernel⟩
noncomputable def ev_1096 : ZEV := ⟨([181, 0, 72], .putfield 72, 3), by decide +kernel⟩
noncomputable def ev_1097 : ZEV := ⟨([187, 0, 76], .new 76, 3), by decide +kernel⟩
noncomputable def ev_1098 : ZEV := ⟨([183, 0, 78], .invokespecial 78, 3), by decide +kernel⟩
noncomputable def ev_1099 : ZEV := ⟨([187, 0, 83], .new 83, 3), by decide +kernel⟩
noncomputable def ev_1100 : ZEV := ⟨([183, 0, 85], .invokespecial 85, 3), by decide +kernel⟩
noncomputable def ev_1101 : ZEV := ⟨([181, 0, 86], .putfield 86, 3), by decide +kernel⟩
noncomputable def ev_1102 : ZEV := ⟨([180, 0, 10], .getfield 10, 3), by decide +kernel⟩
noncomputable def ev_1103 : ZEV := ⟨([180, 0, 101], .getfield 101, 3), by decide +kernel⟩
noncomputable def ev_1104 : ZEV := ⟨([184, 0, 133], .invokestatic 133, 3), by decide +kernel⟩
noncomputable def ev_1105 : ZEV := ⟨([182, 0, 141], .invokevirtual 141, 3), by decide +kernel⟩
noncomputable def ev_1106 : ZEV := ⟨([161, 0, 21], .if_icmp .lt 21, 3), by decide +kernel⟩
noncomputable def ev_1107 : ZEV := ⟨([182, 0, 156], .invokevirtual 156, 3), by decide +kernel⟩
noncomputable def ev_1108 : ZEV := ⟨([182, 0, 160], .invokevirtual 160, 3), by decide +kernel⟩
noncomputable def ev_1109 : ZEV := ⟨([155, 0, 12], .ifCond .lt 12, 3), by decide +kernel⟩
noncomputable def ev_1110 : ZEV := ⟨([180, 0, 164], .getfield 164, 3), by decide +kernel⟩
noncomputable def ev_1111 : ZEV := ⟨([182, 0, 167], .invokevirtual 167, 3), by decide +kernel⟩
noncomputable def ev_1112 : ZEV := ⟨([180, 0, 171], .getfield 171, 3), by decide +kernel⟩
noncomputable def ev_1113 : ZEV := ⟨([155, 0, 23], .ifCond .lt 23, 3), by decide +kernel⟩
noncomputable def ev_1114 : ZEV := ⟨([162, 0, 16], .if_icmp .ge 16, 3), by decide +kernel⟩
noncomputable def ev_1115 : ZEV := ⟨([20, 0, 174], .ldc2_w 174, 3), by decide +kernel⟩
noncomputable def ev_1116 : ZEV := ⟨([154, 0, 11], .ifCond .ne 11, 3), by decide +kernel⟩
noncomputable def ev_1117 : ZEV := ⟨([180, 0, 176], .getfield 176, 3), by decide +kernel⟩
noncomputable def ev_1118 : ZEV := ⟨([180, 0, 179], .getfield 179, 3), by decide +kernel⟩
noncomputable def ev_1119 : ZEV := ⟨([167, 0, 12], .goto 12, 3), by decide +kernel⟩
noncomputable def ev_1120 : ZEV := ⟨([155, 0, 16], .ifCond .lt 16, 3), by decide +kernel⟩
noncomputable def ev_1121 : ZEV := ⟨([163, 0, 11], .if_icmp .gt 11, 3), by decide +kernel⟩
noncomputable def ev_1122 : ZEV := ⟨([154, 0, 33], .ifCond .ne 33, 3), by decide +kernel⟩
noncomputable def ev_1123 : ZEV := ⟨([180, 0, 188], .getfield 188, 3), by decide +kernel⟩
noncomputable def ev_1124 : ZEV := ⟨([180, 0, 191], .getfield 191, 3), by decide +kernel⟩
noncomputable def ev_1125 : ZEV := ⟨([182, 0, 194], .invokevirtual 194, 3), by decide +kernel⟩
noncomputable def ev_1126 : ZEV := ⟨([180, 0, 197], .getfield 197, 3), by decide +kernel⟩
noncomputable def ev_1127 : ZEV := ⟨([180, 0, 200], .getfield 200, 3), by decide +kernel⟩
noncomputable def ev_1128 : ZEV := ⟨([16, 126], .bipush 126, 2), by decide +kernel⟩
noncomputable def ev_1129 : ZEV := ⟨([180, 0, 206], .getfield 206, 3), by decide +kernel⟩
noncomputable def ev_1130 : ZEV := ⟨([181, 0, 203], .putfield 203, 3), by decide +kernel⟩
noncomputable def ev_1131 : ZEV := ⟨([182, 0, 210], .invokevirtual 210, 3), by decide +kernel⟩
noncomputable def ev_1132 : ZEV := ⟨([154, 0, 13], .ifCond .ne 13, 3), by decide +kernel⟩
noncomputable def ev_1133 : ZEV := ⟨([180, 0, 214], .getfield 214, 3), by decide +kernel⟩
noncomputable def ev_1134 : ZEV := ⟨([180, 0, 217], .getfield 217, 3), by decide +kernel⟩
noncomputable def ev_1135 : ZEV := ⟨([182, 0, 220], .invokevirtual 220, 3), by decide +kernel⟩
noncomputable def ev_1136 : ZEV := ⟨([155, 0, 18], .ifCond .lt 18, 3), by decide +kernel⟩
noncomputable def ev_1137 : ZEV := ⟨([180, 0, 224], .getfield 224, 3), by decide +kernel⟩
noncomputable def ev_1138 : ZEV := ⟨([180, 0, 227], .getfield 227, 3), by decide +kernel⟩
noncomputable def ev_1139 : ZEV := ⟨([182, 0, 230], .invokevirtual 230, 3), by decide +kernel⟩
noncomputable def ev_1140 : ZEV := ⟨([182, 0, 238], .invokevirtual 238, 3), by decide +kernel⟩
noncomputable def ev_1141 : ZEV := ⟨([182, 0, 242], .invokevirtual 242, 3), by decide +kernel⟩
noncomputable def ev_1142 : ZEV := ⟨([182, 0, 245], .invokevirtual 245, 3), by decide +kernel⟩
noncomputable def ev_1143 : ZEV := ⟨([182, 0, 248], .invokevirtual 248, 3), by decide +kernel⟩
noncomputable def ev_1144 : ZEV := ⟨([155, 0, 20], .ifCond .lt 20, 3), by decide +kernel⟩
noncomputable def ev_1145 : ZEV := ⟨([163, 0, 15], .if_icmp .gt 15, 3), by decide +kernel⟩
noncomputable def ev_1146 : ZEV := ⟨([180, 0, 44], .getfield 44, 3), by decide +kernel⟩
noncomputable def ev_1147 : ZEV := ⟨([182, 1, 0], .invokevirtual 256, 3), by decide +kernel⟩
noncomputable def ev_1148 : ZEV := ⟨([182, 1, 3], .invokevirtual 259, 3), by decide +kernel⟩
noncomputable def ev_1149 : ZEV := ⟨([182, 1, 7], .invokevirtual 263, 3), by decide +kernel⟩
noncomputable def ev_1150 : ZEV := ⟨([182, 1, 10], .invokevirtual 266, 3), by decide +kernel⟩
noncomputable def ev_1151 : ZEV := ⟨([182, 1, 13], .invokevirtual 269, 3), by decide +kernel⟩
noncomputable def ev_1152 : ZEV := ⟨([182, 1, 16], .invokevirtual 272, 3), by decide +kernel⟩
noncomputable def ev_1153 : ZEV := ⟨([162, 0, 15], .if_icmp .ge 15, 3), by decide +kernel⟩
noncomputable def ev_1154 : ZEV := ⟨([167, 255, 242], .goto (-14), 3), by decide +kernel⟩
noncomputable def ev_1155 : ZEV := ⟨([184, 1, 24], .invokestatic 280, 3), by decide +kernel⟩
noncomputable def ev_1156 : ZEV := ⟨([182, 1, 27], .invokevirtual 283, 3), by decide +kernel⟩
noncomputable def ev_1157 : ZEV := ⟨([180, 1, 33], .getfield 289, 3), by decide +kernel⟩
noncomputable def ev_1158 : ZEV := ⟨([155, 0, 14], .ifCond .lt 14, 3), by decide +kernel⟩
noncomputable def ev_1159 : ZEV := ⟨([19, 1, 36], .ldc_w 292, 3), by decide +kernel⟩
noncomputable def ev_1160 : ZEV := ⟨([182, 1, 41], .invokevirtual 297, 3), by decide +kernel⟩
noncomputable def ev_1161 : ZEV := ⟨([180, 1, 45], .getfield 301, 3), by decide +kernel⟩
noncomputable def ev_1162 : ZEV := ⟨([180, 1, 48], .getfield 304, 3), by decide +kernel⟩
noncomputable def ev_1163 : ZEV := ⟨([180, 0, 65], .getfield 65, 3), by decide +kernel⟩
noncomputable def ev_1164 : ZEV := ⟨([182, 1, 56], .invokevirtual 312, 3), by decide +kernel⟩
noncomputable def ev_1165 : ZEV := ⟨([182, 1, 59], .invokevirtual 315, 3), by decide +kernel⟩
noncomputable def ev_1166 : ZEV := ⟨([153, 0, 17], .ifCond .eq 17, 3), by decide +kernel⟩
noncomputable def ev_1167 : ZEV := ⟨([155, 0, 13], .ifCond .lt 13, 3), by decide +kernel⟩
noncomputable def ev_1168 : ZEV := ⟨([182, 1, 62], .invokevirtual 318, 3), by decide +kernel⟩
noncomputable def ev_1169 : ZEV := ⟨([153, 0, 26], .ifCond .eq 26, 3), by decide +kernel⟩
noncomputable def ev_1170 : ZEV := ⟨([155, 0, 22], .ifCond .lt 22, 3), by decide +kernel⟩
noncomputable def ev_1171 : ZEV := ⟨([182, 1, 65], .invokevirtual 321, 3), by decide +kernel⟩
noncomputable def ev_1172 : ZEV := ⟨([182, 1, 68], .invokevirtual 324, 3), by decide +kernel⟩
noncomputable def ev_1173 : ZEV := ⟨([182, 1, 71], .invokevirtual 327, 3), by decide +kernel⟩
noncomputable def ev_1174 : ZEV := ⟨([182, 1, 74], .invokevirtual 330, 3), by decide +kernel⟩
noncomputable def ev_1175 : ZEV := ⟨([182, 1, 78], .invokevirtual 334, 3), by decide +kernel⟩
noncomputable def ev_1176 : ZEV := ⟨([167, 0, 14], .goto 14, 3), by decide +kernel⟩
noncomputable def ev_1177 : ZEV := ⟨([182, 1, 81], .invokevirtual 337, 3), by decide +kernel⟩
noncomputable def ev_1178 : ZEV := ⟨([182, 1, 84], .invokevirtual 340, 3), by decide +kernel⟩
noncomputable def ev_1179 : ZEV := ⟨([182, 1, 88], .invokevirtual 344, 3), by decide +kernel⟩
noncomputable def ev_1180 : ZEV := ⟨([180, 0, 86], .getfield 86, 3), by decide +kernel⟩
noncomputable def ev_1181 : ZEV := ⟨([182, 1, 91], .invokevirtual 347, 3), by decide +kernel⟩
noncomputable def ev_1182 : ZEV := ⟨([155, 0, 34], .ifCond .lt 34, 3), by decide +kernel⟩
noncomputable def ev_1183 : ZEV := ⟨([17, 0, 200], .sipush 200, 3), by decide +kernel⟩
noncomputable def ev_1184 : ZEV := ⟨([163, 0, 27], .if_icmp .gt 27, 3), by decide +kernel⟩
noncomputable def ev_1185 : ZEV := ⟨([161, 0, 22], .if_icmp .lt 22, 3), by decide +kernel⟩
noncomputable def ev_1186 : ZEV := ⟨([16, 90], .bipush 90, 2), by decide +kernel⟩
noncomputable def ev_1187 : ZEV := ⟨([182, 1, 92], .invokevirtual 348, 3), by decide +kernel⟩
noncomputable def ev_1188 : ZEV := ⟨([182, 1, 95], .invokevirtual 351, 3), by decide +kernel⟩
noncomputable def ev_1189 : ZEV := ⟨([180, 1, 99], .getfield 355, 3), by decide +kernel⟩
noncomputable def ev_1190 : ZEV := ⟨([180, 1, 100], .getfield 356, 3), by decide +kernel⟩
noncomputable def ev_1191 : ZEV := ⟨([180, 1, 104], .getfield 360, 3), by decide +kernel⟩
noncomputable def ev_1192 : ZEV := ⟨([180, 1, 107], .getfield 363, 3), by decide +kernel⟩
noncomputable def ev_1193 : ZEV := ⟨([180, 1, 110], .getfield 366, 3), by decide +kernel⟩
noncomputable def ev_1194 : ZEV := ⟨([19, 1, 119], .ldc_w 375, 3), by decide +kernel⟩
noncomputable def ev_1195 : ZEV := ⟨([19, 1, 120], .ldc_w 376, 3), by decide +kernel⟩
noncomputable def ev_1196 : ZEV := ⟨([184, 1, 121], .invokestatic 377, 3), by decide +kernel⟩
noncomputable def ev_1197 : ZEV := ⟨([184, 1, 124], .invokestatic 380, 3), by decide +kernel⟩
noncomputable def ev_1198 : ZEV := ⟨([184, 1, 127], .invokestatic 383, 3), by decide +kernel⟩
noncomputable def ev_1199 : ZEV := ⟨([162, 0, 50], .if_icmp .ge 50, 3), by decide +kernel⟩
noncomputable def ev_1200 : ZEV := ⟨([153, 0, 45], .ifCond .eq 45, 3), by decide +kernel⟩
noncomputable def ev_1201 : ZEV := ⟨([181, 0, 7], .putfield 7, 3), by decide +kernel⟩
noncomputable def ev_1202 : ZEV := ⟨([16, 96], .bipush 96, 2), by decide +kernel⟩
noncomputable def ev_1203 : ZEV := ⟨([181, 0, 13], .putfield 13, 3), by decide +kernel⟩
noncomputable def ev_1204 : ZEV := ⟨([17, 1, 224], .sipush 480, 3), by decide +kernel⟩
noncomputable def ev_1205 : ZEV := ⟨([188, 4], .newarray .boolean, 2), by decide +kernel⟩
noncomputable def ev_1206 : ZEV := ⟨([181, 0, 16], .putfield 16, 3), by decide +kernel⟩
noncomputable def ev_1207 : ZEV := ⟨([181, 0, 20], .putfield 20, 3), by decide +kernel⟩
noncomputable def ev_1208 : ZEV := ⟨([181, 0, 53], .putfield 53, 3), by decide +kernel⟩
noncomputable def ev_1209 : ZEV := ⟨([181, 0, 56], .putfield 56, 3), by decide +kernel⟩
noncomputable def ev_1210 : ZEV := ⟨([181, 0, 60], .putfield 60, 3), by decide +kernel⟩
noncomputable def ev_1211 : ZEV := ⟨([17, 31, 64], .sipush 8000, 3), by decide +kernel⟩
noncomputable def ev_1212 : ZEV := ⟨([181, 0, 63], .putfield 63, 3), by decide +kernel⟩
noncomputable def ev_1213 : ZEV := ⟨([17, 1, 244], .sipush 500, 3), by decide +kernel⟩
noncomputable def ev_1214 : ZEV := ⟨([181, 0, 66], .putfield 66, 3), by decide +kernel⟩
noncomputable def ev_1215 : ZEV := ⟨([17, 9, 196], .sipush 2500, 3), by decide +kernel⟩
noncomputable def ev_1216 : ZEV := ⟨([181, 0, 75], .putfield 75, 3), by decide +kernel⟩
noncomputable def ev_1217 : ZEV := ⟨([181, 0, 82], .putfield 82, 3), by decide +kernel⟩
noncomputable def ev_1218 : ZEV := ⟨([181, 0, 85], .putfield 85, 3), by decide +kernel⟩
noncomputable def ev_1219 : ZEV := ⟨([17, 39, 21], .sipush 10005, 3), by decide +kernel⟩
noncomputable def ev_1220 : ZEV := ⟨([181, 0, 88], .putfield 88, 3), by decide +kernel⟩
noncomputable def ev_1221 : ZEV := ⟨([181, 0, 91], .putfield 91, 3), by decide +kernel⟩
noncomputable def ev_1222 : ZEV := ⟨([181, 0, 94], .putfield 94, 3), by decide +kernel⟩
noncomputable def ev_1223 : ZEV := ⟨([181, 0, 97], .putfield 97, 3), by decide +kernel⟩
noncomputable def ev_1224 : ZEV := ⟨([181, 0, 100], .putfield 100, 3), by decide +kernel⟩
noncomputable def ev_1225 : ZEV := ⟨([181, 0, 103], .putfield 103, 3), by decide +kernel⟩
noncomputable def ev_1226 : ZEV := ⟨([181, 0, 106], .putfield 106, 3), by decide +kernel⟩
noncomputable def ev_1227 : ZEV := ⟨([181, 0, 109], .putfield 109, 3), by decide +kernel⟩
noncomputable def ev_1228 : ZEV := ⟨([181, 0, 112], .putfield 112, 3), by decide +kernel⟩
noncomputable def ev_1229 : ZEV := ⟨([181, 0, 115], .putfield 115, 3), by decide +kernel⟩
noncomputable def ev_1230 : ZEV := ⟨([181, 0, 118], .putfield 118, 3), by decide +kernel⟩
noncomputable def ev_1231 : ZEV := ⟨([181, 0, 121], .putfield 121, 3), by decide +kernel⟩
noncomputable def ev_1232 : ZEV := ⟨([181, 0, 124], .putfield 124, 3), by decide +kernel⟩
noncomputable def ev_1233 : ZEV := ⟨([181, 0, 127], .putfield 127, 3), by decide +kernel⟩
noncomputable def ev_1234 : ZEV := ⟨([16, 34], .bipush 34, 2), by decide +kernel⟩
noncomputable def ev_1235 : ZEV := ⟨([181, 0, 130], .putfield 130, 3), by decide +kernel⟩
noncomputable def ev_1236 : ZEV := ⟨([181, 0, 133], .putfield 133, 3), by decide +kernel⟩
noncomputable def ev_1237 : ZEV := ⟨([181, 0, 139], .putfield 139, 3), by decide +kernel⟩
noncomputable def ev_1238 : ZEV := ⟨([181, 0, 142], .putfield 142, 3), by decide +kernel⟩
noncomputable def ev_1239 : ZEV := ⟨([181, 0, 145], .putfield 145, 3), by decide +kernel⟩
noncomputable def ev_1240 : ZEV := ⟨([181, 0, 148], .putfield 148, 3), by decide +kernel⟩
noncomputable def ev_1241 : ZEV := ⟨([181, 0, 151], .putfield 151, 3), by decide +kernel⟩
noncomputable def ev_1242 : ZEV := ⟨([181, 0, 154], .putfield 154, 3), by decide +kernel⟩
noncomputable def ev_1243 : ZEV := ⟨([181, 0, 157], .putfield 157, 3), by decide +kernel⟩
noncomputable def ev_1244 : ZEV := ⟨([181, 0, 160], .putfield 160, 3), by decide +kernel⟩
noncomputable def ev_1245 : ZEV := ⟨([181, 0, 163], .putfield 163, 3), by decide +kernel⟩
noncomputable def ev_1246 : ZEV := ⟨([181, 0, 166], .putfield 166, 3), by decide +kernel⟩
noncomputable def ev_1247 : ZEV := ⟨([181, 0, 169], .putfield 169, 3), by decide +kernel⟩
noncomputable def ev_1248 : ZEV := ⟨([181, 0, 172], .putfield 172, 3), by decide +kernel⟩
noncomputable def ev_1249 : ZEV := ⟨([181, 0, 175], .putfield 175, 3), by decide +kernel⟩
noncomputable def ev_1250 : ZEV := ⟨([181, 0, 178], .putfield 178, 3), by decide +kernel⟩
noncomputable def ev_1251 : ZEV := ⟨([181, 0, 181], .putfield 181, 3), by decide +kernel⟩
noncomputable def ev_1252 : ZEV := ⟨([181, 0, 184], .putfield 184, 3), by decide +kernel⟩
noncomputable def ev_1253 : ZEV := ⟨([181, 0, 187], .putfield 187, 3), by decide +kernel⟩
noncomputable def ev_1254 : ZEV := ⟨([181, 0, 190], .putfield 190, 3), by decide +kernel⟩
noncomputable def ev_1255 : ZEV := ⟨([181, 0, 193], .putfield 193, 3), by decide +kernel⟩
noncomputable def ev_1256 : ZEV := ⟨([181, 0, 196], .putfield 196, 3), by decide +kernel⟩
noncomputable def ev_1257 : ZEV := ⟨([181, 0, 199], .putfield 199, 3), by decide +kernel⟩
noncomputable def ev_1258 : ZEV := ⟨([181, 0, 202], .putfield 202, 3), by decide +kernel⟩
noncomputable def ev_1259 : ZEV := ⟨([181, 0, 205], .putfield 205, 3), by decide +kernel⟩
noncomputable def ev_1260 : ZEV := ⟨([181, 0, 208], .putfield 208, 3), by decide +kernel⟩
noncomputable def ev_1261 : ZEV := ⟨([181, 0, 212], .putfield 212, 3), by decide +kernel⟩
noncomputable def ev_1262 : ZEV := ⟨([181, 0, 215], .putfield 215, 3), by decide +kernel⟩
noncomputable def ev_1263 : ZEV := ⟨([16, 12], .bipush 12, 2), by decide +kernel⟩
noncomputable def ev_1264 : ZEV := ⟨([181, 0, 218], .putfield 218, 3), by decide +kernel⟩
noncomputable def ev_1265 : ZEV := ⟨([181, 0, 221], .putfield 221, 3), by decide +kernel⟩
noncomputable def ev_1266 : ZEV := ⟨([181, 0, 224], .putfield 224, 3), by decide +kernel⟩
noncomputable def ev_1267 : ZEV := ⟨([181, 0, 227], .putfield 227, 3), by decide +kernel⟩
noncomputable def ev_1268 : ZEV := ⟨([181, 0, 230], .putfield 230, 3), by decide +kernel⟩
noncomputable def ev_1269 : ZEV := ⟨([181, 0, 233], .putfield 233, 3), by decide +kernel⟩
noncomputable def ev_1270 : ZEV := ⟨([181, 0, 236], .putfield 236, 3), by decide +kernel⟩
noncomputable def ev_1271 : ZEV := ⟨([181, 0, 239], .putfield 239, 3), by decide +kernel⟩
noncomputable def ev_1272 : ZEV := ⟨([17, 1, 144], .sipush 400, 3), by decide +kernel⟩
noncomputable def ev_1273 : ZEV := ⟨([181, 0, 242], .putfield 242, 3), by decide +kernel⟩
noncomputable def ev_1274 : ZEV := ⟨([181, 0, 245], .putfield 245, 3), by decide +kernel⟩
noncomputable def ev_1275 : ZEV := ⟨([181, 0, 248], .putfield 248, 3), by decide +kernel⟩
noncomputable def ev_1276 : ZEV := ⟨([181, 0, 251], .putfield 251, 3), by decide +kernel⟩
noncomputable def ev_1277 : ZEV := ⟨([181, 0, 254], .putfield 254, 3), by decide +kernel⟩
noncomputable def ev_1278 : ZEV := ⟨([181, 1, 1], .putfield 257, 3), by decide +kernel⟩
noncomputable def ev_1279 : ZEV := ⟨([181, 1, 4], .putfield 260, 3), by decide +kernel⟩
noncomputable def ev_1280 : ZEV := ⟨([181, 1, 7], .putfield 263, 3), by decide +kernel⟩
noncomputable def ev_1281 : ZEV := ⟨([181, 1, 10], .putfield 266, 3), by decide +kernel⟩
noncomputable def ev_1282 : ZEV := ⟨([181, 1, 13], .putfield 269, 3), by decide +kernel⟩
noncomputable def ev_1283 : ZEV := ⟨([181, 1, 16], .putfield 272, 3), by decide +kernel⟩
noncomputable def ev_1284 : ZEV := ⟨([182, 1, 19], .invokevirtual 275, 3), by decide +kernel⟩
noncomputable def ev_1285 : ZEV := ⟨([180, 1, 22], .getfield 278, 3), by decide +kernel⟩
noncomputable def ev_1286 : ZEV := ⟨([181, 1, 22], .putfield 278, 3), by decide +kernel⟩
noncomputable def ev_1287 : ZEV := ⟨([182, 1, 25], .invokevirtual 281, 3), by decide +kernel⟩
noncomputable def ev_1288 : ZEV := ⟨([180, 1, 29], .getfield 285, 3), by decide +kernel⟩
noncomputable def ev_1289 : ZEV := ⟨([155, 0, 28], .ifCond .lt 28, 3), by decide +kernel⟩
noncomputable def ev_1290 : ZEV := ⟨([180, 0, 16], .getfield 16, 3), by decide +kernel⟩
noncomputable def ev_1291 : ZEV := ⟨([180, 1, 32], .getfield 288, 3), by decide +kernel⟩
noncomputable def ev_1292 : ZEV := ⟨([51], .baload, 1), by decide +kernel⟩
noncomputable def ev_1293 : ZEV := ⟨([180, 1, 35], .getfield 291, 3), by decide +kernel⟩
noncomputable def ev_1294 : ZEV := ⟨([180, 0, 53], .getfield 53, 3), by decide +kernel⟩
noncomputable def ev_1295 : ZEV := ⟨([182, 1, 38], .invokevirtual 294, 3), by decide +kernel⟩
noncomputable def ev_1296 : ZEV := ⟨([181, 1, 35], .putfield 291, 3), by decide +kernel⟩
noncomputable def ev_1297 : ZEV := ⟨([182, 1, 42], .invokevirtual 298, 3), by decide +kernel⟩
noncomputable def ev_1298 : ZEV := ⟨([180, 0, 13], .getfield 13, 3), by decide +kernel⟩
noncomputable def ev_1299 : ZEV := ⟨([180, 0, 7], .getfield 7, 3), by decide +kernel⟩
noncomputable def ev_1300 : ZEV := ⟨([167, 0, 169], .goto 169, 3), by decide +kernel⟩
noncomputable def ev_1301 : ZEV := ⟨([84], .bastore, 1), by decide +kernel⟩
noncomputable def ev_1302 : ZEV := ⟨([180, 0, 20], .getfield 20, 3), by decide +kernel⟩
noncomputable def ev_1303 : ZEV := ⟨([167, 0, 99], .goto 99, 3), by decide +kernel⟩
noncomputable def ev_1304 : ZEV := ⟨([167, 0, 89], .goto 89, 3), by decide +kernel⟩
noncomputable def ev_1305 : ZEV := ⟨([154, 0, 18], .ifCond .ne 18, 3), by decide +kernel⟩
noncomputable def ev_1306 : ZEV := ⟨([167, 0, 65], .goto 65, 3), by decide +kernel⟩
noncomputable def ev_1307 : ZEV := ⟨([167, 0, 40], .goto 40, 3), by decide +kernel⟩
noncomputable def ev_1308 : ZEV := ⟨([167, 0, 25], .goto 25, 3), by decide +kernel⟩
noncomputable def ev_1309 : ZEV := ⟨([180, 0, 56], .getfield 56, 3), by decide +kernel⟩
noncomputable def ev_1310 : ZEV := ⟨([181, 1, 45], .putfield 301, 3), by decide +kernel⟩
noncomputable def ev_1311 : ZEV := ⟨([181, 1, 32], .putfield 288, 3), by decide +kernel⟩
noncomputable def ev_1312 : ZEV := ⟨([181, 1, 29], .putfield 285, 3), by decide +kernel⟩
noncomputable def ev_1313 : ZEV := ⟨([155, 0, 17], .ifCond .lt 17, 3), by decide +kernel⟩
noncomputable def ev_1314 : ZEV := ⟨([20, 1, 48], .ldc2_w 304, 3), by decide +kernel⟩
noncomputable def ev_1315 : ZEV := ⟨([20, 1, 50], .ldc2_w 306, 3), by decide +kernel⟩
noncomputable def ev_1316 : ZEV := ⟨([184, 1, 52], .invokestatic 308, 3), by decide +kernel⟩
noncomputable def ev_1317 : ZEV := ⟨([20, 1, 56], .ldc2_w 312, 3), by decide +kernel⟩
noncomputable def ev_1318 : ZEV := ⟨([182, 1, 58], .invokevirtual 314, 3), by decide +kernel⟩
noncomputable def ev_1319 : ZEV := ⟨([153, 0, 48], .ifCond .eq 48, 3), by decide +kernel⟩
noncomputable def ev_1320 : ZEV := ⟨([184, 1, 66], .invokestatic 322, 3), by decide +kernel⟩
noncomputable def ev_1321 : ZEV := ⟨([153, 0, 33], .ifCond .eq 33, 3), by decide +kernel⟩
noncomputable def ev_1322 : ZEV := ⟨([182, 1, 69], .invokevirtual 325, 3), by decide +kernel⟩
noncomputable def ev_1323 : ZEV := ⟨([182, 1, 73], .invokevirtual 329, 3), by decide +kernel⟩
noncomputable def ev_1324 : ZEV := ⟨([167, 0, 23], .goto 23, 3), by decide +kernel⟩
noncomputable def ev_1325 : ZEV := ⟨([20, 1, 76], .ldc2_w 332, 3), by decide +kernel⟩
noncomputable def ev_1326 : ZEV := ⟨([155, 0, 55], .ifCond .lt 55, 3), by decide +kernel⟩
noncomputable def ev_1327 : ZEV := ⟨([167, 255, 235], .goto (-21), 3), by decide +kernel⟩
noncomputable def ev_1328 : ZEV := ⟨([156, 0, 10], .ifCond .ge 10, 3), by decide +kernel⟩
noncomputable def ev_1329 : ZEV := ⟨([153, 0, 32], .ifCond .eq 32, 3), by decide +kernel⟩
noncomputable def ev_1330 : ZEV := ⟨([20, 1, 82], .ldc2_w 338, 3), by decide +kernel⟩
noncomputable def ev_1331 : ZEV := ⟨([20, 1, 87], .ldc2_w 343, 3), by decide +kernel⟩
noncomputable def ev_1332 : ZEV := ⟨([20, 1, 89], .ldc2_w 345, 3), by decide +kernel⟩
noncomputable def ev_1333 : ZEV := ⟨([20, 1, 91], .ldc2_w 347, 3), by decide +kernel⟩
noncomputable def ev_1334 : ZEV := ⟨([167, 0, 55], .goto 55, 3), by decide +kernel⟩
noncomputable def ev_1335 : ZEV := ⟨([182, 1, 93], .invokevirtual 349, 3), by decide +kernel⟩
noncomputable def ev_1336 : ZEV := ⟨([162, 0, 71], .if_icmp .ge 71, 3), by decide +kernel⟩
noncomputable def ev_1337 : ZEV := ⟨([153, 0, 50], .ifCond .eq 50, 3), by decide +kernel⟩
noncomputable def ev_1338 : ZEV := ⟨([167, 255, 183], .goto (-73), 3), by decide +kernel⟩
noncomputable def ev_1339 : ZEV := ⟨([20, 1, 96], .ldc2_w 352, 3), by decide +kernel⟩
noncomputable def ev_1340 : ZEV := ⟨([20, 1, 98], .ldc2_w 354, 3), by decide +kernel⟩
noncomputable def ev_1341 : ZEV := ⟨([181, 1, 100], .putfield 356, 3), by decide +kernel⟩
noncomputable def ev_1342 : ZEV := ⟨([180, 1, 103], .getfield 359, 3), by decide +kernel⟩
noncomputable def ev_1343 : ZEV := ⟨([167, 0, 18], .goto 18, 3), by decide +kernel⟩
noncomputable def ev_1344 : ZEV := ⟨([180, 1, 106], .getfield 362, 3), by decide +kernel⟩
noncomputable def ev_1345 : ZEV := ⟨([181, 1, 103], .putfield 359, 3), by decide +kernel⟩
noncomputable def ev_1346 : ZEV := ⟨([181, 1, 106], .putfield 362, 3), by decide +kernel⟩
noncomputable def ev_1347 : ZEV := ⟨([180, 1, 109], .getfield 365, 3), by decide +kernel⟩
noncomputable def ev_1348 : ZEV := ⟨([181, 1, 109], .putfield 365, 3), by decide +kernel⟩
noncomputable def ev_1349 : ZEV := ⟨([181, 1, 112], .putfield 368, 3), by decide +kernel⟩
noncomputable def ev_1350 : ZEV := ⟨([181, 1, 115], .putfield 371, 3), by decide +kernel⟩
noncomputable def ev_1351 : ZEV := ⟨([181, 1, 118], .putfield 374, 3), by decide +kernel⟩
noncomputable def ev_1352 : ZEV := ⟨([160, 0, 37], .if_icmp .ne 37, 3), by decide +kernel⟩
noncomputable def ev_1353 : ZEV := ⟨([153, 0, 53], .ifCond .eq 53, 3), by decide +kernel⟩
noncomputable def ev_1354 : ZEV := ⟨([182, 1, 124], .invokevirtual 380, 3), by decide +kernel⟩
noncomputable def ev_1355 : ZEV := ⟨([180, 1, 128], .getfield 384, 3), by decide +kernel⟩
noncomputable def ev_1356 : ZEV := ⟨([181, 1, 128], .putfield 384, 3), by decide +kernel⟩
noncomputable def ev_1357 : ZEV := ⟨([184, 1, 132], .invokestatic 388, 3), by decide +kernel⟩
noncomputable def ev_1358 : ZEV := ⟨([180, 1, 115], .getfield 371, 3), by decide +kernel⟩
noncomputable def ev_1359 : ZEV := ⟨([159, 0, 12], .if_icmp .eq 12, 3), by decide +kernel⟩
noncomputable def ev_1360 : ZEV := ⟨([180, 1, 112], .getfield 368, 3), by decide +kernel⟩
noncomputable def ev_1361 : ZEV := ⟨([182, 1, 135], .invokevirtual 391, 3), by decide +kernel⟩
noncomputable def ev_1362 : ZEV := ⟨([153, 0, 60], .ifCond .eq 60, 3), by decide +kernel⟩
noncomputable def ev_1363 : ZEV := ⟨([20, 1, 138], .ldc2_w 394, 3), by decide +kernel⟩
noncomputable def ev_1364 : ZEV := ⟨([20, 1, 140], .ldc2_w 396, 3), by decide +kernel⟩
noncomputable def ev_1365 : ZEV := ⟨([164, 0, 22], .if_icmp .le 22, 3), by decide +kernel⟩
noncomputable def ev_1366 : ZEV := ⟨([181, 1, 142], .putfield 398, 3), by decide +kernel⟩
noncomputable def ev_1367 : ZEV := ⟨([182, 1, 145], .invokevirtual 401, 3), by decide +kernel⟩
noncomputable def ev_1368 : ZEV := ⟨([182, 1, 148], .invokevirtual 404, 3), by decide +kernel⟩
noncomputable def ev_1369 : ZEV := ⟨([154, 0, 21], .ifCond .ne 21, 3), by decide +kernel⟩
noncomputable def ev_1370 : ZEV := ⟨([182, 1, 151], .invokevirtual 407, 3), by decide +kernel⟩
noncomputable def ev_1371 : ZEV := ⟨([154, 255, 234], .ifCond .ne (-22), 3), by decide +kernel⟩
noncomputable def ev_1372 : ZEV := ⟨([158, 0, 6], .ifCond .le 6, 3), by decide +kernel⟩
noncomputable def ev_1373 : ZEV := ⟨([180, 1, 142], .getfield 398, 3), by decide +kernel⟩
noncomputable def ev_1374 : ZEV := ⟨([162, 0, 165], .if_icmp .ge 165, 3), by decide +kernel⟩
noncomputable def ev_1375 : ZEV := ⟨([167, 0, 96], .goto 96, 3), by decide +kernel⟩
noncomputable def ev_1376 : ZEV := ⟨([167, 0, 45], .goto 45, 3), by decide +kernel⟩
noncomputable def ev_1377 : ZEV := ⟨([167, 0, 26], .goto 26, 3), by decide +kernel⟩
noncomputable def ev_1378 : ZEV := ⟨([167, 255, 89], .goto (-167), 3), by decide +kernel⟩
noncomputable def ev_1379 : ZEV := ⟨([17, 1, 64], .sipush 320, 3), by decide +kernel⟩
noncomputable def ev_1380 : ZEV := ⟨([180, 1, 118], .getfield 374, 3), by decide +kernel⟩
noncomputable def ev_1381 : ZEV := ⟨([159, 0, 25], .if_icmp .eq 25, 3), by decide +kernel⟩
noncomputable def ev_1382 : ZEV := ⟨([16, 116], .bipush 116, 2), by decide +kernel⟩
noncomputable def ev_1383 : ZEV := ⟨([16, 119], .bipush 119, 2), by decide +kernel⟩
noncomputable def ev_1384 : ZEV := ⟨([159, 0, 13], .if_icmp .eq 13, 3), by decide +kernel⟩
noncomputable def ev_1385 : ZEV := ⟨([153, 0, 127], .ifCond .eq 127, 3), by decide +kernel⟩
noncomputable def ev_1386 : ZEV := ⟨([154, 0, 120], .ifCond .ne 120, 3), by decide +kernel⟩
noncomputable def ev_1387 : ZEV := ⟨([182, 1, 154], .invokevirtual 410, 3), by decide +kernel⟩
noncomputable def ev_1388 : ZEV := ⟨([154, 0, 36], .ifCond .ne 36, 3), by decide +kernel⟩
noncomputable def ev_1389 : ZEV := ⟨([160, 0, 21], .if_icmp .ne 21, 3), by decide +kernel⟩
noncomputable def ev_1390 : ZEV := ⟨([154, 0, 45], .ifCond .ne 45, 3), by decide +kernel⟩
noncomputable def ev_1391 : ZEV := ⟨([167, 255, 130], .goto (-126), 3), by decide +kernel⟩
noncomputable def ev_1392 : ZEV := ⟨([154, 0, 58], .ifCond .ne 58, 3), by decide +kernel⟩
noncomputable def ev_1393 : ZEV := ⟨([182, 1, 158], .invokevirtual 414, 3), by decide +kernel⟩
noncomputable def ev_1394 : ZEV := ⟨([161, 0, 9], .if_icmp .lt 9, 3), by decide +kernel⟩
noncomputable def ev_1395 : ZEV := ⟨([162, 0, 77], .if_icmp .ge 77, 3), by decide +kernel⟩
noncomputable def ev_1396 : ZEV := ⟨([153, 0, 36], .ifCond .eq 36, 3), by decide +kernel⟩
noncomputable def ev_1397 : ZEV := ⟨([180, 1, 162], .getfield 418, 3), by decide +kernel⟩
noncomputable def ev_1398 : ZEV := ⟨([181, 1, 162], .putfield 418, 3), by decide +kernel⟩
noncomputable def ev_1399 : ZEV := ⟨([182, 1, 165], .invokevirtual 421, 3), by decide +kernel⟩
noncomputable def ev_1400 : ZEV := ⟨([156, 0, 8], .ifCond .ge 8, 3), by decide +kernel⟩
noncomputable def ev_1401 : ZEV := ⟨([161, 0, 11], .if_icmp .lt 11, 3), by decide +kernel⟩
noncomputable def ev_1402 : ZEV := ⟨([158, 0, 24], .ifCond .le 24, 3), by decide +kernel⟩
noncomputable def ev_1403 : ZEV := ⟨([162, 0, 48], .if_icmp .ge 48, 3), by decide +kernel⟩
noncomputable def ev_1404 : ZEV := ⟨([167, 255, 206], .goto (-50), 3), by decide +kernel⟩
noncomputable def ev_1405 : ZEV := ⟨([162, 0, 89], .if_icmp .ge 89, 3), by decide +kernel⟩
noncomputable def ev_1406 : ZEV := ⟨([153, 0, 74], .ifCond .eq 74, 3), by decide +kernel⟩
noncomputable def ev_1407 : ZEV := ⟨([182, 1, 168], .invokevirtual 424, 3), by decide +kernel⟩
noncomputable def ev_1408 : ZEV := ⟨([153, 0, 57], .ifCond .eq 57, 3), by decide +kernel⟩
noncomputable def ev_1409 : ZEV := ⟨([159, 0, 51], .if_icmp .eq 51, 3), by decide +kernel⟩
noncomputable def ev_1410 : ZEV := ⟨([159, 0, 45], .if_icmp .eq 45, 3), by decide +kernel⟩
noncomputable def ev_1411 : ZEV := ⟨([159, 0, 39], .if_icmp .eq 39, 3), by decide +kernel⟩
noncomputable def ev_1412 : ZEV := ⟨([167, 255, 148], .goto (-108), 3), by decide +kernel⟩
noncomputable def ev_1413 : ZEV := ⟨([167, 255, 189], .goto (-67), 3), by decide +kernel⟩
noncomputable def ev_1414 : ZEV := ⟨([163, 0, 184], .if_icmp .gt 184, 3), by decide +kernel⟩
noncomputable def ev_1415 : ZEV := ⟨([153, 0, 180], .ifCond .eq 180, 3), by decide +kernel⟩
noncomputable def ev_1416 : ZEV := ⟨([162, 0, 153], .if_icmp .ge 153, 3), by decide +kernel⟩
noncomputable def ev_1417 : ZEV := ⟨([153, 0, 137], .ifCond .eq 137, 3), by decide +kernel⟩
noncomputable def ev_1418 : ZEV := ⟨([184, 1, 171], .invokestatic 427, 3), by decide +kernel⟩
noncomputable def ev_1419 : ZEV := ⟨([153, 0, 123], .ifCond .eq 123, 3), by decide +kernel⟩
noncomputable def ev_1420 : ZEV := ⟨([153, 0, 109], .ifCond .eq 109, 3), by decide +kernel⟩
noncomputable def ev_1421 : ZEV := ⟨([156, 0, 90], .ifCond .ge 90, 3), by decide +kernel⟩
noncomputable def ev_1422 : ZEV := ⟨([156, 0, 33], .ifCond .ge 33, 3), by decide +kernel⟩
noncomputable def ev_1423 : ZEV := ⟨([167, 255, 96], .goto (-160), 3), by decide +kernel⟩
noncomputable def ev_1424 : ZEV := ⟨([167, 255, 69], .goto (-187), 3), by decide +kernel⟩
noncomputable def ev_1425 : ZEV := ⟨([182, 1, 174], .invokevirtual 430, 3), by decide +kernel⟩
noncomputable def ev_1426 : ZEV := ⟨([162, 0, 190], .if_icmp .ge 190, 3), by decide +kernel⟩
noncomputable def ev_1427 : ZEV := ⟨([153, 0, 149], .ifCond .eq 149, 3), by decide +kernel⟩
noncomputable def ev_1428 : ZEV := ⟨([153, 0, 135], .ifCond .eq 135, 3), by decide +kernel⟩
noncomputable def ev_1429 : ZEV := ⟨([153, 0, 121], .ifCond .eq 121, 3), by decide +kernel⟩
noncomputable def ev_1430 : ZEV := ⟨([156, 0, 102], .ifCond .ge 102, 3), by decide +kernel⟩
noncomputable def ev_1431 : ZEV := ⟨([167, 255, 84], .goto (-172), 3), by decide +kernel⟩
noncomputable def ev_1432 : ZEV := ⟨([167, 255, 64], .goto (-192), 3), by decide +kernel⟩
noncomputable def ev_1433 : ZEV := ⟨([182, 1, 177], .invokevirtual 433, 3), by decide +kernel⟩
noncomputable def ev_1434 : ZEV := ⟨([153, 0, 24], .ifCond .eq 24, 3), by decide +kernel⟩
noncomputable def ev_1435 : ZEV := ⟨([182, 1, 181], .invokevirtual 437, 3), by decide +kernel⟩
noncomputable def ev_1436 : ZEV := ⟨([167, 0, 24], .goto 24, 3), by decide +kernel⟩
noncomputable def ev_1437 : ZEV := ⟨([182, 1, 184], .invokevirtual 440, 3), by decide +kernel⟩
noncomputable def ev_1438 : ZEV := ⟨([20, 1, 187], .ldc2_w 443, 3), by decide +kernel⟩
noncomputable def ev_1439 : ZEV := ⟨([17, 0, 159], .sipush 159, 3), by decide +kernel⟩
noncomputable def ev_1440 : ZEV := ⟨([155, 0, 151], .ifCond .lt 151, 3), by decide +kernel⟩
noncomputable def ev_1441 : ZEV := ⟨([160, 0, 41], .if_icmp .ne 41, 3), by decide +kernel⟩
noncomputable def ev_1442 : ZEV := ⟨([154, 0, 32], .ifCond .ne 32, 3), by decide +kernel⟩
noncomputable def ev_1443 : ZEV := ⟨([132, 8, 255], .iinc 8 (-1), 3), by decide +kernel⟩
noncomputable def ev_1444 : ZEV := ⟨([167, 255, 72], .goto (-184), 3), by decide +kernel⟩
noncomputable def ev_1445 : ZEV := ⟨([19, 1, 189], .ldc_w 445, 3), by decide +kernel⟩
noncomputable def ev_1446 : ZEV := ⟨([162, 0, 151], .if_icmp .ge 151, 3), by decide +kernel⟩
noncomputable def ev_1447 : ZEV := ⟨([162, 0, 126], .if_icmp .ge 126, 3), by decide +kernel⟩
noncomputable def ev_1448 : ZEV := ⟨([155, 0, 95], .ifCond .lt 95, 3), by decide +kernel⟩
noncomputable def ev_1449 : ZEV := ⟨([162, 0, 13], .if_icmp .ge 13, 3), by decide +kernel⟩
noncomputable def ev_1450 : ZEV := ⟨([167, 255, 123], .goto (-133), 3), by decide +kernel⟩
noncomputable def ev_1451 : ZEV := ⟨([167, 255, 103], .goto (-153), 3), by decide +kernel⟩
noncomputable def ev_1452 : ZEV := ⟨([180, 1, 190], .getfield 446, 3), by decide +kernel⟩
noncomputable def ev_1453 : ZEV := ⟨([163, 0, 126], .if_icmp .gt 126, 3), by decide +kernel⟩
noncomputable def ev_1454 : ZEV := ⟨([180, 0, 88], .getfield 88, 3), by decide +kernel⟩
noncomputable def ev_1455 : ZEV := ⟨([132, 9, 1], .iinc 9 1, 3), by decide +kernel⟩
noncomputable def ev_1456 : ZEV := ⟨([181, 1, 190], .putfield 446, 3), by decide +kernel⟩
noncomputable def ev_1457 : ZEV := ⟨([160, 0, 25], .if_icmp .ne 25, 3), by decide +kernel⟩
noncomputable def ev_1458 : ZEV := ⟨([163, 0, 68], .if_icmp .gt 68, 3), by decide +kernel⟩
noncomputable def ev_1459 : ZEV := ⟨([182, 1, 193], .invokevirtual 449, 3), by decide +kernel⟩
noncomputable def ev_1460 : ZEV := ⟨([182, 1, 197], .invokevirtual 453, 3), by decide +kernel⟩
noncomputable def ev_1461 : ZEV := ⟨([182, 1, 201], .invokevirtual 457, 3), by decide +kernel⟩
noncomputable def ev_1462 : ZEV := ⟨([163, 0, 71], .if_icmp .gt 71, 3), by decide +kernel⟩
noncomputable def ev_1463 : ZEV := ⟨([153, 0, 54], .ifCond .eq 54, 3), by decide +kernel⟩
noncomputable def ev_1464 : ZEV := ⟨([167, 0, 20], .goto 20, 3), by decide +kernel⟩
noncomputable def ev_1465 : ZEV := ⟨([182, 1, 205], .invokevirtual 461, 3), by decide +kernel⟩
noncomputable def ev_1466 : ZEV := ⟨([162, 0, 142], .if_icmp .ge 142, 3), by decide +kernel⟩
noncomputable def ev_1467 : ZEV := ⟨([163, 0, 132], .if_icmp .gt 132, 3), by decide +kernel⟩
noncomputable def ev_1468 : ZEV := ⟨([153, 0, 114], .ifCond .eq 114, 3), by decide +kernel⟩
noncomputable def ev_1469 : ZEV := ⟨([167, 0, 80], .goto 80, 3), by decide +kernel⟩
noncomputable def ev_1470 : ZEV := ⟨([162, 0, 69], .if_icmp .ge 69, 3), by decide +kernel⟩
noncomputable def ev_1471 : ZEV := ⟨([167, 255, 185], .goto (-71), 3), by decide +kernel⟩
noncomputable def ev_1472 : ZEV := ⟨([167, 255, 112], .goto (-144), 3), by decide +kernel⟩
noncomputable def ev_1473 : ZEV := ⟨([159, 0, 28], .if_icmp .eq 28, 3), by decide +kernel⟩
noncomputable def ev_1474 : ZEV := ⟨([163, 0, 61], .if_icmp .gt 61, 3), by decide +kernel⟩
noncomputable def ev_1475 : ZEV := ⟨([159, 0, 32], .if_icmp .eq 32, 3), by decide +kernel⟩
noncomputable def ev_1476 : ZEV := ⟨([167, 255, 238], .goto (-18), 3), by decide +kernel⟩
noncomputable def ev_1477 : ZEV := ⟨([162, 0, 226], .if_icmp .ge 226, 3), by decide +kernel⟩
noncomputable def ev_1478 : ZEV := ⟨([162, 0, 181], .if_icmp .ge 181, 3), by decide +kernel⟩
noncomputable def ev_1479 : ZEV := ⟨([162, 0, 11], .if_icmp .ge 11, 3), by decide +kernel⟩
noncomputable def ev_1480 : ZEV := ⟨([162, 0, 109], .if_icmp .ge 109, 3), by decide +kernel⟩
noncomputable def ev_1481 : ZEV := ⟨([159, 0, 24], .if_icmp .eq 24, 3), by decide +kernel⟩
noncomputable def ev_1482 : ZEV := ⟨([182, 1, 208], .invokevirtual 464, 3), by decide +kernel⟩
noncomputable def ev_1483 : ZEV := ⟨([167, 255, 146], .goto (-110), 3), by decide +kernel⟩
noncomputable def ev_1484 : ZEV := ⟨([167, 255, 73], .goto (-183), 3), by decide +kernel⟩
noncomputable def ev_1485 : ZEV := ⟨([167, 255, 28], .goto (-228), 3), by decide +kernel⟩
noncomputable def ev_1486 : ZEV := ⟨([182, 1, 211], .invokevirtual 467, 3), by decide +kernel⟩
noncomputable def ev_1487 : ZEV := ⟨([182, 1, 214], .invokevirtual 470, 3), by decide +kernel⟩
noncomputable def ev_1488 : ZEV := ⟨([162, 0, 18], .if_icmp .ge 18, 3), by decide +kernel⟩
noncomputable def ev_1489 : ZEV := ⟨([167, 255, 245], .goto (-11), 3), by decide +kernel⟩
noncomputable def ev_1490 : ZEV := ⟨([184, 1, 217], .invokestatic 473, 3), by decide +kernel⟩
noncomputable def ev_1491 : ZEV := ⟨([167, 255, 215], .goto (-41), 3), by decide +kernel⟩
noncomputable def ev_1492 : ZEV := ⟨([182, 1, 220], .invokevirtual 476, 3), by decide +kernel⟩
noncomputable def ev_1493 : ZEV := ⟨([182, 1, 223], .invokevirtual 479, 3), by decide +kernel⟩
noncomputable def ev_1494 : ZEV := ⟨([162, 0, 158], .if_icmp .ge 158, 3), by decide +kernel⟩
noncomputable def ev_1495 : ZEV := ⟨([155, 0, 110], .ifCond .lt 110, 3), by decide +kernel⟩
noncomputable def ev_1496 : ZEV := ⟨([153, 0, 52], .ifCond .eq 52, 3), by decide +kernel⟩
noncomputable def ev_1497 : ZEV := ⟨([160, 0, 17], .if_icmp .ne 17, 3), by decide +kernel⟩
noncomputable def ev_1498 : ZEV := ⟨([167, 255, 192], .goto (-64), 3), by decide +kernel⟩
noncomputable def ev_1499 : ZEV := ⟨([132, 6, 255], .iinc 6 (-1), 3), by decide +kernel⟩
noncomputable def ev_1500 : ZEV := ⟨([167, 255, 95], .goto (-161), 3), by decide +kernel⟩
noncomputable def ev_1501 : ZEV := ⟨([162, 0, 84], .if_icmp .ge 84, 3), by decide +kernel⟩
noncomputable def ev_1502 : ZEV := ⟨([153, 0, 69], .ifCond .eq 69, 3), by decide +kernel⟩
noncomputable def ev_1503 : ZEV := ⟨([167, 255, 170], .goto (-86), 3), by decide +kernel⟩
noncomputable def ev_1504 : ZEV := ⟨([153, 0, 76], .ifCond .eq 76, 3), by decide +kernel⟩
noncomputable def ev_1505 : ZEV := ⟨([182, 1, 226], .invokevirtual 482, 3), by decide +kernel⟩
noncomputable def ev_1506 : ZEV := ⟨([180, 0, 100], .getfield 100, 3), by decide +kernel⟩
noncomputable def ev_1507 : ZEV := ⟨([153, 0, 67], .ifCond .eq 67, 3), by decide +kernel⟩
noncomputable def ev_1508 : ZEV := ⟨([167, 255, 174], .goto (-82), 3), by decide +kernel⟩
noncomputable def ev_1509 : ZEV := ⟨([167, 255, 239], .goto (-17), 3), by decide +kernel⟩
noncomputable def ev_1510 : ZEV := ⟨([182, 1, 229], .invokevirtual 485, 3), by decide +kernel⟩
noncomputable def ev_1511 : ZEV := ⟨([180, 0, 106], .getfield 106, 3), by decide +kernel⟩
noncomputable def ev_1512 : ZEV := ⟨([180, 0, 103], .getfield 103, 3), by decide +kernel⟩
noncomputable def ev_1513 : ZEV := ⟨([155, 0, 120], .ifCond .lt 120, 3), by decide +kernel⟩
noncomputable def ev_1514 : ZEV := ⟨([164, 0, 12], .if_icmp .le 12, 3), by decide +kernel⟩
noncomputable def ev_1515 : ZEV := ⟨([184, 1, 232], .invokestatic 488, 3), by decide +kernel⟩
noncomputable def ev_1516 : ZEV := ⟨([163, 0, 9], .if_icmp .gt 9, 3), by decide +kernel⟩
noncomputable def ev_1517 : ZEV := ⟨([182, 1, 235], .invokevirtual 491, 3), by decide +kernel⟩
noncomputable def ev_1518 : ZEV := ⟨([180, 0, 112], .getfield 112, 3), by decide +kernel⟩
noncomputable def ev_1519 : ZEV := ⟨([180, 1, 239], .getfield 495, 3), by decide +kernel⟩
noncomputable def ev_1520 : ZEV := ⟨([153, 0, 71], .ifCond .eq 71, 3), by decide +kernel⟩
noncomputable def ev_1521 : ZEV := ⟨([156, 0, 61], .ifCond .ge 61, 3), by decide +kernel⟩
noncomputable def ev_1522 : ZEV := ⟨([182, 1, 242], .invokevirtual 498, 3), by decide +kernel⟩
noncomputable def ev_1523 : ZEV := ⟨([161, 0, 16], .if_icmp .lt 16, 3), by decide +kernel⟩
noncomputable def ev_1524 : ZEV := ⟨([164, 0, 13], .if_icmp .le 13, 3), by decide +kernel⟩
noncomputable def ev_1525 : ZEV := ⟨([153, 0, 72], .ifCond .eq 72, 3), by decide +kernel⟩
noncomputable def ev_1526 : ZEV := ⟨([164, 0, 14], .if_icmp .le 14, 3), by decide +kernel⟩
noncomputable def ev_1527 : ZEV := ⟨([159, 0, 53], .if_icmp .eq 53, 3), by decide +kernel⟩
noncomputable def ev_1528 : ZEV := ⟨([167, 255, 203], .goto (-53), 3), by decide +kernel⟩
noncomputable def ev_1529 : ZEV := ⟨([162, 0, 44], .if_icmp .ge 44, 3), by decide +kernel⟩
noncomputable def ev_1530 : ZEV := ⟨([180, 0, 109], .getfield 109, 3), by decide +kernel⟩
noncomputable def ev_1531 : ZEV := ⟨([167, 255, 210], .goto (-46), 3), by decide +kernel⟩
noncomputable def ev_1532 : ZEV := ⟨([182, 1, 245], .invokevirtual 501, 3), by decide +kernel⟩
noncomputable def ev_1533 : ZEV := ⟨([153, 0, 68], .ifCond .eq 68, 3), by decide +kernel⟩
noncomputable def ev_1534 : ZEV := ⟨([182, 1, 248], .invokevirtual 504, 3), by decide +kernel⟩
noncomputable def ev_1535 : ZEV := ⟨([181, 1, 239], .putfield 495, 3), by decide +kernel⟩
noncomputable def ev_1536 : ZEV := ⟨([182, 1, 251], .invokevirtual 507, 3), by decide +kernel⟩
noncomputable def ev_1537 : ZEV := ⟨([180, 0, 118], .getfield 118, 3), by decide +kernel⟩
noncomputable def ev_1538 : ZEV := ⟨([180, 0, 115], .getfield 115, 3), by decide +kernel⟩
noncomputable def ev_1539 : ZEV := ⟨([180, 0, 121], .getfield 121, 3), by decide +kernel⟩
noncomputable def ev_1540 : ZEV := ⟨([184, 1, 254], .invokestatic 510, 3), by decide +kernel⟩
noncomputable def ev_1541 : ZEV := ⟨([180, 0, 124], .getfield 124, 3), by decide +kernel⟩
noncomputable def ev_1542 : ZEV := ⟨([182, 2, 1], .invokevirtual 513, 3), by decide +kernel⟩
noncomputable def ev_1543 : ZEV := ⟨([182, 2, 4], .invokevirtual 516, 3), by decide +kernel⟩
noncomputable def ev_1544 : ZEV := ⟨([155, 0, 195], .ifCond .lt 195, 3), by decide +kernel⟩
noncomputable def ev_1545 : ZEV := ⟨([154, 0, 79], .ifCond .ne 79, 3), by decide +kernel⟩
noncomputable def ev_1546 : ZEV := ⟨([155, 0, 35], .ifCond .lt 35, 3), by decide +kernel⟩
noncomputable def ev_1547 : ZEV := ⟨([167, 0, 91], .goto 91, 3), by decide +kernel⟩
noncomputable def ev_1548 : ZEV := ⟨([156, 0, 5], .ifCond .ge 5, 3), by decide +kernel⟩
noncomputable def ev_1549 : ZEV := ⟨([161, 0, 10], .if_icmp .lt 10, 3), by decide +kernel⟩
noncomputable def ev_1550 : ZEV := ⟨([167, 255, 63], .goto (-193), 3), by decide +kernel⟩
noncomputable def ev_1551 : ZEV := ⟨([182, 2, 7], .invokevirtual 519, 3), by decide +kernel⟩
noncomputable def ev_1552 : ZEV := ⟨([163, 0, 93], .if_icmp .gt 93, 3), by decide +kernel⟩
noncomputable def ev_1553 : ZEV := ⟨([154, 0, 76], .ifCond .ne 76, 3), by decide +kernel⟩
noncomputable def ev_1554 : ZEV := ⟨([154, 255, 199], .ifCond .ne (-57), 3), by decide +kernel⟩
noncomputable def ev_1555 : ZEV := ⟨([162, 0, 215], .if_icmp .ge 215, 3), by decide +kernel⟩
noncomputable def ev_1556 : ZEV := ⟨([160, 0, 70], .if_icmp .ne 70, 3), by decide +kernel⟩
noncomputable def ev_1557 : ZEV := ⟨([156, 0, 55], .ifCond .ge 55, 3), by decide +kernel⟩
noncomputable def ev_1558 : ZEV := ⟨([180, 0, 127], .getfield 127, 3), by decide +kernel⟩
noncomputable def ev_1559 : ZEV := ⟨([167, 0, 86], .goto 86, 3), by decide +kernel⟩
noncomputable def ev_1560 : ZEV := ⟨([160, 0, 64], .if_icmp .ne 64, 3), by decide +kernel⟩
noncomputable def ev_1561 : ZEV := ⟨([156, 0, 49], .ifCond .ge 49, 3), by decide +kernel⟩
noncomputable def ev_1562 : ZEV := ⟨([158, 0, 37], .ifCond .le 37, 3), by decide +kernel⟩
noncomputable def ev_1563 : ZEV := ⟨([167, 255, 42], .goto (-214), 3), by decide +kernel⟩
noncomputable def ev_1564 : ZEV := ⟨([182, 2, 10], .invokevirtual 522, 3), by decide +kernel⟩
noncomputable def ev_1565 : ZEV := ⟨([155, 0, 98], .ifCond .lt 98, 3), by decide +kernel⟩
noncomputable def ev_1566 : ZEV := ⟨([20, 2, 13], .ldc2_w 525, 3), by decide +kernel⟩
noncomputable def ev_1567 : ZEV := ⟨([182, 2, 15], .invokevirtual 527, 3), by decide +kernel⟩
noncomputable def ev_1568 : ZEV := ⟨([156, 0, 12], .ifCond .ge 12, 3), by decide +kernel⟩
noncomputable def ev_1569 : ZEV := ⟨([182, 2, 19], .invokevirtual 531, 3), by decide +kernel⟩
noncomputable def ev_1570 : ZEV := ⟨([182, 2, 22], .invokevirtual 534, 3), by decide +kernel⟩
noncomputable def ev_1571 : ZEV := ⟨([167, 255, 155], .goto (-101), 3), by decide +kernel⟩
noncomputable def ev_1572 : ZEV := ⟨([182, 2, 26], .invokevirtual 538, 3), by decide +kernel⟩
noncomputable def ev_1573 : ZEV := ⟨([182, 2, 29], .invokevirtual 541, 3), by decide +kernel⟩
noncomputable def ev_1574 : ZEV := ⟨([180, 0, 133], .getfield 133, 3), by decide +kernel⟩
noncomputable def ev_1575 : ZEV := ⟨([153, 1, 26], .ifCond .eq 282, 3), by decide +kernel⟩
noncomputable def ev_1576 : ZEV := ⟨([162, 1, 12], .if_icmp .ge 268, 3), by decide +kernel⟩
noncomputable def ev_1577 : ZEV := ⟨([153, 0, 244], .ifCond .eq 244, 3), by decide +kernel⟩
noncomputable def ev_1578 : ZEV := ⟨([156, 0, 107], .ifCond .ge 107, 3), by decide +kernel⟩
noncomputable def ev_1579 : ZEV := ⟨([156, 0, 88], .ifCond .ge 88, 3), by decide +kernel⟩
noncomputable def ev_1580 : ZEV := ⟨([156, 0, 51], .ifCond .ge 51, 3), by decide +kernel⟩
noncomputable def ev_1581 : ZEV := ⟨([158, 0, 111], .ifCond .le 111, 3), by decide +kernel⟩
noncomputable def ev_1582 : ZEV := ⟨([156, 0, 92], .ifCond .ge 92, 3), by decide +kernel⟩
noncomputable def ev_1583 : ZEV := ⟨([167, 254, 243], .goto (-269), 3), by decide +kernel⟩
noncomputable def ev_1584 : ZEV := ⟨([167, 254, 232], .goto (-280), 3), by decide +kernel⟩
noncomputable def ev_1585 : ZEV := ⟨([20, 2, 33], .ldc2_w 545, 3), by decide +kernel⟩
noncomputable def ev_1586 : ZEV := ⟨([162, 0, 40], .if_icmp .ge 40, 3), by decide +kernel⟩
noncomputable def ev_1587 : ZEV := ⟨([162, 0, 111], .if_icmp .ge 111, 3), by decide +kernel⟩
noncomputable def ev_1588 : ZEV := ⟨([156, 0, 14], .ifCond .ge 14, 3), by decide +kernel⟩
noncomputable def ev_1589 : ZEV := ⟨([167, 255, 143], .goto (-113), 3), by decide +kernel⟩
noncomputable def ev_1590 : ZEV := ⟨([182, 2, 35], .invokevirtual 547, 3), by decide +kernel⟩
noncomputable def ev_1591 : ZEV := ⟨([162, 0, 54], .if_icmp .ge 54, 3), by decide +kernel⟩
noncomputable def ev_1592 : ZEV := ⟨([182, 2, 38], .invokevirtual 550, 3), by decide +kernel⟩
noncomputable def ev_1593 : ZEV := ⟨([162, 0, 59], .if_icmp .ge 59, 3), by decide +kernel⟩
noncomputable def ev_1594 : ZEV := ⟨([156, 0, 40], .ifCond .ge 40, 3), by decide +kernel⟩
noncomputable def ev_1595 : ZEV := ⟨([156, 0, 27], .ifCond .ge 27, 3), by decide +kernel⟩
noncomputable def ev_1596 : ZEV := ⟨([155, 0, 19], .ifCond .lt 19, 3), by decide +kernel⟩
noncomputable def ev_1597 : ZEV := ⟨([159, 0, 36], .if_icmp .eq 36, 3), by decide +kernel⟩
noncomputable def ev_1598 : ZEV := ⟨([162, 0, 131], .if_icmp .ge 131, 3), by decide +kernel⟩
noncomputable def ev_1599 : ZEV := ⟨([153, 0, 117], .ifCond .eq 117, 3), by decide +kernel⟩
noncomputable def ev_1600 : ZEV := ⟨([182, 2, 41], .invokevirtual 553, 3), by decide +kernel⟩
noncomputable def ev_1601 : ZEV := ⟨([159, 0, 80], .if_icmp .eq 80, 3), by decide +kernel⟩
noncomputable def ev_1602 : ZEV := ⟨([156, 0, 18], .ifCond .ge 18, 3), by decide +kernel⟩
noncomputable def ev_1603 : ZEV := ⟨([167, 255, 124], .goto (-132), 3), by decide +kernel⟩
noncomputable def ev_1604 : ZEV := ⟨([182, 2, 44], .invokevirtual 556, 3), by decide +kernel⟩
noncomputable def ev_1605 : ZEV := ⟨([155, 0, 38], .ifCond .lt 38, 3), by decide +kernel⟩
noncomputable def ev_1606 : ZEV := ⟨([153, 0, 173], .ifCond .eq 173, 3), by decide +kernel⟩
noncomputable def ev_1607 : ZEV := ⟨([162, 0, 159], .if_icmp .ge 159, 3), by decide +kernel⟩
noncomputable def ev_1608 : ZEV := ⟨([156, 0, 129], .ifCond .ge 129, 3), by decide +kernel⟩
noncomputable def ev_1609 : ZEV := ⟨([156, 0, 116], .ifCond .ge 116, 3), by decide +kernel⟩
noncomputable def ev_1610 : ZEV := ⟨([159, 0, 105], .if_icmp .eq 105, 3), by decide +kernel⟩
noncomputable def ev_1611 : ZEV := ⟨([156, 0, 81], .ifCond .ge 81, 3), by decide +kernel⟩
noncomputable def ev_1612 : ZEV := ⟨([155, 0, 41], .ifCond .lt 41, 3), by decide +kernel⟩
noncomputable def ev_1613 : ZEV := ⟨([167, 255, 85], .goto (-171), 3), by decide +kernel⟩
noncomputable def ev_1614 : ZEV := ⟨([154, 0, 29], .ifCond .ne 29, 3), by decide +kernel⟩
noncomputable def ev_1615 : ZEV := ⟨([182, 2, 47], .invokevirtual 559, 3), by decide +kernel⟩
noncomputable def ev_1616 : ZEV := ⟨([155, 0, 30], .ifCond .lt 30, 3), by decide +kernel⟩
noncomputable def ev_1617 : ZEV := ⟨([153, 0, 58], .ifCond .eq 58, 3), by decide +kernel⟩
noncomputable def ev_1618 : ZEV := ⟨([164, 1, 94], .if_icmp .le 350, 3), by decide +kernel⟩
noncomputable def ev_1619 : ZEV := ⟨([180, 0, 157], .getfield 157, 3), by decide +kernel⟩
noncomputable def ev_1620 : ZEV := ⟨([162, 0, 110], .if_icmp .ge 110, 3), by decide +kernel⟩
noncomputable def ev_1621 : ZEV := ⟨([159, 0, 50], .if_icmp .eq 50, 3), by decide +kernel⟩
noncomputable def ev_1622 : ZEV := ⟨([155, 0, 31], .ifCond .lt 31, 3), by decide +kernel⟩
noncomputable def ev_1623 : ZEV := ⟨([180, 0, 154], .getfield 154, 3), by decide +kernel⟩
noncomputable def ev_1624 : ZEV := ⟨([182, 2, 50], .invokevirtual 562, 3), by decide +kernel⟩
noncomputable def ev_1625 : ZEV := ⟨([180, 0, 160], .getfield 160, 3), by decide +kernel⟩
noncomputable def ev_1626 : ZEV := ⟨([167, 255, 165], .goto (-91), 3), by decide +kernel⟩
noncomputable def ev_1627 : ZEV := ⟨([167, 254, 163], .goto (-349), 3), by decide +kernel⟩
noncomputable def ev_1628 : ZEV := ⟨([180, 0, 163], .getfield 163, 3), by decide +kernel⟩
noncomputable def ev_1629 : ZEV := ⟨([162, 0, 135], .if_icmp .ge 135, 3), by decide +kernel⟩
noncomputable def ev_1630 : ZEV := ⟨([156, 0, 39], .ifCond .ge 39, 3), by decide +kernel⟩
noncomputable def ev_1631 : ZEV := ⟨([156, 0, 29], .ifCond .ge 29, 3), by decide +kernel⟩
noncomputable def ev_1632 : ZEV := ⟨([156, 0, 57], .ifCond .ge 57, 3), by decide +kernel⟩
noncomputable def ev_1633 : ZEV := ⟨([160, 0, 45], .if_icmp .ne 45, 3), by decide +kernel⟩
noncomputable def ev_1634 : ZEV := ⟨([167, 255, 121], .goto (-135), 3), by decide +kernel⟩
noncomputable def ev_1635 : ZEV := ⟨([180, 0, 166], .getfield 166, 3), by decide +kernel⟩
noncomputable def ev_1636 : ZEV := ⟨([182, 2, 53], .invokevirtual 565, 3), by decide +kernel⟩
noncomputable def ev_1637 : ZEV := ⟨([162, 0, 145], .if_icmp .ge 145, 3), by decide +kernel⟩
noncomputable def ev_1638 : ZEV := ⟨([162, 0, 128], .if_icmp .ge 128, 3), by decide +kernel⟩
noncomputable def ev_1639 : ZEV := ⟨([153, 0, 113], .ifCond .eq 113, 3), by decide +kernel⟩
noncomputable def ev_1640 : ZEV := ⟨([156, 0, 95], .ifCond .ge 95, 3), by decide +kernel⟩
noncomputable def ev_1641 : ZEV := ⟨([167, 255, 126], .goto (-130), 3), by decide +kernel⟩
noncomputable def ev_1642 : ZEV := ⟨([167, 255, 108], .goto (-148), 3), by decide +kernel⟩
noncomputable def ev_1643 : ZEV := ⟨([20, 2, 56], .ldc2_w 568, 3), by decide +kernel⟩
noncomputable def ev_1644 : ZEV := ⟨([158, 0, 52], .ifCond .le 52, 3), by decide +kernel⟩
noncomputable def ev_1645 : ZEV := ⟨([20, 2, 58], .ldc2_w 570, 3), by decide +kernel⟩
noncomputable def ev_1646 : ZEV := ⟨([20, 2, 60], .ldc2_w 572, 3), by decide +kernel⟩
noncomputable def ev_1647 : ZEV := ⟨([180, 0, 169], .getfield 169, 3), by decide +kernel⟩
noncomputable def ev_1648 : ZEV := ⟨([162, 0, 101], .if_icmp .ge 101, 3), by decide +kernel⟩
noncomputable def ev_1649 : ZEV := ⟨([153, 0, 87], .ifCond .eq 87, 3), by decide +kernel⟩
noncomputable def ev_1650 : ZEV := ⟨([20, 2, 62], .ldc2_w 574, 3), by decide +kernel⟩
noncomputable def ev_1651 : ZEV := ⟨([64], .lstore_n 1, 1), by decide +kernel⟩
noncomputable def ev_1652 : ZEV := ⟨([162, 1, 39], .if_icmp .ge 295, 3), by decide +kernel⟩
noncomputable def ev_1653 : ZEV := ⟨([20, 2, 64], .ldc2_w 576, 3), by decide +kernel⟩
noncomputable def ev_1654 : ZEV := ⟨([184, 2, 66], .invokestatic 578, 3), by decide +kernel⟩
noncomputable def ev_1655 : ZEV := ⟨([162, 0, 98], .if_icmp .ge 98, 3), by decide +kernel⟩
noncomputable def ev_1656 : ZEV := ⟨([167, 254, 215], .goto (-297), 3), by decide +kernel⟩
noncomputable def ev_1657 : ZEV := ⟨([20, 2, 70], .ldc2_w 582, 3), by decide +kernel⟩
noncomputable def ev_1658 : ZEV := ⟨([180, 0, 172], .getfield 172, 3), by decide +kernel⟩
noncomputable def ev_1659 : ZEV := ⟨([20, 2, 72], .ldc2_w 584, 3), by decide +kernel⟩
noncomputable def ev_1660 : ZEV := ⟨([180, 0, 178], .getfield 178, 3), by decide +kernel⟩
noncomputable def ev_1661 : ZEV := ⟨([162, 0, 207], .if_icmp .ge 207, 3), by decide +kernel⟩
noncomputable def ev_1662 : ZEV := ⟨([180, 0, 175], .getfield 175, 3), by decide +kernel⟩
noncomputable def ev_1663 : ZEV := ⟨([20, 2, 74], .ldc2_w 586, 3), by decide +kernel⟩
noncomputable def ev_1664 : ZEV := ⟨([20, 2, 76], .ldc2_w 588, 3), by decide +kernel⟩
noncomputable def ev_1665 : ZEV := ⟨([162, 0, 53], .if_icmp .ge 53, 3), by decide +kernel⟩
noncomputable def ev_1666 : ZEV := ⟨([167, 255, 50], .goto (-206), 3), by decide +kernel⟩
noncomputable def ev_1667 : ZEV := ⟨([167, 255, 129], .goto (-127), 3), by decide +kernel⟩
noncomputable def ev_1668 : ZEV := ⟨([180, 0, 184], .getfield 184, 3), by decide +kernel⟩
noncomputable def ev_1669 : ZEV := ⟨([182, 2, 78], .invokevirtual 590, 3), by decide +kernel⟩
noncomputable def ev_1670 : ZEV := ⟨([180, 0, 187], .getfield 187, 3), by decide +kernel⟩
noncomputable def ev_1671 : ZEV := ⟨([180, 0, 190], .getfield 190, 3), by decide +kernel⟩
noncomputable def ev_1672 : ZEV := ⟨([180, 2, 82], .getfield 594, 3), by decide +kernel⟩
noncomputable def ev_1673 : ZEV := ⟨([180, 0, 199], .getfield 199, 3), by decide +kernel⟩
noncomputable def ev_1674 : ZEV := ⟨([180, 0, 196], .getfield 196, 3), by decide +kernel⟩
noncomputable def ev_1675 : ZEV := ⟨([180, 0, 193], .getfield 193, 3), by decide +kernel⟩
noncomputable def ev_1676 : ZEV := ⟨([182, 2, 85], .invokevirtual 597, 3), by decide +kernel⟩
noncomputable def ev_1677 : ZEV := ⟨([181, 2, 82], .putfield 594, 3), by decide +kernel⟩
noncomputable def ev_1678 : ZEV := ⟨([162, 0, 137], .if_icmp .ge 137, 3), by decide +kernel⟩
noncomputable def ev_1679 : ZEV := ⟨([182, 2, 88], .invokevirtual 600, 3), by decide +kernel⟩
noncomputable def ev_1680 : ZEV := ⟨([155, 0, 33], .ifCond .lt 33, 3), by decide +kernel⟩
noncomputable def ev_1681 : ZEV := ⟨([159, 0, 8], .if_icmp .eq 8, 3), by decide +kernel⟩
noncomputable def ev_1682 : ZEV := ⟨([132, 4, 255], .iinc 4 (-1), 3), by decide +kernel⟩
noncomputable def ev_1683 : ZEV := ⟨([182, 2, 91], .invokevirtual 603, 3), by decide +kernel⟩
noncomputable def ev_1684 : ZEV := ⟨([182, 2, 94], .invokevirtual 606, 3), by decide +kernel⟩
noncomputable def ev_1685 : ZEV := ⟨([162, 0, 116], .if_icmp .ge 116, 3), by decide +kernel⟩
noncomputable def ev_1686 : ZEV := ⟨([159, 0, 104], .if_icmp .eq 104, 3), by decide +kernel⟩
noncomputable def ev_1687 : ZEV := ⟨([159, 0, 73], .if_icmp .eq 73, 3), by decide +kernel⟩
noncomputable def ev_1688 : ZEV := ⟨([157, 0, 22], .ifCond .gt 22, 3), by decide +kernel⟩
noncomputable def ev_1689 : ZEV := ⟨([154, 0, 31], .ifCond .ne 31, 3), by decide +kernel⟩
noncomputable def ev_1690 : ZEV := ⟨([155, 0, 26], .ifCond .lt 26, 3), by decide +kernel⟩
noncomputable def ev_1691 : ZEV := ⟨([182, 2, 97], .invokevirtual 609, 3), by decide +kernel⟩
noncomputable def ev_1692 : ZEV := ⟨([182, 2, 100], .invokevirtual 612, 3), by decide +kernel⟩
noncomputable def ev_1693 : ZEV := ⟨([180, 0, 218], .getfield 218, 3), by decide +kernel⟩
noncomputable def ev_1694 : ZEV := ⟨([180, 2, 103], .getfield 615, 3), by decide +kernel⟩
noncomputable def ev_1695 : ZEV := ⟨([180, 0, 221], .getfield 221, 3), by decide +kernel⟩
noncomputable def ev_1696 : ZEV := ⟨([182, 2, 106], .invokevirtual 618, 3), by decide +kernel⟩
noncomputable def ev_1697 : ZEV := ⟨([180, 0, 230], .getfield 230, 3), by decide +kernel⟩
noncomputable def ev_1698 : ZEV := ⟨([180, 0, 233], .getfield 233, 3), by decide +kernel⟩
noncomputable def ev_1699 : ZEV := ⟨([180, 0, 236], .getfield 236, 3), by decide +kernel⟩
noncomputable def ev_1700 : ZEV := ⟨([181, 2, 109], .putfield 621, 3), by decide +kernel⟩
noncomputable def ev_1701 : ZEV := ⟨([181, 2, 112], .putfield 624, 3), by decide +kernel⟩
noncomputable def ev_1702 : ZEV := ⟨([180, 0, 215], .getfield 215, 3), by decide +kernel⟩
noncomputable def ev_1703 : ZEV := ⟨([180, 2, 109], .getfield 621, 3), by decide +kernel⟩
noncomputable def ev_1704 : ZEV := ⟨([153, 0, 119], .ifCond .eq 119, 3), by decide +kernel⟩
noncomputable def ev_1705 : ZEV := ⟨([180, 2, 115], .getfield 627, 3), by decide +kernel⟩
noncomputable def ev_1706 : ZEV := ⟨([182, 2, 118], .invokevirtual 630, 3), by decide +kernel⟩
noncomputable def ev_1707 : ZEV := ⟨([180, 2, 122], .getfield 634, 3), by decide +kernel⟩
noncomputable def ev_1708 : ZEV := ⟨([180, 2, 125], .getfield 637, 3), by decide +kernel⟩
noncomputable def ev_1709 : ZEV := ⟨([182, 2, 128], .invokevirtual 640, 3), by decide +kernel⟩
noncomputable def ev_1710 : ZEV := ⟨([181, 2, 103], .putfield 615, 3), by decide +kernel⟩
noncomputable def ev_1711 : ZEV := ⟨([182, 2, 131], .invokevirtual 643, 3), by decide +kernel⟩
noncomputable def ev_1712 : ZEV := ⟨([154, 0, 77], .ifCond .ne 77, 3), by decide +kernel⟩
noncomputable def ev_1713 : ZEV := ⟨([180, 0, 212], .getfield 212, 3), by decide +kernel⟩
noncomputable def ev_1714 : ZEV := ⟨([182, 2, 134], .invokevirtual 646, 3), by decide +kernel⟩
noncomputable def ev_1715 : ZEV := ⟨([182, 2, 138], .invokevirtual 650, 3), by decide +kernel⟩
noncomputable def ev_1716 : ZEV := ⟨([158, 0, 12], .ifCond .le 12, 3), by decide +kernel⟩
noncomputable def ev_1717 : ZEV := ⟨([182, 2, 141], .invokevirtual 653, 3), by decide +kernel⟩
noncomputable def ev_1718 : ZEV := ⟨([181, 2, 144], .putfield 656, 3), by decide +kernel⟩
noncomputable def ev_1719 : ZEV := ⟨([181, 2, 147], .putfield 659, 3), by decide +kernel⟩
noncomputable def ev_1720 : ZEV := ⟨([181, 2, 150], .putfield 662, 3), by decide +kernel⟩
noncomputable def ev_1721 : ZEV := ⟨([180, 0, 202], .getfield 202, 3), by decide +kernel⟩
noncomputable def ev_1722 : ZEV := ⟨([180, 0, 205], .getfield 205, 3), by decide +kernel⟩
noncomputable def ev_1723 : ZEV := ⟨([181, 2, 125], .putfield 637, 3), by decide +kernel⟩
noncomputable def ev_1724 : ZEV := ⟨([181, 2, 115], .putfield 627, 3), by decide +kernel⟩
noncomputable def ev_1725 : ZEV := ⟨([181, 2, 122], .putfield 634, 3), by decide +kernel⟩
noncomputable def ev_1726 : ZEV := ⟨([167, 0, 180], .goto 180, 3), by decide +kernel⟩
noncomputable def ev_1727 : ZEV := ⟨([167, 0, 143], .goto 143, 3), by decide +kernel⟩
noncomputable def ev_1728 : ZEV := ⟨([167, 0, 71], .goto 71, 3), by decide +kernel⟩
noncomputable def ev_1729 : ZEV := ⟨([180, 2, 112], .getfield 624, 3), by decide +kernel⟩
noncomputable def ev_1730 : ZEV := ⟨([180, 0, 239], .getfield 239, 3), by decide +kernel⟩
noncomputable def ev_1731 : ZEV := ⟨([162, 0, 174], .if_icmp .ge 174, 3), by decide +kernel⟩
noncomputable def ev_1732 : ZEV := ⟨([180, 0, 208], .getfield 208, 3), by decide +kernel⟩
noncomputable def ev_1733 : ZEV := ⟨([180, 2, 150], .getfield 662, 3), by decide +kernel⟩
noncomputable def ev_1734 : ZEV := ⟨([180, 2, 147], .getfield 659, 3), by decide +kernel⟩
noncomputable def ev_1735 : ZEV := ⟨([182, 2, 153], .invokevirtual 665, 3), by decide +kernel⟩
noncomputable def ev_1736 : ZEV := ⟨([167, 255, 197], .goto (-59), 3), by decide +kernel⟩
noncomputable def ev_1737 : ZEV := ⟨([167, 255, 82], .goto (-174), 3), by decide +kernel⟩
noncomputable def ev_1738 : ZEV := ⟨([180, 2, 144], .getfield 656, 3), by decide +kernel⟩
noncomputable def ev_1739 : ZEV := ⟨([162, 0, 107], .if_icmp .ge 107, 3), by decide +kernel⟩
noncomputable def ev_1740 : ZEV := ⟨([156, 0, 24], .ifCond .ge 24, 3), by decide +kernel⟩
noncomputable def ev_1741 : ZEV := ⟨([180, 0, 248], .getfield 248, 3), by decide +kernel⟩
noncomputable def ev_1742 : ZEV := ⟨([159, 0, 21], .if_icmp .eq 21, 3), by decide +kernel⟩
noncomputable def ev_1743 : ZEV := ⟨([180, 0, 251], .getfield 251, 3), by decide +kernel⟩
noncomputable def ev_1744 : ZEV := ⟨([180, 2, 157], .getfield 669, 3), by decide +kernel⟩
noncomputable def ev_1745 : ZEV := ⟨([180, 0, 254], .getfield 254, 3), by decide +kernel⟩
noncomputable def ev_1746 : ZEV := ⟨([181, 2, 157], .putfield 669, 3), by decide +kernel⟩
noncomputable def ev_1747 : ZEV := ⟨([180, 2, 160], .getfield 672, 3), by decide +kernel⟩
noncomputable def ev_1748 : ZEV := ⟨([180, 1, 4], .getfield 260, 3), by decide +kernel⟩
noncomputable def ev_1749 : ZEV := ⟨([181, 2, 160], .putfield 672, 3), by decide +kernel⟩
noncomputable def ev_1750 : ZEV := ⟨([180, 2, 163], .getfield 675, 3), by decide +kernel⟩
noncomputable def ev_1751 : ZEV := ⟨([181, 2, 163], .putfield 675, 3), by decide +kernel⟩
noncomputable def ev_1752 : ZEV := ⟨([158, 0, 30], .ifCond .le 30, 3), by decide +kernel⟩
noncomputable def ev_1753 : ZEV := ⟨([182, 2, 166], .invokevirtual 678, 3), by decide +kernel⟩
noncomputable def ev_1754 : ZEV := ⟨([184, 2, 169], .invokestatic 681, 3), by decide +kernel⟩
noncomputable def ev_1755 : ZEV := ⟨([161, 0, 19], .if_icmp .lt 19, 3), by decide +kernel⟩
noncomputable def ev_1756 : ZEV := ⟨([182, 2, 172], .invokevirtual 684, 3), by decide +kernel⟩
noncomputable def ev_1757 : ZEV := ⟨([182, 2, 175], .invokevirtual 687, 3), by decide +kernel⟩
noncomputable def ev_1758 : ZEV := ⟨([182, 2, 178], .invokevirtual 690, 3), by decide +kernel⟩
noncomputable def ev_1759 : ZEV := ⟨([184, 2, 180], .invokestatic 692, 3), by decide +kernel⟩
noncomputable def ev_1760 : ZEV := ⟨([167, 0, 43], .goto 43, 3), by decide +kernel⟩
noncomputable def ev_1761 : ZEV := ⟨([161, 0, 15], .if_icmp .lt 15, 3), by decide +kernel⟩
noncomputable def ev_1762 : ZEV := ⟨([182, 2, 183], .invokevirtual 695, 3), by decide +kernel⟩
noncomputable def ev_1763 : ZEV := ⟨([160, 0, 52], .if_icmp .ne 52, 3), by decide +kernel⟩
noncomputable def ev_1764 : ZEV := ⟨([160, 0, 43], .if_icmp .ne 43, 3), by decide +kernel⟩
noncomputable def ev_1765 : ZEV := ⟨([182, 2, 186], .invokevirtual 698, 3), by decide +kernel⟩
noncomputable def ev_1766 : ZEV := ⟨([157, 0, 20], .ifCond .gt 20, 3), by decide +kernel⟩
noncomputable def ev_1767 : ZEV := ⟨([164, 0, 18], .if_icmp .le 18, 3), by decide +kernel⟩
noncomputable def ev_1768 : ZEV := ⟨([160, 0, 38], .if_icmp .ne 38, 3), by decide +kernel⟩
noncomputable def ev_1769 : ZEV := ⟨([160, 0, 47], .if_icmp .ne 47, 3), by decide +kernel⟩
noncomputable def ev_1770 : ZEV := ⟨([154, 0, 74], .ifCond .ne 74, 3), by decide +kernel⟩
noncomputable def ev_1771 : ZEV := ⟨([182, 2, 189], .invokevirtual 701, 3), by decide +kernel⟩
noncomputable def ev_1772 : ZEV := ⟨([154, 0, 23], .ifCond .ne 23, 3), by decide +kernel⟩
noncomputable def ev_1773 : ZEV := ⟨([182, 2, 192], .invokevirtual 704, 3), by decide +kernel⟩
noncomputable def ev_1774 : ZEV := ⟨([154, 255, 210], .ifCond .ne (-46), 3), by decide +kernel⟩
noncomputable def ev_1775 : ZEV := ⟨([182, 2, 196], .invokevirtual 708, 3), by decide +kernel⟩
noncomputable def ev_1776 : ZEV := ⟨([182, 2, 200], .invokevirtual 712, 3), by decide +kernel⟩
noncomputable def ev_1777 : ZEV := ⟨([180, 1, 1], .getfield 257, 3), by decide +kernel⟩
noncomputable def ev_1778 : ZEV := ⟨([180, 0, 242], .getfield 242, 3), by decide +kernel⟩
noncomputable def ev_1779 : ZEV := ⟨([180, 0, 245], .getfield 245, 3), by decide +kernel⟩
noncomputable def ev_1780 : ZEV := ⟨([158, 0, 9], .ifCond .le 9, 3), by decide +kernel⟩
noncomputable def ev_1781 : ZEV := ⟨([20, 2, 204], .ldc2_w 716, 3), by decide +kernel⟩
noncomputable def ev_1782 : ZEV := ⟨([180, 1, 16], .getfield 272, 3), by decide +kernel⟩
noncomputable def ev_1783 : ZEV := ⟨([180, 1, 7], .getfield 263, 3), by decide +kernel⟩
noncomputable def ev_1784 : ZEV := ⟨([162, 0, 171], .if_icmp .ge 171, 3), by decide +kernel⟩
noncomputable def ev_1785 : ZEV := ⟨([160, 0, 117], .if_icmp .ne 117, 3), by decide +kernel⟩
noncomputable def ev_1786 : ZEV := ⟨([184, 2, 206], .invokestatic 718, 3), by decide +kernel⟩
noncomputable def ev_1787 : ZEV := ⟨([158, 0, 8], .ifCond .le 8, 3), by decide +kernel⟩
noncomputable def ev_1788 : ZEV := ⟨([167, 255, 79], .goto (-177), 3), by decide +kernel⟩
noncomputable def ev_1789 : ZEV := ⟨([162, 0, 206], .if_icmp .ge 206, 3), by decide +kernel⟩
noncomputable def ev_1790 : ZEV := ⟨([180, 1, 13], .getfield 269, 3), by decide +kernel⟩
noncomputable def ev_1791 : ZEV := ⟨([167, 0, 148], .goto 148, 3), by decide +kernel⟩
noncomputable def ev_1792 : ZEV := ⟨([167, 0, 119], .goto 119, 3), by decide +kernel⟩
noncomputable def ev_1793 : ZEV := ⟨([184, 2, 210], .invokestatic 722, 3), by decide +kernel⟩
noncomputable def ev_1794 : ZEV := ⟨([167, 0, 70], .goto 70, 3), by decide +kernel⟩
noncomputable def ev_1795 : ZEV := ⟨([167, 0, 52], .goto 52, 3), by decide +kernel⟩
noncomputable def ev_1796 : ZEV := ⟨([167, 0, 34], .goto 34, 3), by decide +kernel⟩
noncomputable def ev_1797 : ZEV := ⟨([167, 255, 44], .goto (-212), 3), by decide +kernel⟩
noncomputable def ev_1798 : ZEV := ⟨([20, 2, 213], .ldc2_w 725, 3), by decide +kernel⟩
noncomputable def ev_1799 : ZEV := ⟨([20, 2, 215], .ldc2_w 727, 3), by decide +kernel⟩
noncomputable def ev_1800 : ZEV := ⟨([181, 2, 217], .putfield 729, 3), by decide +kernel⟩
noncomputable def ev_1801 : ZEV := ⟨([181, 2, 220], .putfield 732, 3), by decide +kernel⟩
noncomputable def ev_1802 : ZEV := ⟨([181, 2, 223], .putfield 735, 3), by decide +kernel⟩
noncomputable def ev_1803 : ZEV := ⟨([181, 2, 226], .putfield 738, 3), by decide +kernel⟩
noncomputable def ev_1804 : ZEV := ⟨([181, 2, 229], .putfield 741, 3), by decide +kernel⟩
noncomputable def ev_1805 : ZEV := ⟨([182, 2, 232], .invokevirtual 744, 3), by decide +kernel⟩
noncomputable def ev_1806 : ZEV := ⟨([180, 1, 10], .getfield 266, 3), by decide +kernel⟩
noncomputable def ev_1807 : ZEV := ⟨([182, 2, 235], .invokevirtual 747, 3), by decide +kernel⟩
noncomputable def ev_1808 : ZEV := ⟨([153, 0, 126], .ifCond .eq 126, 3), by decide +kernel⟩
noncomputable def ev_1809 : ZEV := ⟨([182, 2, 238], .invokevirtual 750, 3), by decide +kernel⟩
noncomputable def ev_1810 : ZEV := ⟨([154, 0, 37], .ifCond .ne 37, 3), by decide +kernel⟩
noncomputable def ev_1811 : ZEV := ⟨([182, 2, 242], .invokevirtual 754, 3), by decide +kernel⟩
noncomputable def ev_1812 : ZEV := ⟨([158, 0, 146], .ifCond .le 146, 3), by decide +kernel⟩
noncomputable def ev_1813 : ZEV := ⟨([180, 2, 226], .getfield 738, 3), by decide +kernel⟩
noncomputable def ev_1814 : ZEV := ⟨([180, 2, 229], .getfield 741, 3), by decide +kernel⟩
noncomputable def ev_1815 : ZEV := ⟨([20, 2, 245], .ldc2_w 757, 3), by decide +kernel⟩
noncomputable def ev_1816 : ZEV := ⟨([20, 2, 247], .ldc2_w 759, 3), by decide +kernel⟩
noncomputable def ev_1817 : ZEV := ⟨([20, 2, 249], .ldc2_w 761, 3), by decide +kernel⟩
noncomputable def ev_1818 : ZEV := ⟨([180, 2, 220], .getfield 732, 3), by decide +kernel⟩
noncomputable def ev_1819 : ZEV := ⟨([180, 2, 223], .getfield 735, 3), by decide +kernel⟩
noncomputable def ev_1820 : ZEV := ⟨([167, 255, 111], .goto (-145), 3), by decide +kernel⟩
noncomputable def ev_1821 : ZEV := ⟨([180, 2, 217], .getfield 729, 3), by decide +kernel⟩
noncomputable def ev_1822 : ZEV := ⟨([124], .iushr, 1), by decide +kernel⟩
noncomputable def ev_1823 : ZEV := ⟨([19, 1, 9], .ldc_w 265, 3), by decide +kernel⟩
noncomputable def ev_1824 : ZEV := ⟨([59], .istore_n 0, 1), by decide +kernel⟩
noncomputable def ev_1825 : ZEV := ⟨([19, 1, 10], .ldc_w 266, 3), by decide +kernel⟩
noncomputable def ev_1826 : ZEV := ⟨([19, 1, 11], .ldc_w 267, 3), by decide +kernel⟩
noncomputable def ev_1827 : ZEV := ⟨([20, 1, 58], .ldc2_w 314, 3), by decide +kernel⟩
noncomputable def ev_1828 : ZEV := ⟨([63], .lstore_n 0, 1), by decide +kernel⟩
noncomputable def ev_1829 : ZEV := ⟨([20, 1, 60], .ldc2_w 316, 3), by decide +kernel⟩
noncomputable def ev_1830 : ZEV := ⟨([20, 1, 62], .ldc2_w 318, 3), by decide +kernel⟩
noncomputable def ev_1831 : ZEV := ⟨([16, 127], .bipush 127, 2), by decide +kernel⟩
noncomputable def ev_1832 : ZEV := ⟨([167, 255, 244], .goto (-12), 3), by decide +kernel⟩
noncomputable def ev_1833 : ZEV := ⟨([156, 0, 17], .ifCond .ge 17, 3), by decide +kernel⟩
noncomputable def ev_1834 : ZEV := ⟨([156, 0, 15], .ifCond .ge 15, 3), by decide +kernel⟩
noncomputable def ev_1835 : ZEV := ⟨([182, 1, 60], .invokevirtual 316, 3), by decide +kernel⟩
noncomputable def ev_1836 : ZEV := ⟨([192, 1, 61], .checkcast 317, 3), by decide +kernel⟩
noncomputable def ev_1837 : ZEV := ⟨([184, 1, 48], .invokestatic 304, 3), by decide +kernel⟩
noncomputable def ev_1838 : ZEV := ⟨([184, 0, 150], .invokestatic 150, 3), by decide +kernel⟩
noncomputable def ev_1839 : ZEV := ⟨([182, 1, 79], .invokevirtual 335, 3), by decide +kernel⟩
noncomputable def ev_1840 : ZEV := ⟨([182, 1, 236], .invokevirtual 492, 3), by decide +kernel⟩
noncomputable def ev_1841 : ZEV := ⟨([184, 1, 239], .invokestatic 495, 3), by decide +kernel⟩
noncomputable def ev_1842 : ZEV := ⟨([184, 1, 242], .invokestatic 498, 3), by decide +kernel⟩
noncomputable def ev_1843 : ZEV := ⟨([182, 2, 121], .invokevirtual 633, 3), by decide +kernel⟩
noncomputable def ev_1844 : ZEV := ⟨([182, 1, 249], .invokevirtual 505, 3), by decide +kernel⟩
noncomputable def ev_1845 : ZEV := ⟨([184, 2, 125], .invokestatic 637, 3), by decide +kernel⟩
noncomputable def ev_1846 : ZEV := ⟨([184, 2, 128], .invokestatic 640, 3), by decide +kernel⟩
noncomputable def ev_1847 : ZEV := ⟨([178, 0, 38], .getstatic 38, 3), by decide +kernel⟩
noncomputable def ev_1848 : ZEV := ⟨([178, 4, 29], .getstatic 1053, 3), by decide +kernel⟩
noncomputable def ev_1849 : ZEV := ⟨([184, 4, 35], .invokestatic 1059, 3), by decide +kernel⟩
noncomputable def ev_1850 : ZEV := ⟨([184, 0, 9], .invokestatic 9, 3), by decide +kernel⟩
noncomputable def ev_1851 : ZEV := ⟨([17, 0, 255], .sipush 255, 3), by decide +kernel⟩
noncomputable def ev_1852 : ZEV := ⟨([184, 0, 88], .invokestatic 88, 3), by decide +kernel⟩
noncomputable def ev_1853 : ZEV := ⟨([184, 0, 92], .invokestatic 92, 3), by decide +kernel⟩
noncomputable def ev_1854 : ZEV := ⟨([184, 0, 38], .invokestatic 38, 3), by decide +kernel⟩
noncomputable def ev_1855 : ZEV := ⟨([145], .i2b, 1), by decide +kernel⟩
noncomputable def ev_1856 : ZEV := ⟨([155, 0, 8], .ifCond .lt 8, 3), by decide +kernel⟩
noncomputable def ev_1857 : ZEV := ⟨([191], .athrow, 1), by decide +kernel⟩
end
section
noncomputable def zi_0_0 : ZIs := [(0, ev_0), (3, ev_1), (4, ev_2), (7, ev_3), (8, ev_4), (11, ev_1), (12, ev_5), (15, ev_6), (16, ev_7), (17, ev_8), (19, ev_9), (20, ev_10), (21, ev_11), (23, ev_12), (25, ev_13), (26, ev_14)]
noncomputable def zi_0_1 : ZIs := [(27, ev_15), (29, ev_16), (30, ev_17), (33, ev_13), (34, ev_12), (36, ev_18), (37, ev_19), (39, ev_20)]
noncomputable def xi_0_2 : XIs := [(40, .tableswitch 1844 0 46 #[204, 232, 308, 336, 388, 428, 456, 469, 497, 537, 565, 617, 645, 658, 671, 699, 712, 740, 780, 832, 872, 940, 1004, 1044, 1072, 1100, 1128, 1156, 1184, 1212, 1252, 1304, 1356, 1384, 1412, 1440, 1453, 1493, 1557, 1585, 1598, 1626, 1639, 1679, 1692, 1788, 1816], 204)]
set_option maxRecDepth 100000 in
theorem xi_ok0_2 : xi_ok code xi_0_2 = true := by decide +kernel
noncomputable def zi_0_3 : ZIs := [(244, ev_21), (245, ev_13), (246, ev_12), (248, ev_7), (249, ev_22), (250, ev_18), (251, ev_23), (252, ev_24), (255, ev_25), (257, ev_26), (258, ev_13), (259, ev_12), (261, ev_7), (262, ev_22), (263, ev_18), (264, ev_27)]
noncomputable def zi_0_4 : ZIs := [(267, ev_28), (269, ev_29), (272, ev_21), (273, ev_13), (274, ev_12), (276, ev_7), (277, ev_22), (278, ev_18), (279, ev_13), (280, ev_12), (282, ev_30), (283, ev_22), (284, ev_18), (285, ev_13), (286, ev_12), (288, ev_31)]
noncomputable def zi_0_5 : ZIs := [(289, ev_22), (290, ev_18), (291, ev_13), (292, ev_12), (294, ev_32), (295, ev_22), (296, ev_18), (297, ev_13), (298, ev_12), (300, ev_33), (301, ev_22), (302, ev_18), (303, ev_23), (304, ev_34), (307, ev_25), (309, ev_26)]
noncomputable def zi_0_6 : ZIs := [(310, ev_13), (311, ev_12), (313, ev_7), (314, ev_22), (315, ev_18), (316, ev_13), (317, ev_12), (319, ev_30), (320, ev_22), (321, ev_18), (322, ev_13), (323, ev_12), (325, ev_31), (326, ev_22), (327, ev_18), (328, ev_13)]
noncomputable def zi_0_7 : ZIs := [(329, ev_12), (331, ev_32), (332, ev_22), (333, ev_18), (334, ev_13), (335, ev_12), (337, ev_33), (338, ev_22), (339, ev_18), (340, ev_35), (343, ev_28), (345, ev_36), (348, ev_21), (349, ev_13), (350, ev_12), (352, ev_7)]
noncomputable def zi_0_8 : ZIs := [(353, ev_22), (354, ev_18), (355, ev_23), (356, ev_37), (359, ev_25), (361, ev_26), (362, ev_13), (363, ev_12), (365, ev_7), (366, ev_22), (367, ev_18), (368, ev_38), (371, ev_28), (373, ev_39), (376, ev_21), (377, ev_13)]
noncomputable def zi_0_9 : ZIs := [(378, ev_12), (380, ev_7), (381, ev_22), (382, ev_18), (383, ev_13), (384, ev_12), (386, ev_30), (387, ev_22), (388, ev_18), (389, ev_13), (390, ev_12), (392, ev_31), (393, ev_22), (394, ev_18), (395, ev_23), (396, ev_40)]
noncomputable def zi_0_10 : ZIs := [(399, ev_25), (401, ev_26), (402, ev_13), (403, ev_12), (405, ev_7), (406, ev_22), (407, ev_18), (408, ev_13), (409, ev_12), (411, ev_30), (412, ev_22), (413, ev_18), (414, ev_13), (415, ev_12), (417, ev_31), (418, ev_22)]
noncomputable def zi_0_11 : ZIs := [(419, ev_18), (420, ev_41), (423, ev_28), (425, ev_42), (428, ev_21), (429, ev_13), (430, ev_12), (432, ev_7), (433, ev_22), (434, ev_18), (435, ev_13), (436, ev_12), (438, ev_30), (439, ev_22), (440, ev_18), (441, ev_23)]
noncomputable def zi_0_12 : ZIs := [(442, ev_43), (445, ev_25), (447, ev_26), (448, ev_13), (449, ev_12), (451, ev_7), (452, ev_22), (453, ev_18), (454, ev_13), (455, ev_12), (457, ev_30), (458, ev_22), (459, ev_18), (460, ev_44), (463, ev_28), (465, ev_45)]
noncomputable def zi_0_13 : ZIs := [(468, ev_21), (469, ev_13), (470, ev_12), (472, ev_7), (473, ev_22), (474, ev_18), (475, ev_23), (476, ev_46), (479, ev_25), (481, ev_26), (482, ev_13), (483, ev_12), (485, ev_7), (486, ev_22), (487, ev_18), (488, ev_47)]
noncomputable def zi_0_14 : ZIs := [(491, ev_28), (493, ev_48), (496, ev_21), (497, ev_49), (500, ev_50), (501, ev_26), (502, ev_51), (505, ev_50), (506, ev_52), (509, ev_21), (510, ev_13), (511, ev_12), (513, ev_7), (514, ev_22), (515, ev_18), (516, ev_23)]
noncomputable def zi_0_15 : ZIs := [(517, ev_53), (520, ev_25), (522, ev_26), (523, ev_13), (524, ev_12), (526, ev_7), (527, ev_22), (528, ev_18), (529, ev_54), (532, ev_28), (534, ev_55), (537, ev_21), (538, ev_13), (539, ev_12), (541, ev_7), (542, ev_22)]
noncomputable def zi_0_16 : ZIs := [(543, ev_18), (544, ev_13), (545, ev_12), (547, ev_30), (548, ev_22), (549, ev_18), (550, ev_23), (551, ev_56), (554, ev_25), (556, ev_26), (557, ev_13), (558, ev_12), (560, ev_7), (561, ev_22), (562, ev_18), (563, ev_13)]
noncomputable def zi_0_17 : ZIs := [(564, ev_12), (566, ev_30), (567, ev_22), (568, ev_18), (569, ev_57), (572, ev_58), (574, ev_59), (577, ev_21), (578, ev_13), (579, ev_12), (581, ev_7), (582, ev_22), (583, ev_18), (584, ev_23), (585, ev_60), (588, ev_25)]
noncomputable def zi_0_18 : ZIs := [(590, ev_26), (591, ev_13), (592, ev_12), (594, ev_7), (595, ev_22), (596, ev_18), (597, ev_61), (600, ev_28), (602, ev_62), (605, ev_21), (606, ev_13), (607, ev_12), (609, ev_7), (610, ev_22), (611, ev_18), (612, ev_13)]
noncomputable def zi_0_19 : ZIs := [(613, ev_12), (615, ev_30), (616, ev_22), (617, ev_18), (618, ev_13), (619, ev_12), (621, ev_31), (622, ev_22), (623, ev_18), (624, ev_23), (625, ev_63), (628, ev_25), (630, ev_26), (631, ev_13), (632, ev_12), (634, ev_7)]
noncomputable def zi_0_20 : ZIs := [(635, ev_22), (636, ev_18), (637, ev_13), (638, ev_12), (640, ev_30), (641, ev_22), (642, ev_18), (643, ev_13), (644, ev_12), (646, ev_31), (647, ev_22), (648, ev_18), (649, ev_64), (652, ev_28), (654, ev_65), (657, ev_21)]
noncomputable def zi_0_21 : ZIs := [(658, ev_13), (659, ev_12), (661, ev_7), (662, ev_22), (663, ev_18), (664, ev_23), (665, ev_66), (668, ev_25), (670, ev_26), (671, ev_13), (672, ev_12), (674, ev_7), (675, ev_22), (676, ev_18), (677, ev_67), (680, ev_28)]
noncomputable def zi_0_22 : ZIs := [(682, ev_68), (685, ev_21), (686, ev_69), (689, ev_50), (690, ev_26), (691, ev_70), (694, ev_50), (695, ev_71), (698, ev_21), (699, ev_72), (702, ev_50), (703, ev_26), (704, ev_73), (707, ev_50), (708, ev_74), (711, ev_21)]
noncomputable def zi_0_23 : ZIs := [(712, ev_13), (713, ev_12), (715, ev_7), (716, ev_22), (717, ev_18), (718, ev_23), (719, ev_75), (722, ev_25), (724, ev_26), (725, ev_13), (726, ev_12), (728, ev_7), (729, ev_22), (730, ev_18), (731, ev_76), (734, ev_28)]
noncomputable def zi_0_24 : ZIs := [(736, ev_77), (739, ev_21), (740, ev_78), (743, ev_50), (744, ev_26), (745, ev_79), (748, ev_50), (749, ev_80), (752, ev_21), (753, ev_13), (754, ev_12), (756, ev_7), (757, ev_22), (758, ev_18), (759, ev_23), (760, ev_81)]
noncomputable def zi_0_25 : ZIs := [(763, ev_25), (765, ev_26), (766, ev_13), (767, ev_12), (769, ev_7), (770, ev_22), (771, ev_18), (772, ev_82), (775, ev_28), (777, ev_83), (780, ev_21), (781, ev_13), (782, ev_12), (784, ev_7), (785, ev_22), (786, ev_18)]
noncomputable def zi_0_26 : ZIs := [(787, ev_13), (788, ev_12), (790, ev_30), (791, ev_22), (792, ev_18), (793, ev_23), (794, ev_84), (797, ev_25), (799, ev_26), (800, ev_13), (801, ev_12), (803, ev_7), (804, ev_22), (805, ev_18), (806, ev_13), (807, ev_12)]
noncomputable def zi_0_27 : ZIs := [(809, ev_30), (810, ev_22), (811, ev_18), (812, ev_85), (815, ev_58), (817, ev_86), (820, ev_21), (821, ev_13), (822, ev_12), (824, ev_7), (825, ev_22), (826, ev_18), (827, ev_13), (828, ev_12), (830, ev_30), (831, ev_22)]
noncomputable def zi_0_28 : ZIs := [(832, ev_18), (833, ev_13), (834, ev_12), (836, ev_31), (837, ev_22), (838, ev_18), (839, ev_23), (840, ev_87), (843, ev_25), (845, ev_26), (846, ev_13), (847, ev_12), (849, ev_7), (850, ev_22), (851, ev_18), (852, ev_13)]
noncomputable def zi_0_29 : ZIs := [(853, ev_12), (855, ev_30), (856, ev_22), (857, ev_18), (858, ev_13), (859, ev_12), (861, ev_31), (862, ev_22), (863, ev_18), (864, ev_88), (867, ev_28), (869, ev_89), (872, ev_21), (873, ev_13), (874, ev_12), (876, ev_7)]
noncomputable def zi_0_30 : ZIs := [(877, ev_22), (878, ev_18), (879, ev_13), (880, ev_12), (882, ev_30), (883, ev_22), (884, ev_18), (885, ev_23), (886, ev_90), (889, ev_25), (891, ev_26), (892, ev_13), (893, ev_12), (895, ev_7), (896, ev_22), (897, ev_18)]
noncomputable def zi_0_31 : ZIs := [(898, ev_13), (899, ev_12), (901, ev_30), (902, ev_22), (903, ev_18), (904, ev_91), (907, ev_28), (909, ev_92), (912, ev_21), (913, ev_13), (914, ev_12), (916, ev_7), (917, ev_22), (918, ev_18), (919, ev_13), (920, ev_12)]
noncomputable def zi_0_32 : ZIs := [(922, ev_30), (923, ev_22), (924, ev_18), (925, ev_23), (926, ev_93), (929, ev_25), (931, ev_26), (932, ev_13), (933, ev_12), (935, ev_7), (936, ev_22), (937, ev_18), (938, ev_13), (939, ev_12), (941, ev_30), (942, ev_22)]
noncomputable def zi_0_33 : ZIs := [(943, ev_18), (944, ev_94), (947, ev_28), (949, ev_26), (950, ev_95), (953, ev_96), (955, ev_97), (958, ev_10), (959, ev_98), (960, ev_96), (962, ev_99), (965, ev_23), (966, ev_10), (967, ev_100), (968, ev_101), (970, ev_102)]
noncomputable def zi_0_34 : ZIs := [(971, ev_103), (972, ev_104), (975, ev_10), (976, ev_98), (977, ev_105), (980, ev_21), (981, ev_13), (982, ev_12), (984, ev_7), (985, ev_22), (986, ev_18), (987, ev_13), (988, ev_12), (990, ev_30), (991, ev_22), (992, ev_18)]
noncomputable def zi_0_35 : ZIs := [(993, ev_13), (994, ev_12), (996, ev_31), (997, ev_22), (998, ev_18), (999, ev_13), (1000, ev_12), (1002, ev_32), (1003, ev_22), (1004, ev_18), (1005, ev_23), (1006, ev_106), (1009, ev_25), (1011, ev_26), (1012, ev_13), (1013, ev_12)]
noncomputable def zi_0_36 : ZIs := [(1015, ev_7), (1016, ev_22), (1017, ev_18), (1018, ev_13), (1019, ev_12), (1021, ev_30), (1022, ev_22), (1023, ev_18), (1024, ev_13), (1025, ev_12), (1027, ev_31), (1028, ev_22), (1029, ev_18), (1030, ev_13), (1031, ev_12), (1033, ev_32)]
noncomputable def zi_0_37 : ZIs := [(1034, ev_22), (1035, ev_18), (1036, ev_107), (1039, ev_28), (1041, ev_108), (1044, ev_21), (1045, ev_13), (1046, ev_12), (1048, ev_7), (1049, ev_22), (1050, ev_18), (1051, ev_13), (1052, ev_12), (1054, ev_30), (1055, ev_22), (1056, ev_18)]
noncomputable def zi_0_38 : ZIs := [(1057, ev_23), (1058, ev_109), (1061, ev_25), (1063, ev_26), (1064, ev_13), (1065, ev_12), (1067, ev_7), (1068, ev_22), (1069, ev_18), (1070, ev_13), (1071, ev_12), (1073, ev_30), (1074, ev_22), (1075, ev_18), (1076, ev_110), (1079, ev_28)]
noncomputable def zi_0_39 : ZIs := [(1081, ev_111), (1084, ev_21), (1085, ev_13), (1086, ev_12), (1088, ev_7), (1089, ev_22), (1090, ev_18), (1091, ev_23), (1092, ev_112), (1095, ev_25), (1097, ev_26), (1098, ev_13), (1099, ev_12), (1101, ev_7), (1102, ev_22), (1103, ev_18)]
noncomputable def zi_0_40 : ZIs := [(1104, ev_113), (1107, ev_28), (1109, ev_114), (1112, ev_21), (1113, ev_13), (1114, ev_12), (1116, ev_7), (1117, ev_22), (1118, ev_18), (1119, ev_23), (1120, ev_115), (1123, ev_25), (1125, ev_26), (1126, ev_13), (1127, ev_12), (1129, ev_7)]
noncomputable def zi_0_41 : ZIs := [(1130, ev_22), (1131, ev_18), (1132, ev_116), (1135, ev_28), (1137, ev_117), (1140, ev_21), (1141, ev_13), (1142, ev_12), (1144, ev_7), (1145, ev_22), (1146, ev_18), (1147, ev_23), (1148, ev_118), (1151, ev_25), (1153, ev_26), (1154, ev_13)]
noncomputable def zi_0_42 : ZIs := [(1155, ev_12), (1157, ev_7), (1158, ev_22), (1159, ev_18), (1160, ev_119), (1163, ev_28), (1165, ev_120), (1168, ev_21), (1169, ev_13), (1170, ev_12), (1172, ev_7), (1173, ev_22), (1174, ev_18), (1175, ev_23), (1176, ev_121), (1179, ev_25)]
noncomputable def zi_0_43 : ZIs := [(1181, ev_26), (1182, ev_13), (1183, ev_12), (1185, ev_7), (1186, ev_22), (1187, ev_18), (1188, ev_122), (1191, ev_28), (1193, ev_123), (1196, ev_21), (1197, ev_13), (1198, ev_12), (1200, ev_7), (1201, ev_22), (1202, ev_18), (1203, ev_23)]
noncomputable def zi_0_44 : ZIs := [(1204, ev_124), (1207, ev_25), (1209, ev_26), (1210, ev_13), (1211, ev_12), (1213, ev_7), (1214, ev_22), (1215, ev_18), (1216, ev_125), (1219, ev_28), (1221, ev_126), (1224, ev_21), (1225, ev_13), (1226, ev_12), (1228, ev_7), (1229, ev_22)]
noncomputable def zi_0_45 : ZIs := [(1230, ev_18), (1231, ev_23), (1232, ev_127), (1235, ev_25), (1237, ev_26), (1238, ev_13), (1239, ev_12), (1241, ev_7), (1242, ev_22), (1243, ev_18), (1244, ev_128), (1247, ev_28), (1249, ev_129), (1252, ev_21), (1253, ev_13), (1254, ev_12)]
noncomputable def zi_0_46 : ZIs := [(1256, ev_7), (1257, ev_22), (1258, ev_18), (1259, ev_13), (1260, ev_12), (1262, ev_30), (1263, ev_22), (1264, ev_18), (1265, ev_23), (1266, ev_130), (1269, ev_25), (1271, ev_26), (1272, ev_13), (1273, ev_12), (1275, ev_7), (1276, ev_22)]
noncomputable def zi_0_47 : ZIs := [(1277, ev_18), (1278, ev_13), (1279, ev_12), (1281, ev_30), (1282, ev_22), (1283, ev_18), (1284, ev_131), (1287, ev_58), (1289, ev_132), (1292, ev_21), (1293, ev_13), (1294, ev_12), (1296, ev_7), (1297, ev_22), (1298, ev_18), (1299, ev_13)]
noncomputable def zi_0_48 : ZIs := [(1300, ev_12), (1302, ev_30), (1303, ev_22), (1304, ev_18), (1305, ev_13), (1306, ev_12), (1308, ev_31), (1309, ev_22), (1310, ev_18), (1311, ev_23), (1312, ev_133), (1315, ev_25), (1317, ev_26), (1318, ev_13), (1319, ev_12), (1321, ev_7)]
noncomputable def zi_0_49 : ZIs := [(1322, ev_22), (1323, ev_18), (1324, ev_13), (1325, ev_12), (1327, ev_30), (1328, ev_22), (1329, ev_18), (1330, ev_13), (1331, ev_12), (1333, ev_31), (1334, ev_22), (1335, ev_18), (1336, ev_134), (1339, ev_28), (1341, ev_135), (1344, ev_21)]
noncomputable def zi_0_50 : ZIs := [(1345, ev_13), (1346, ev_12), (1348, ev_7), (1349, ev_22), (1350, ev_18), (1351, ev_13), (1352, ev_12), (1354, ev_30), (1355, ev_22), (1356, ev_18), (1357, ev_13), (1358, ev_12), (1360, ev_31), (1361, ev_22), (1362, ev_18), (1363, ev_23)]
noncomputable def zi_0_51 : ZIs := [(1364, ev_136), (1367, ev_25), (1369, ev_26), (1370, ev_13), (1371, ev_12), (1373, ev_7), (1374, ev_22), (1375, ev_18), (1376, ev_13), (1377, ev_12), (1379, ev_30), (1380, ev_22), (1381, ev_18), (1382, ev_13), (1383, ev_12), (1385, ev_31)]
noncomputable def zi_0_52 : ZIs := [(1386, ev_22), (1387, ev_18), (1388, ev_137), (1391, ev_58), (1393, ev_138), (1396, ev_21), (1397, ev_13), (1398, ev_12), (1400, ev_7), (1401, ev_22), (1402, ev_18), (1403, ev_23), (1404, ev_139), (1407, ev_25), (1409, ev_26), (1410, ev_13)]
noncomputable def zi_0_53 : ZIs := [(1411, ev_12), (1413, ev_7), (1414, ev_22), (1415, ev_18), (1416, ev_140), (1419, ev_58), (1421, ev_141), (1424, ev_21), (1425, ev_13), (1426, ev_12), (1428, ev_7), (1429, ev_22), (1430, ev_18), (1431, ev_23), (1432, ev_142), (1435, ev_25)]
noncomputable def zi_0_54 : ZIs := [(1437, ev_26), (1438, ev_13), (1439, ev_12), (1441, ev_7), (1442, ev_22), (1443, ev_18), (1444, ev_143), (1447, ev_58), (1449, ev_144), (1452, ev_21), (1453, ev_13), (1454, ev_12), (1456, ev_7), (1457, ev_22), (1458, ev_18), (1459, ev_23)]
noncomputable def zi_0_55 : ZIs := [(1460, ev_145), (1463, ev_25), (1465, ev_26), (1466, ev_13), (1467, ev_12), (1469, ev_7), (1470, ev_22), (1471, ev_18), (1472, ev_146), (1475, ev_28), (1477, ev_147), (1480, ev_21), (1481, ev_148), (1484, ev_50), (1485, ev_26), (1486, ev_149)]
noncomputable def zi_0_56 : ZIs := [(1489, ev_50), (1490, ev_150), (1493, ev_21), (1494, ev_13), (1495, ev_12), (1497, ev_7), (1498, ev_22), (1499, ev_18), (1500, ev_13), (1501, ev_12), (1503, ev_30), (1504, ev_22), (1505, ev_18), (1506, ev_23), (1507, ev_151), (1510, ev_25)]
noncomputable def zi_0_57 : ZIs := [(1512, ev_26), (1513, ev_13), (1514, ev_12), (1516, ev_7), (1517, ev_22), (1518, ev_18), (1519, ev_13), (1520, ev_12), (1522, ev_30), (1523, ev_22), (1524, ev_18), (1525, ev_152), (1528, ev_58), (1530, ev_153), (1533, ev_21), (1534, ev_13)]
noncomputable def zi_0_58 : ZIs := [(1535, ev_12), (1537, ev_7), (1538, ev_22), (1539, ev_18), (1540, ev_13), (1541, ev_12), (1543, ev_30), (1544, ev_22), (1545, ev_18), (1546, ev_13), (1547, ev_12), (1549, ev_31), (1550, ev_22), (1551, ev_18), (1552, ev_13), (1553, ev_12)]
noncomputable def zi_0_59 : ZIs := [(1555, ev_32), (1556, ev_22), (1557, ev_18), (1558, ev_23), (1559, ev_154), (1562, ev_25), (1564, ev_26), (1565, ev_13), (1566, ev_12), (1568, ev_7), (1569, ev_22), (1570, ev_18), (1571, ev_13), (1572, ev_12), (1574, ev_30), (1575, ev_22)]
noncomputable def zi_0_60 : ZIs := [(1576, ev_18), (1577, ev_13), (1578, ev_12), (1580, ev_31), (1581, ev_22), (1582, ev_18), (1583, ev_13), (1584, ev_12), (1586, ev_32), (1587, ev_22), (1588, ev_18), (1589, ev_155), (1592, ev_28), (1594, ev_156), (1597, ev_21), (1598, ev_13)]
noncomputable def zi_0_61 : ZIs := [(1599, ev_12), (1601, ev_7), (1602, ev_22), (1603, ev_18), (1604, ev_23), (1605, ev_157), (1608, ev_25), (1610, ev_26), (1611, ev_13), (1612, ev_12), (1614, ev_7), (1615, ev_22), (1616, ev_18), (1617, ev_158), (1620, ev_28), (1622, ev_159)]
noncomputable def zi_0_62 : ZIs := [(1625, ev_21), (1626, ev_160), (1629, ev_161), (1630, ev_26), (1631, ev_162), (1634, ev_161), (1635, ev_163), (1638, ev_21), (1639, ev_13), (1640, ev_12), (1642, ev_7), (1643, ev_22), (1644, ev_18), (1645, ev_23), (1646, ev_164), (1649, ev_25)]
noncomputable def zi_0_63 : ZIs := [(1651, ev_26), (1652, ev_13), (1653, ev_12), (1655, ev_7), (1656, ev_22), (1657, ev_18), (1658, ev_165), (1661, ev_58), (1663, ev_166), (1666, ev_21), (1667, ev_167), (1670, ev_50), (1671, ev_26), (1672, ev_168), (1675, ev_50), (1676, ev_169)]
noncomputable def zi_0_64 : ZIs := [(1679, ev_21), (1680, ev_13), (1681, ev_12), (1683, ev_7), (1684, ev_22), (1685, ev_18), (1686, ev_13), (1687, ev_12), (1689, ev_30), (1690, ev_22), (1691, ev_18), (1692, ev_23), (1693, ev_170), (1696, ev_25), (1698, ev_26), (1699, ev_13)]
noncomputable def zi_0_65 : ZIs := [(1700, ev_12), (1702, ev_7), (1703, ev_22), (1704, ev_18), (1705, ev_13), (1706, ev_12), (1708, ev_30), (1709, ev_22), (1710, ev_18), (1711, ev_171), (1714, ev_28), (1716, ev_172), (1719, ev_21), (1720, ev_173), (1723, ev_50), (1724, ev_26)]
noncomputable def zi_0_66 : ZIs := [(1725, ev_174), (1728, ev_50), (1729, ev_175), (1732, ev_21), (1733, ev_13), (1734, ev_12), (1736, ev_7), (1737, ev_22), (1738, ev_18), (1739, ev_13), (1740, ev_12), (1742, ev_30), (1743, ev_22), (1744, ev_18), (1745, ev_13), (1746, ev_12)]
noncomputable def zi_0_67 : ZIs := [(1748, ev_31), (1749, ev_22), (1750, ev_18), (1751, ev_13), (1752, ev_12), (1754, ev_32), (1755, ev_22), (1756, ev_18), (1757, ev_102), (1758, ev_176), (1760, ev_177), (1761, ev_13), (1762, ev_12), (1764, ev_33), (1765, ev_22), (1766, ev_18)]
noncomputable def zi_0_68 : ZIs := [(1767, ev_102), (1768, ev_178), (1771, ev_179), (1772, ev_180), (1773, ev_23), (1774, ev_181), (1777, ev_25), (1779, ev_26), (1780, ev_13), (1781, ev_12), (1783, ev_7), (1784, ev_22), (1785, ev_18), (1786, ev_13), (1787, ev_12), (1789, ev_30)]
noncomputable def zi_0_69 : ZIs := [(1790, ev_22), (1791, ev_18), (1792, ev_13), (1793, ev_12), (1795, ev_31), (1796, ev_22), (1797, ev_18), (1798, ev_13), (1799, ev_12), (1801, ev_32), (1802, ev_22), (1803, ev_18), (1804, ev_102), (1805, ev_176), (1807, ev_177), (1808, ev_13)]
noncomputable def zi_0_70 : ZIs := [(1809, ev_12), (1811, ev_33), (1812, ev_22), (1813, ev_18), (1814, ev_102), (1815, ev_178), (1818, ev_179), (1819, ev_180), (1820, ev_182), (1823, ev_28), (1825, ev_183), (1828, ev_21), (1829, ev_13), (1830, ev_12), (1832, ev_7), (1833, ev_22)]
noncomputable def zi_0_71 : ZIs := [(1834, ev_18), (1835, ev_23), (1836, ev_184), (1839, ev_25), (1841, ev_26), (1842, ev_13), (1843, ev_12), (1845, ev_7), (1846, ev_22), (1847, ev_18), (1848, ev_185), (1851, ev_58), (1853, ev_186), (1856, ev_21), (1857, ev_13), (1858, ev_12)]
noncomputable def zi_0_72 : ZIs := [(1860, ev_7), (1861, ev_22), (1862, ev_18), (1863, ev_23), (1864, ev_187), (1867, ev_25), (1869, ev_26), (1870, ev_13), (1871, ev_12), (1873, ev_7), (1874, ev_22), (1875, ev_18), (1876, ev_188), (1879, ev_28), (1881, ev_189), (1884, ev_190)]
noncomputable def zi_0_73 : ZIs := [(1887, ev_191), (1890, ev_7), (1891, ev_98)]
set_option maxRecDepth 100000 in
theorem xi_w0 : zall code [zi_0_0, zi_0_1, zi_0_3, zi_0_4, zi_0_5, zi_0_6, zi_0_7, zi_0_8, zi_0_9, zi_0_10, zi_0_11, zi_0_12, zi_0_13, zi_0_14, zi_0_15, zi_0_16, zi_0_17, zi_0_18, zi_0_19, zi_0_20, zi_0_21, zi_0_22, zi_0_23, zi_0_24, zi_0_25, zi_0_26, zi_0_27, zi_0_28, zi_0_29, zi_0_30, zi_0_31, zi_0_32, zi_0_33, zi_0_34, zi_0_35, zi_0_36, zi_0_37, zi_0_38, zi_0_39, zi_0_40, zi_0_41, zi_0_42, zi_0_43, zi_0_44, zi_0_45, zi_0_46, zi_0_47, zi_0_48, zi_0_49, zi_0_50, zi_0_51, zi_0_52, zi_0_53, zi_0_54, zi_0_55, zi_0_56, zi_0_57, zi_0_58, zi_0_59, zi_0_60, zi_0_61, zi_0_62, zi_0_63, zi_0_64, zi_0_65, zi_0_66, zi_0_67, zi_0_68, zi_0_69, zi_0_70, zi_0_71, zi_0_72, zi_0_73] := zall_w _ _ (by decide +kernel)
noncomputable def xi_0 (pc : Nat) : XIs := cond (Nat.blt pc 1034) (cond (Nat.blt pc 590) (cond (Nat.blt pc 378) (cond (Nat.blt pc 267) (cond (Nat.blt pc 40) (cond (Nat.blt pc 27) (zx zi_0_0) (zx zi_0_1)) (cond (Nat.blt pc 244) (xi_0_2) (zx zi_0_3))) (cond (Nat.blt pc 310) (cond (Nat.blt pc 289) (zx zi_0_4) (zx zi_0_5)) (cond (Nat.blt pc 329) (zx zi_0_6) (cond (Nat.blt pc 353) (zx zi_0_7) (zx zi_0_8))))) (cond (Nat.blt pc 468) (cond (Nat.blt pc 419) (cond (Nat.blt pc 399) (zx zi_0_9) (zx zi_0_10)) (cond (Nat.blt pc 442) (zx zi_0_11) (zx zi_0_12))) (cond (Nat.blt pc 517) (cond (Nat.blt pc 491) (zx zi_0_13) (zx zi_0_14)) (cond (Nat.blt pc 543) (zx zi_0_15) (cond (Nat.blt pc 564) (zx zi_0_16) (zx zi_0_17)))))) (cond (Nat.blt pc 809) (cond (Nat.blt pc 682) (cond (Nat.blt pc 635) (cond (Nat.blt pc 613) (zx zi_0_18) (zx zi_0_19)) (cond (Nat.blt pc 658) (zx zi_0_20) (zx zi_0_21))) (cond (Nat.blt pc 736) (cond (Nat.blt pc 712) (zx zi_0_22) (zx zi_0_23)) (cond (Nat.blt pc 763) (zx zi_0_24) (cond (Nat.blt pc 787) (zx zi_0_25) (zx zi_0_26))))) (cond (Nat.blt pc 922) (cond (Nat.blt pc 853) (cond (Nat.blt pc 832) (zx zi_0_27) (zx zi_0_28)) (cond (Nat.blt pc 877) (zx zi_0_29) (cond (Nat.blt pc 898) (zx zi_0_30) (zx zi_0_31)))) (cond (Nat.blt pc 971) (cond (Nat.blt pc 943) (zx zi_0_32) (zx zi_0_33)) (cond (Nat.blt pc 993) (zx zi_0_34) (cond (Nat.blt pc 1015) (zx zi_0_35) (zx zi_0_36))))))) (cond (Nat.blt pc 1460) (cond (Nat.blt pc 1256) (cond (Nat.blt pc 1130) (cond (Nat.blt pc 1081) (cond (Nat.blt pc 1057) (zx zi_0_37) (zx zi_0_38)) (cond (Nat.blt pc 1104) (zx zi_0_39) (zx zi_0_40))) (cond (Nat.blt pc 1181) (cond (Nat.blt pc 1155) (zx zi_0_41) (zx zi_0_42)) (cond (Nat.blt pc 1204) (zx zi_0_43) (cond (Nat.blt pc 1230) (zx zi_0_44) (zx zi_0_45))))) (cond (Nat.blt pc 1345) (cond (Nat.blt pc 1300) (cond (Nat.blt pc 1277) (zx zi_0_46) (zx zi_0_47)) (cond (Nat.blt pc 1322) (zx zi_0_48) (zx zi_0_49))) (cond (Nat.blt pc 1386) (cond (Nat.blt pc 1364) (zx zi_0_50) (zx zi_0_51)) (cond (Nat.blt pc 1411) (zx zi_0_52) (cond (Nat.blt pc 1437) (zx zi_0_53) (zx zi_0_54)))))) (cond (Nat.blt pc 1679) (cond (Nat.blt pc 1555) (cond (Nat.blt pc 1512) (cond (Nat.blt pc 1489) (zx zi_0_55) (zx zi_0_56)) (cond (Nat.blt pc 1535) (zx zi_0_57) (zx zi_0_58))) (cond (Nat.blt pc 1599) (cond (Nat.blt pc 1576) (zx zi_0_59) (zx zi_0_60)) (cond (Nat.blt pc 1625) (zx zi_0_61) (cond (Nat.blt pc 1651) (zx zi_0_62) (zx zi_0_63))))) (cond (Nat.blt pc 1790) (cond (Nat.blt pc 1725) (cond (Nat.blt pc 1700) (zx zi_0_64) (zx zi_0_65)) (cond (Nat.blt pc 1748) (zx zi_0_66) (cond (Nat.blt pc 1767) (zx zi_0_67) (zx zi_0_68)))) (cond (Nat.blt pc 1834) (cond (Nat.blt pc 1809) (zx zi_0_69) (zx zi_0_70)) (cond (Nat.blt pc 1860) (zx zi_0_71) (cond (Nat.blt pc 1887) (zx zi_0_72) (zx zi_0_73)))))))
theorem xi_ok0 (pc : Nat) : xi_ok code (xi_0 pc) = true := xi_c (xi_c (xi_c (xi_c (xi_c (xi_c (zq1 xi_w0) (zq1 (zq2 xi_w0))) (xi_c (xi_ok0_2) (zq1 (zq2 (zq2 xi_w0))))) (xi_c (xi_c (zq1 (zq2 (zq2 (zq2 xi_w0)))) (zq1 (zq2 (zq2 (zq2 (zq2 xi_w0)))))) (xi_c (zq1 (zq2 (zq2 (zq2 (zq2 (zq2 xi_w0)))))) (xi_c (zq1 (zq2 (zq2 (zq2 (zq2 (zq2 (zq2 xi_w0))))))) (zq1 (zq2 (zq2 (zq2 (zq2 (zq2 (zq2 (zq2 xi_w0)))))))))))) (xi_c (xi_c (xi_c (zq1 (zq2 (zq2 (zq2 (zq2 (zq2 (zq2 (zq2 (zq2 xi_w0))))))))) (zq1 (zq2 (zq2 (zq2 (zq2 (zq2 (zq2 (zq2 (zq2 (zq2 xi_w0))))))))))) (xi_c (zq1 (zq2 (zq2 (zq2 (zq2 (zq2 (zq2 (zq2 (zq2 (zq2 (zq2 xi_w0))))))))))) (zq1 (zq2 (zq2 (zq2 (zq2 (zq2 (zq2 (zq2 (zq2 (zq2 (zq2 (zq2 xi_w0)))))))))))))) (xi_c (xi_c (zq1 (zq2 (zq2 (zq2 (zq2 (zq2 (zq2 (zq2 (zq2 (zq2 (zq2 (zq2 (zq2 xi_w0))))))))))))) (zq1 (zq2 (zq2 (zq2 (zq2 (zq2 (zq2 (zq2 (zq2 (zq2 (zq2 (zq2 (zq2 (zq2 xi_w0))))))))))))))) (xi_c (zq1 (zq2 (zq2 (zq2 (zq2 (zq2 (zq2 (zq2 (zq2 (zq2 (zq2 (zq2 (zq2 (zq2 (zq2 xi_w0))))))))))))))) (xi_c (zq1 (zq2 (zq2 (zq2 (zq2 (zq2 (zq2 (zq2 (zq2 (zq2 (zq2 (zq2 (zq2 (zq2 (zq2 (zq2 xi_w0)))))))))))))))) (zq1 (zq2 (zq2 (zq2 (zq2 (zq2 (zq2 (zq2 (zq2 (zq2 (zq2 (zq2 (zq2 (zq2 (zq2 (zq2 (zq2 xi_w0)))))))))))))))))))))) (xi_c (xi_c (xi_c (xi_c (zq1 (zq2 (zq2 (zq2 (zq2 (zq2 (zq2 (zq2 (zq2 (zq2 (zq2 (zq2 (zq2 (zq2 (zq2 (zq2 (zq2 (zq2 xi_w0)))))))))))))))))) (zq1 (zq2 (zq2 (zq2 (zq2 (zq2 (zq2 (zq2 (zq2 (zq2 (zq2 (zq2 (zq2 (zq2 (zq2 (zq2 (zq2 (zq2 (zq2 xi_w0)))))))))))))))))))) (xi_c (zq1 (zq2 (zq2 (zq2 (zq2 (zq2 (zq2 (zq2 (zq2 (zq2 (zq2 (zq2 (zq2 (zq2 (zq2 (zq2 (zq2 (zq2 (zq2 (zq2 xi_w0)))))))))))))))))))) (zq1 (zq2 (zq2 (zq2 (zq2 (zq2 (zq2 (zq2 (zq2 (zq2 (zq2 (zq2 (zq2 (zq2 (zq2 (zq2 (zq2 (zq2 (zq2 (zq2 (zq2 xi_w0))))))))))))))))))))))) (xi_c (xi_c (zq1 (zq2 (zq2 (zq2 (zq2 (zq2 (zq2 (zq2 (zq2 (zq2 (zq2 (zq2 (zq2 (zq2 (zq2 (zq2 (zq2 (zq2 (zq2 (zq2 (zq2 (zq2 xi_w0)))))))))))))))))))))) (zq1 (zq2 (zq2 (zq2 (zq2 (zq2 (zq2 (zq2 (zq2 (zq2 (zq2 (zq2 (zq2 (zq2 (zq2 (zq2 (zq2 (zq2 (zq2 (zq2 (zq2 (zq2 (zq2 xi_w0)))))))))))))))))))))))) (xi_c (zq1 (zq2 (zq2 (zq2 (zq2 (zq2 (zq2 (zq2 (zq2 (zq2 (zq2 (zq2 (zq2 (zq2 (zq2 (zq2 (zq2 (zq2 (zq2 (zq2 (zq2 (zq2 (zq2 (zq2 xi_w0)))))))))))))))))))))))) (xi_c (zq1 (zq2 (zq2 (zq2 (zq2 (zq2 (zq2 (zq2 (zq2 (zq2 (zq2 (zq2 (zq2 (zq2 (zq2 (zq2 (zq2 (zq2 (zq2 (zq2 (zq2 (zq2 (zq2 (zq2 (zq2 xi_w0))))))))))))))))))))))))) (zq1 (zq2 (zq2 (zq2 (zq2 (zq2 (zq2 (zq2 (zq2 (zq2 (zq2 (zq2 (zq2 (zq2 (zq2 (zq2 (zq2 (zq2 (zq2 (zq2 (zq2 (zq2 (zq2 (zq2 (zq2 (zq2 xi_w0)))))))))))))))))))))))))))))) (xi_c (xi_c (xi_c (zq1 (zq2 (zq2 (zq2 (zq2 (zq2 (zq2 (zq2 (zq2 (zq2 (zq2 (zq2 (zq2 (zq2 (zq2 (zq2 (zq2 (zq2 (zq2 (zq2 (zq2 (zq2 (zq2 (zq2 (zq2 (zq2 (zq2 xi_w0))))))))))))))))))))))))))) (zq1 (zq2 (zq2 (zq2 (zq2 (zq2 (zq2 (zq2 (zq2 (zq2 (zq2 (zq2 (zq2 (zq2 (zq2 (zq2 (zq2 (zq2 (zq2 (zq2 (zq2 (zq2 (zq2 (zq2 (zq2 (zq2 (zq2 (zq2 xi_w0))))))))))))))))))))))))))))) (xi_c (zq1 (zq2 (zq2 (zq2 (zq2 (zq2 (zq2 (zq2 (zq2 (zq2 (zq2 (zq2 (zq2 (zq2 (zq2 (zq2 (zq2 (zq2 (zq2 (zq2 (zq2 (zq2 (zq2 (zq2 (zq2 (zq2 (zq2 (zq2 (zq2 xi_w0))))))))))))))))))))))))))))) (xi_c (zq1 (zq2 (zq2 (zq2 (zq2 (zq2 (zq2 (zq2 (zq2 (zq2 (zq2 (zq2 (zq2 (zq2 (zq2 (zq2 (zq2 (zq2 (zq2 (zq2 (zq2 (zq2 (zq2 (zq2 (zq2 (zq2 (zq2 (zq2 (zq2 (zq2 xi_w0)))))))))))))))))))))))))))))) (zq1 (zq2 (zq2 (zq2 (zq2 (zq2 (zq2 (zq2 (zq2 (zq2 (zq2 (zq2 (zq2 (zq2 (zq2 (zq2 (zq2 (zq2 (zq2 (zq2 (zq2 (zq2 (zq2 (zq2 (zq2 (zq2 (zq2 (zq2 (zq2 (zq2 (zq2 xi_w0)))))))))))))))))))))))))))))))))) (xi_c (xi_c (zq1 (zq2 (zq2 (zq2 (zq2 (zq2 (zq2 (zq2 (zq2 (zq2 (zq2 (zq2 (zq2 (zq2 (zq2 (zq2 (zq2 (zq2 (zq2 (zq2 (zq2 (zq2 (zq2 (zq2 (zq2 (zq2 (zq2 (zq2 (zq2 (zq2 (zq2 (zq2 xi_w0)))))))))))))))))))))))))))))))) (zq1 (zq2 (zq2 (zq2 (zq2 (zq2 (zq2 (zq2 (zq2 (zq2 (zq2 (zq2 (zq2 (zq2 (zq2 (zq2 (zq2 (zq2 (zq2 (zq2 (zq2 (zq2 (zq2 (zq2 (zq2 (zq2 (zq2 (zq2 (zq2 (zq2 (zq2 (zq2 (zq2 xi_w0)))))))))))))))))))))))))))))))))) (xi_c (zq1 (zq2 (zq2 (zq2 (zq2 (zq2 (zq2 (zq2 (zq2 (zq2 (zq2 (zq2 (zq2 (zq2 (zq2 (zq2 (zq2 (zq2 (zq2 (zq2 (zq2 (zq2 (zq2 (zq2 (zq2 (zq2 (zq2 (zq2 (zq2 (zq2 (zq2 (zq2 (zq2 (zq2 xi_w0)))))))))))))))))))))))))))))))))) (xi_c (zq1 (zq2 (zq2 (zq2 (zq2 (zq2 (zq2 (zq2 (zq2 (zq2 (zq2 (zq2 (zq2 (zq2 (zq2 (zq2 (zq2 (zq2 (zq2 (zq2 (zq2 (zq2 (zq2 (zq2 (zq2 (zq2 (zq2 (zq2 (zq2 (zq2 (zq2 (zq2 (zq2 (zq2 (zq2 xi_w0))))))))))))))))))))))))))))))))))) (zq1 (zq2 (zq2 (zq2 (zq2 (zq2 (zq2 (zq2 (zq2 (zq2 (zq2 (zq2 (zq2 (zq2 (zq2 (zq2 (zq2 (zq2 (zq2 (zq2 (zq2 (zq2 (zq2 (zq2 (zq2 (zq2 (zq2 (zq2 (zq2 (zq2 (zq2 (zq2 (zq2 (zq2 (zq2 (zq2 xi_w0)))))))))))))))))))))))))))))))))))))))))) (xi_c (xi_c (xi_c (xi_c (xi_c (zq1 (zq2 (zq2 (zq2 (zq2 (zq2 (zq2 (zq2 (zq2 (zq2 (zq2 (zq2 (zq2 (zq2 (zq2 (zq2 (zq2 (zq2 (zq2 (zq2 (zq2 (zq2 (zq2 (zq2 (zq2 (zq2 (zq2 (zq2 (zq2 (zq2 (zq2 (zq2 (zq2 (zq2 (zq2 (zq2 (zq2 xi_w0))))))))))))))))))))))))))))))))))))) (zq1 (zq2 (zq2 (zq2 (zq2 (zq2 (zq2 (zq2 (zq2 (zq2 (zq2 (zq2 (zq2 (zq2 (zq2 (zq2 (zq2 (zq2 (zq2 (zq2 (zq2 (zq2 (zq2 (zq2 (zq2 (zq2 (zq2 (zq2 (zq2 (zq2 (zq2 (zq2 (zq2 (zq2 (zq2 (zq2 (zq2 (zq2 xi_w0))))))))))))))))))))))))))))))))))))))) (xi_c (zq1 (zq2 (zq2 (zq2 (zq2 (zq2 (zq2 (zq2 (zq2 (zq2 (zq2 (zq2 (zq2 (zq2 (zq2 (zq2 (zq2 (zq2 (zq2 (zq2 (zq2 (zq2 (zq2 (zq2 (zq2 (zq2 (zq2 (zq2 (zq2 (zq2 (zq2 (zq2 (zq2 (zq2 (zq2 (zq2 (zq2 (zq2 (zq2 xi_w0))))))))))))))))))))))))))))))))))))))) (zq1 (zq2 (zq2 (zq2 (zq2 (zq2 (zq2 (zq2 (zq2 (zq2 (zq2 (zq2 (zq2 (zq2 (zq2 (zq2 (zq2 (zq2 (zq2 (zq2 (zq2 (zq2 (zq2 (zq2 (zq2 (zq2 (zq2 (zq2 (zq2 (zq2 (zq2 (zq2 (zq2 (zq2 (zq2 (zq2 (zq2 (zq2 (zq2 (zq2 xi_w0)))))))))))))))))))))))))))))))))))))))))) (xi_c (xi_c (zq1 (zq2 (zq2 (zq2 (zq2 (zq2 (zq2 (zq2 (zq2 (zq2 (zq2 (zq2 (zq2 (zq2 (zq2 (zq2 (zq2 (zq2 (zq2 (zq2 (zq2 (zq2 (zq2 (zq2 (zq2 (zq2 (zq2 (zq2 (zq2 (zq2 (zq2 (zq2 (zq2 (zq2 (zq2 (zq2 (zq2 (zq2 (zq2 (zq2 (zq2 xi_w0))))))))))))))))))))))))))))))))))))))))) (zq1 (zq2 (zq2 (zq2 (zq2 (zq2 (zq2 (zq2 (zq2 (zq2 (zq2 (zq2 (zq2 (zq2 (zq2 (zq2 (zq2 (zq2 (zq2 (zq2 (zq2 (zq2 (zq2 (zq2 (zq2 (zq2 (zq2 (zq2 (zq2 (zq2 (zq2 (zq2 (zq2 (zq2 (zq2 (zq2 (zq2 (zq2 (zq2 (zq2 (zq2 (zq2 xi_w0))))))))))))))))))))))))))))))))))))))))))) (xi_c (zq1 (zq2 (zq2 (zq2 (zq2 (zq2 (zq2 (zq2 (zq2 (zq2 (zq2 (zq2 (zq2 (zq2 (zq2 (zq2 (zq2 (zq2 (zq2 (zq2 (zq2 (zq2 (zq2 (zq2 (zq2 (zq2 (zq2 (zq2 (zq2 (zq2 (zq2 (zq2 (zq2 (zq2 (zq2 (zq2 (zq2 (zq2 (zq2 (zq2 (zq2 (zq2 (zq2 xi_w0))))))))))))))))))))))))))))))))))))))))))) (xi_c (zq1 (zq2 (zq2 (zq2 (zq2 (zq2 (zq2 (zq2 (zq2 (zq2 (zq2 (zq2 (zq2 (zq2 (zq2 (zq2 (zq2 (zq2 (zq2 (zq2 (zq2 (zq2 (zq2 (zq2 (zq2 (zq2 (zq2 (zq2 (zq2 (zq2 (zq2 (zq2 (zq2 (zq2 (zq2 (zq2 (zq2 (zq2 (zq2 (zq2 (zq2 (zq2 (zq2 (zq2 xi_w0)))))))))))))))))))))))))))))))))))))))))))) (zq1 (zq2 (zq2 (zq2 (zq2 (zq2 (zq2 (zq2 (zq2 (zq2 (zq2 (zq2 (zq2 (zq2 (zq2 (zq2 (zq2 (zq2 (zq2 (zq2 (zq2 (zq2 (zq2 (zq2 (zq2 (zq2 (zq2 (zq2 (zq2 (zq2 (zq2 (zq2 (zq2 (zq2 (zq2 (zq2 (zq2 (zq2 (zq2 (zq2 (zq2 (zq2 (zq2 (zq2 (zq2 xi_w0))))))))))))))))))))))))))))))))))))))))))))))))) (xi_c (xi_c (xi_c (zq1 (zq2 (zq2 (zq2 (zq2 (zq2 (zq2 (zq2 (zq2 (zq2 (zq2 (zq2 (zq2 (zq2 (zq2 (zq2 (zq2 (zq2 (zq2 (zq2 (zq2 (zq2 (zq2 (zq2 (zq2 (zq2 (zq2 (zq2 (zq2 (zq2 (zq2 (zq2 (zq2 (zq2 (zq2 (zq2 (zq2 (zq2 (zq2 (zq2 (zq2 (zq2 (zq2 (zq2 (zq2 (zq2 xi_w0)))))))))))))))))))))))))))))))))))))))))))))) (zq1 (zq2 (zq2 (zq2 (zq2 (zq2 (zq2 (zq2 (zq2 (zq2 (zq2 (zq2 (zq2 (zq2 (zq2 (zq2 (zq2 (zq2 (zq2 (zq2 (zq2 (zq2 (zq2 (zq2 (zq2 (zq2 (zq2 (zq2 (zq2 (zq2 (zq2 (zq2 (zq2 (zq2 (zq2 (zq2 (zq2 (zq2 (zq2 (zq2 (zq2 (zq2 (zq2 (zq2 (zq2 (zq2 (zq2 xi_w0)))))))))))))))))))))))))))))))))))))))))))))))) (xi_c (zq1 (zq2 (zq2 (zq2 (zq2 (zq2 (zq2 (zq2 (zq2 (zq2 (zq2 (zq2 (zq2 (zq2 (zq2 (zq2 (zq2 (zq2 (zq2 (zq2 (zq2 (zq2 (zq2 (zq2 (zq2 (zq2 (zq2 (zq2 (zq2 (zq2 (zq2 (zq2 (zq2 (zq2 (zq2 (zq2 (zq2 (zq2 (zq2 (zq2 (zq2 (zq2 (zq2 (zq2 (zq2 (zq2 (zq2 (zq2 xi_w0)))))))))))))))))))))))))))))))))))))))))))))))) (zq1 (zq2 (zq2 (zq2 (zq2 (zq2 (zq2 (zq2 (zq2 (zq2 (zq2 (zq2 (zq2 (zq2 (zq2 (zq2 (zq2 (zq2 (zq2 (zq2 (zq2 (zq2 (zq2 (zq2 (zq2 (zq2 (zq2 (zq2 (zq2 (zq2 (zq2 (zq2 (zq2 (zq2 (zq2 (zq2 (zq2 (zq2 (zq2 (zq2 (zq2 (zq2 (zq2 (zq2 (zq2 (zq2 (zq2 (zq2 (zq2 xi_w0))))))))))))))))))))))))))))))))))))))))))))))))))) (xi_c (xi_c (zq1 (zq2 (zq2 (zq2 (zq2 (zq2 (zq2 (zq2 (zq2 (zq2 (zq2 (zq2 (zq2 (zq2 (zq2 (zq2 (zq2 (zq2 (zq2 (zq2 (zq2 (zq2 (zq2 (zq2 (zq2 (zq2 (zq2 (zq2 (zq2 (zq2 (zq2 (zq2 (zq2 (zq2 (zq2 (zq2 (zq2 (zq2 (zq2 (zq2 (zq2 (zq2 (zq2 (zq2 (zq2 (zq2 (zq2 (zq2 (zq2 (zq2 xi_w0)))))))))))))))))))))))))))))))))))))))))))))))))) (zq1 (zq2 (zq2 (zq2 (zq2 (zq2 (zq2 (zq2 (zq2 (zq2 (zq2 (zq2 (zq2 (zq2 (zq2 (zq2 (zq2 (zq2 (zq2 (zq2 (zq2 (zq2 (zq2 (zq2 (zq2 (zq2 (zq2 (zq2 (zq2 (zq2 (zq2 (zq2 (zq2 (zq2 (zq2 (zq2 (zq2 (zq2 (zq2 (zq2 (zq2 (zq2 (zq2 (zq2 (zq2 (zq2 (zq2 (zq2 (zq2 (zq2 (zq2 xi_w0)))))))))))))))))))))))))))))))))))))))))))))))))))) (xi_c (zq1 (zq2 (zq2 (zq2 (zq2 (zq2 (zq2 (zq2 (zq2 (zq2 (zq2 (zq2 (zq2 (zq2 (zq2 (zq2 (zq2 (zq2 (zq2 (zq2 (zq2 (zq2 (zq2 (zq2 (zq2 (zq2 (zq2 (zq2 (zq2 (zq2 (zq2 (zq2 (zq2 (zq2 (zq2 (zq2 (zq2 (zq2 (zq2 (zq2 (zq2 (zq2 (zq2 (zq2 (zq2 (zq2 (zq2 (zq2 (zq2 (zq2 (zq2 (zq2 xi_w0)))))))))))))))))))))))))))))))))))))))))))))))))))) (xi_c (zq1 (zq2 (zq2 (zq2 (zq2 (zq2 (zq2 (zq2 (zq2 (zq2 (zq2 (zq2 (zq2 (zq2 (zq2 (zq2 (zq2 (zq2 (zq2 (zq2 (zq2 (zq2 (zq2 (zq2 (zq2 (zq2 (zq2 (zq2 (zq2 (zq2 (zq2 (zq2 (zq2 (zq2 (zq2 (zq2 (zq2 (zq2 (zq2 (zq2 (zq2 (zq2 (zq2 (zq2 (zq2 (zq2 (zq2 (zq2 (zq2 (zq2 (zq2 (zq2 (zq2 xi_w0))))))))))))))))))))))))))))))))))))))))))))))))))))) (zq1 (zq2 (zq2 (zq2 (zq2 (zq2 (zq2 (zq2 (zq2 (zq2 (zq2 (zq2 (zq2 (zq2 (zq2 (zq2 (zq2 (zq2 (zq2 (zq2 (zq2 (zq2 (zq2 (zq2 (zq2 (zq2 (zq2 (zq2 (zq2 (zq2 (zq2 (zq2 (zq2 (zq2 (zq2 (zq2 (zq2 (zq2 (zq2 (zq2 (zq2 (zq2 (zq2 (zq2 (zq2 (zq2 (zq2 (zq2 (zq2 (zq2 (zq2 (zq2 (zq2 (zq2 xi_w0))))))))))))))))))))))))))))))))))))))))))))))))))))))))))) (xi_c (xi_c (xi_c (xi_c (zq1 (zq2 (zq2 (zq2 (zq2 (zq2 (zq2 (zq2 (zq2 (zq2 (zq2 (zq2 (zq2 (zq2 (zq2 (zq2 (zq2 (zq2 (zq2 (zq2 (zq2 (zq2 (zq2 (zq2 (zq2 (zq2 (zq2 (zq2 (zq2 (zq2 (zq2 (zq2 (zq2 (zq2 (zq2 (zq2 (zq2 (zq2 (zq2 (zq2 (zq2 (zq2 (zq2 (zq2 (zq2 (zq2 (zq2 (zq2 (zq2 (zq2 (zq2 (zq2 (zq2 (zq2 (zq2 xi_w0))))))))))))))))))))))))))))))))))))))))))))))))))))))) (zq1 (zq2 (zq2 (zq2 (zq2 (zq2 (zq2 (zq2 (zq2 (zq2 (zq2 (zq2 (zq2 (zq2 (zq2 (zq2 (zq2 (zq2 (zq2 (zq2 (zq2 (zq2 (zq2 (zq2 (zq2 (zq2 (zq2 (zq2 (zq2 (zq2 (zq2 (zq2 (zq2 (zq2 (zq2 (zq2 (zq2 (zq2 (zq2 (zq2 (zq2 (zq2 (zq2 (zq2 (zq2 (zq2 (zq2 (zq2 (zq2 (zq2 (zq2 (zq2 (zq2 (zq2 (zq2 (zq2 xi_w0))))))))))))))))))))))))))))))))))))))))))))))))))))))))) (xi_c (zq1 (zq2 (zq2 (zq2 (zq2 (zq2 (zq2 (zq2 (zq2 (zq2 (zq2 (zq2 (zq2 (zq2 (zq2 (zq2 (zq2 (zq2 (zq2 (zq2 (zq2 (zq2 (zq2 (zq2 (zq2 (zq2 (zq2 (zq2 (zq2 (zq2 (zq2 (zq2 (zq2 (zq2 (zq2 (zq2 (zq2 (zq2 (zq2 (zq2 (zq2 (zq2 (zq2 (zq2 (zq2 (zq2 (zq2 (zq2 (zq2 (zq2 (zq2 (zq2 (zq2 (zq2 (zq2 (zq2 (zq2 xi_w0))))))))))))))))))))))))))))))))))))))))))))))))))))))))) (zq1 (zq2 (zq2 (zq2 (zq2 (zq2 (zq2 (zq2 (zq2 (zq2 (zq2 (zq2 (zq2 (zq2 (zq2 (zq2 (zq2 (zq2 (zq2 (zq2 (zq2 (zq2 (zq2 (zq2 (zq2 (zq2 (zq2 (zq2 (zq2 (zq2 (zq2 (zq2 (zq2 (zq2 (zq2 (zq2 (zq2 (zq2 (zq2 (zq2 (zq2 (zq2 (zq2 (zq2 (zq2 (zq2 (zq2 (zq2 (zq2 (zq2 (zq2 (zq2 (zq2 (zq2 (zq2 (zq2 (zq2 (zq2 xi_w0)))))))))))))))))))))))))))))))))))))))))))))))))))))))))))) (xi_c (xi_c (zq1 (zq2 (zq2 (zq2 (zq2 (zq2 (zq2 (zq2 (zq2 (zq2 (zq2 (zq2 (zq2 (zq2 (zq2 (zq2 (zq2 (zq2 (zq2 (zq2 (zq2 (zq2 (zq2 (zq2 (zq2 (zq2 (zq2 (zq2 (zq2 (zq2 (zq2 (zq2 (zq2 (zq2 (zq2 (zq2 (zq2 (zq2 (zq2 (zq2 (zq2 (zq2 (zq2 (zq2 (zq2 (zq2 (zq2 (zq2 (zq2 (zq2 (zq2 (zq2 (zq2 (zq2 (zq2 (zq2 (zq2 (zq2 (zq2 xi_w0))))))))))))))))))))))))))))))))))))))))))))))))))))))))))) (zq1 (zq2 (zq2 (zq2 (zq2 (zq2 (zq2 (zq2 (zq2 (zq2 (zq2 (zq2 (zq2 (zq2 (zq2 (zq2 (zq2 (zq2 (zq2 (zq2 (zq2 (zq2 (zq2 (zq2 (zq2 (zq2 (zq2 (zq2 (zq2 (zq2 (zq2 (zq2 (zq2 (zq2 (zq2 (zq2 (zq2 (zq2 (zq2 (zq2 (zq2 (zq2 (zq2 (zq2 (zq2 (zq2 (zq2 (zq2 (zq2 (zq2 (zq2 (zq2 (zq2 (zq2 (zq2 (zq2 (zq2 (zq2 (zq2 (zq2 xi_w0))))))))))))))))))))))))))))))))))))))))))))))))))))))))))))) (xi_c (zq1 (zq2 (zq2 (zq2 (zq2 (zq2 (zq2 (zq2 (zq2 (zq2 (zq2 (zq2 (zq2 (zq2 (zq2 (zq2 (zq2 (zq2 (zq2 (zq2 (zq2 (zq2 (zq2 (zq2 (zq2 (zq2 (zq2 (zq2 (zq2 (zq2 (zq2 (zq2 (zq2 (zq2 (zq2 (zq2 (zq2 (zq2 (zq2 (zq2 (zq2 (zq2 (zq2 (zq2 (zq2 (zq2 (zq2 (zq2 (zq2 (zq2 (zq2 (zq2 (zq2 (zq2 (zq2 (zq2 (zq2 (zq2 (zq2 (zq2 (zq2 xi_w0))))))))))))))))))))))))))))))))))))))))))))))))))))))))))))) (xi_c (zq1 (zq2 (zq2 (zq2 (zq2 (zq2 (zq2 (zq2 (zq2 (zq2 (zq2 (zq2 (zq2 (zq2 (zq2 (zq2 (zq2 (zq2 (zq2 (zq2 (zq2 (zq2 (zq2 (zq2 (zq2 (zq2 (zq2 (zq2 (zq2 (zq2 (zq2 (zq2 (zq2 (zq2 (zq2 (zq2 (zq2 (zq2 (zq2 (zq2 (zq2 (zq2 (zq2 (zq2 (zq2 (zq2 (zq2 (zq2 (zq2 (zq2 (zq2 (zq2 (zq2 (zq2 (zq2 (zq2 (zq2 (zq2 (zq2 (zq2 (zq2 (zq2 xi_w0)))))))))))))))))))))))))))))))))))))))))))))))))))))))))))))) (zq1 (zq2 (zq2 (zq2 (zq2 (zq2 (zq2 (zq2 (zq2 (zq2 (zq2 (zq2 (zq2 (zq2 (zq2 (zq2 (zq2 (zq2 (zq2 (zq2 (zq2 (zq2 (zq2 (zq2 (zq2 (zq2 (zq2 (zq2 (zq2 (zq2 (zq2 (zq2 (zq2 (zq2 (zq2 (zq2 (zq2 (zq2 (zq2 (zq2 (zq2 (zq2 (zq2 (zq2 (zq2 (zq2 (zq2 (zq2 (zq2 (zq2 (zq2 (zq2 (zq2 (zq2 (zq2 (zq2 (zq2 (zq2 (zq2 (zq2 (zq2 (zq2 (zq2 xi_w0))))))))))))))))))))))))))))))))))))))))))))))))))))))))))))))))))) (xi_c (xi_c (xi_c (zq1 (zq2 (zq2 (zq2 (zq2 (zq2 (zq2 (zq2 (zq2 (zq2 (zq2 (zq2 (zq2 (zq2 (zq2 (zq2 (zq2 (zq2 (zq2 (zq2 (zq2 (zq2 (zq2 (zq2 (zq2 (zq2 (zq2 (zq2 (zq2 (zq2 (zq2 (zq2 (zq2 (zq2 (zq2 (zq2 (zq2 (zq2 (zq2 (zq2 (zq2 (zq2 (zq2 (zq2 (zq2 (zq2 (zq2 (zq2 (zq2 (zq2 (zq2 (zq2 (zq2 (zq2 (zq2 (zq2 (zq2 (zq2 (zq2 (zq2 (zq2 (zq2 (zq2 (zq2 xi_w0)))))))))))))))))))))))))))))))))))))))))))))))))))))))))))))))) (zq1 (zq2 (zq2 (zq2 (zq2 (zq2 (zq2 (zq2 (zq2 (zq2 (zq2 (zq2 (zq2 (zq2 (zq2 (zq2 (zq2 (zq2 (zq2 (zq2 (zq2 (zq2 (zq2 (zq2 (zq2 (zq2 (zq2 (zq2 (zq2 (zq2 (zq2 (zq2 (zq2 (zq2 (zq2 (zq2 (zq2 (zq2 (zq2 (zq2 (zq2 (zq2 (zq2 (zq2 (zq2 (zq2 (zq2 (zq2 (zq2 (zq2 (zq2 (zq2 (zq2 (zq2 (zq2 (zq2 (zq2 (zq2 (zq2 (zq2 (zq2 (zq2 (zq2 (zq2 (zq2 xi_w0)))))))))))))))))))))))))))))))))))))))))))))))))))))))))))))))))) (xi_c (zq1 (zq2 (zq2 (zq2 (zq2 (zq2 (zq2 (zq2 (zq2 (zq2 (zq2 (zq2 (zq2 (zq2 (zq2 (zq2 (zq2 (zq2 (zq2 (zq2 (zq2 (zq2 (zq2 (zq2 (zq2 (zq2 (zq2 (zq2 (zq2 (zq2 (zq2 (zq2 (zq2 (zq2 (zq2 (zq2 (zq2 (zq2 (zq2 (zq2 (zq2 (zq2 (zq2 (zq2 (zq2 (zq2 (zq2 (zq2 (zq2 (zq2 (zq2 (zq2 (zq2 (zq2 (zq2 (zq2 (zq2 (zq2 (zq2 (zq2 (zq2 (zq2 (zq2 (zq2 (zq2 (zq2 xi_w0)))))))))))))))))))))))))))))))))))))))))))))))))))))))))))))))))) (xi_c (zq1 (zq2 (zq2 (zq2 (zq2 (zq2 (zq2 (zq2 (zq2 (zq2 (zq2 (zq2 (zq2 (zq2 (zq2 (zq2 (zq2 (zq2 (zq2 (zq2 (zq2 (zq2 (zq2 (zq2 (zq2 (zq2 (zq2 (zq2 (zq2 (zq2 (zq2 (zq2 (zq2 (zq2 (zq2 (zq2 (zq2 (zq2 (zq2 (zq2 (zq2 (zq2 (zq2 (zq2 (zq2 (zq2 (zq2 (zq2 (zq2 (zq2 (zq2 (zq2 (zq2 (zq2 (zq2 (zq2 (zq2 (zq2 (zq2 (zq2 (zq2 (zq2 (zq2 (zq2 (zq2 (zq2 (zq2 xi_w0))))))))))))))))))))))))))))))))))))))))))))))))))))))))))))))))))) (zq1 (zq2 (zq2 (zq2 (zq2 (zq2 (zq2 (zq2 (zq2 (zq2 (zq2 (zq2 (zq2 (zq2 (zq2 (zq2 (zq2 (zq2 (zq2 (zq2 (zq2 (zq2 (zq2 (zq2 (zq2 (zq2 (zq2 (zq2 (zq2 (zq2 (zq2 (zq2 (zq2 (zq2 (zq2 (zq2 (zq2 (zq2 (zq2 (zq2 (zq2 (zq2 (zq2 (zq2 (zq2 (zq2 (zq2 (zq2 (zq2 (zq2 (zq2 (zq2 (zq2 (zq2 (zq2 (zq2 (zq2 (zq2 (zq2 (zq2 (zq2 (zq2 (zq2 (zq2 (zq2 (zq2 (zq2 (zq2 xi_w0))))))))))))))))))))))))))))))))))))))))))))))))))))))))))))))))))))))) (xi_c (xi_c (zq1 (zq2 (zq2 (zq2 (zq2 (zq2 (zq2 (zq2 (zq2 (zq2 (zq2 (zq2 (zq2 (zq2 (zq2 (zq2 (zq2 (zq2 (zq2 (zq2 (zq2 (zq2 (zq2 (zq2 (zq2 (zq2 (zq2 (zq2 (zq2 (zq2 (zq2 (zq2 (zq2 (zq2 (zq2 (zq2 (zq2 (zq2 (zq2 (zq2 (zq2 (zq2 (zq2 (zq2 (zq2 (zq2 (zq2 (zq2 (zq2 (zq2 (zq2 (zq2 (zq2 (zq2 (zq2 (zq2 (zq2 (zq2 (zq2 (zq2 (zq2 (zq2 (zq2 (zq2 (zq2 (zq2 (zq2 (zq2 (zq2 xi_w0))))))))))))))))))))))))))))))))))))))))))))))))))))))))))))))))))))) (zq1 (zq2 (zq2 (zq2 (zq2 (zq2 (zq2 (zq2 (zq2 (zq2 (zq2 (zq2 (zq2 (zq2 (zq2 (zq2 (zq2 (zq2 (zq2 (zq2 (zq2 (zq2 (zq2 (zq2 (zq2 (zq2 (zq2 (zq2 (zq2 (zq2 (zq2 (zq2 (zq2 (zq2 (zq2 (zq2 (zq2 (zq2 (zq2 (zq2 (zq2 (zq2 (zq2 (zq2 (zq2 (zq2 (zq2 (zq2 (zq2 (zq2 (zq2 (zq2 (zq2 (zq2 (zq2 (zq2 (zq2 (zq2 (zq2 (zq2 (zq2 (zq2 (zq2 (zq2 (zq2 (zq2 (zq2 (zq2 (zq2 (zq2 xi_w0))))))))))))))))))))))))))))))))))))))))))))))))))))))))))))))))))))))) (xi_c (zq1 (zq2 (zq2 (zq2 (zq2 (zq2 (zq2 (zq2 (zq2 (zq2 (zq2 (zq2 (zq2 (zq2 (zq2 (zq2 (zq2 (zq2 (zq2 (zq2 (zq2 (zq2 (zq2 (zq2 (zq2 (zq2 (zq2 (zq2 (zq2 (zq2 (zq2 (zq2 (zq2 (zq2 (zq2 (zq2 (zq2 (zq2 (zq2 (zq2 (zq2 (zq2 (zq2 (zq2 (zq2 (zq2 (zq2 (zq2 (zq2 (zq2 (zq2 (zq2 (zq2 (zq2 (zq2 (zq2 (zq2 (zq2 (zq2 (zq2 (zq2 (zq2 (zq2 (zq2 (zq2 (zq2 (zq2 (zq2 (zq2 (zq2 (zq2 xi_w0))))))))))))))))))))))))))))))))))))))))))))))))))))))))))))))))))))))) (xi_c (zq1 (zq2 (zq2 (zq2 (zq2 (zq2 (zq2 (zq2 (zq2 (zq2 (zq2 (zq2 (zq2 (zq2 (zq2 (zq2 (zq2 (zq2 (zq2 (zq2 (zq2 (zq2 (zq2 (zq2 (zq2 (zq2 (zq2 (zq2 (zq2 (zq2 (zq2 (zq2 (zq2 (zq2 (zq2 (zq2 (zq2 (zq2 (zq2 (zq2 (zq2 (zq2 (zq2 (zq2 (zq2 (zq2 (zq2 (zq2 (zq2 (zq2 (zq2 (zq2 (zq2 (zq2 (zq2 (zq2 (zq2 (zq2 (zq2 (zq2 (zq2 (zq2 (zq2 (zq2 (zq2 (zq2 (zq2 (zq2 (zq2 (zq2 (zq2 (zq2 xi_w0)))))))))))))))))))))))))))))))))))))))))))))))))))))))))))))))))))))))) (zq1 (zq2 (zq2 (zq2 (zq2 (zq2 (zq2 (zq2 (zq2 (zq2 (zq2 (zq2 (zq2 (zq2 (zq2 (zq2 (zq2 (zq2 (zq2 (zq2 (zq2 (zq2 (zq2 (zq2 (zq2 (zq2 (zq2 (zq2 (zq2 (zq2 (zq2 (zq2 (zq2 (zq2 (zq2 (zq2 (zq2 (zq2 (zq2 (zq2 (zq2 (zq2 (zq2 (zq2 (zq2 (zq2 (zq2 (zq2 (zq2 (zq2 (zq2 (zq2 (zq2 (zq2 (zq2 (zq2 (zq2 (zq2 (zq2 (zq2 (zq2 (zq2 (zq2 (zq2 (zq2 (zq2 (zq2 (zq2 (zq2 (zq2 (zq2 (zq2 (zq2 xi_w0)))))))))))))))))))))))))))))))))))))))))))))))))))))))))))))))))))))))))))))))
noncomputable def zi_1_0 : ZIs := [(0, ev_26), (1, ev_10), (2, ev_13), (3, ev_192), (4, ev_193), (7, ev_102), (8, ev_194), (9, ev_195), (12, ev_9), (13, ev_7), (14, ev_98), (15, ev_9), (16, ev_30), (17, ev_98), (18, ev_10), (19, ev_98)]
set_option maxRecDepth 100000 in
theorem xi_w1 : zall cL_node [zi_1_0] := zall_w _ _ (by decide +kernel)
noncomputable def xi_1 (pc : Nat) : XIs := zx zi_1_0
theorem xi_ok1 (pc : Nat) : xi_ok cL_node (xi_1 pc) = true := zq1 xi_w1
noncomputable def zi_2_0 : ZIs := [(0, ev_196), (2, ev_10), (3, ev_13), (4, ev_192), (5, ev_197), (6, ev_198), (7, ev_12), (9, ev_96), (11, ev_199), (14, ev_102), (15, ev_194), (16, ev_200), (19, ev_201), (21, ev_7), (22, ev_98), (23, ev_201)]
noncomputable def zi_2_1 : ZIs := [(25, ev_30), (26, ev_98), (27, ev_10), (28, ev_98)]
set_option maxRecDepth 100000 in
theorem xi_w2 : zall cL_arc [zi_2_0, zi_2_1] := zall_w _ _ (by decide +kernel)
noncomputable def xi_2 (pc : Nat) : XIs := cond (Nat.blt pc 25) (zx zi_2_0) (zx zi_2_1)
theorem xi_ok2 (pc : Nat) : xi_ok cL_arc (xi_2 pc) = true := xi_c (zq1 xi_w2) (zq1 (zq2 xi_w2))
noncomputable def zi_3_0 : ZIs := [(0, ev_26), (1, ev_10), (2, ev_13), (3, ev_192), (4, ev_202), (7, ev_102), (8, ev_194), (9, ev_195), (12, ev_9), (13, ev_7), (14, ev_98), (15, ev_9), (16, ev_30), (17, ev_98), (18, ev_10), (19, ev_98)]
set_option maxRecDepth 100000 in
theorem xi_w3 : zall cL_take [zi_3_0] := zall_w _ _ (by decide +kernel)
noncomputable def xi_3 (pc : Nat) : XIs := zx zi_3_0
theorem xi_ok3 (pc : Nat) : xi_ok cL_take (xi_3 pc) = true := zq1 xi_w3
noncomputable def zi_4_0 : ZIs := [(0, ev_203), (2, ev_10), (3, ev_13), (4, ev_192), (5, ev_197), (6, ev_198), (7, ev_204), (10, ev_102), (11, ev_194), (12, ev_200), (15, ev_205), (17, ev_7), (18, ev_98), (19, ev_205), (21, ev_30), (22, ev_98)]
noncomputable def zi_4_1 : ZIs := [(23, ev_10), (24, ev_98)]
set_option maxRecDepth 100000 in
theorem xi_w4 : zall cL_set [zi_4_0, zi_4_1] := zall_w _ _ (by decide +kernel)
noncomputable def xi_4 (pc : Nat) : XIs := cond (Nat.blt pc 23) (zx zi_4_0) (zx zi_4_1)
theorem xi_ok4 (pc : Nat) : xi_ok cL_set (xi_4 pc) = true := xi_c (zq1 xi_w4) (zq1 (zq2 xi_w4))
noncomputable def zi_5_0 : ZIs := [(0, ev_23), (1, ev_10), (2, ev_13), (3, ev_192), (4, ev_197), (5, ev_206), (8, ev_102), (9, ev_194), (10, ev_200), (13, ev_207), (15, ev_7), (16, ev_98), (17, ev_207), (19, ev_30), (20, ev_98), (21, ev_10)]
noncomputable def zi_5_1 : ZIs := [(22, ev_98)]
set_option maxRecDepth 100000 in
theorem xi_w5 : zall cL_label [zi_5_0, zi_5_1] := zall_w _ _ (by decide +kernel)
noncomputable def xi_5 (pc : Nat) : XIs := cond (Nat.blt pc 22) (zx zi_5_0) (zx zi_5_1)
theorem xi_ok5 (pc : Nat) : xi_ok cL_label (xi_5 pc) = true := xi_c (zq1 xi_w5) (zq1 (zq2 xi_w5))
noncomputable def zi_6_0 : ZIs := [(0, ev_26), (1, ev_10), (2, ev_13), (3, ev_192), (4, ev_208), (7, ev_102), (8, ev_194), (9, ev_209), (12, ev_9), (13, ev_7), (14, ev_98), (15, ev_10), (16, ev_98)]
set_option maxRecDepth 100000 in
theorem xi_w6 : zall cL_view [zi_6_0] := zall_w _ _ (by decide +kernel)
noncomputable def xi_6 (pc : Nat) : XIs := zx zi_6_0
theorem xi_ok6 (pc : Nat) : xi_ok cL_view (xi_6 pc) = true := zq1 xi_w6
noncomputable def zi_7_0 : ZIs := [(0, ev_26), (1, ev_10), (2, ev_13), (3, ev_192), (4, ev_210), (7, ev_102), (8, ev_194), (9, ev_209), (12, ev_9), (13, ev_7), (14, ev_98), (15, ev_10), (16, ev_98)]
set_option maxRecDepth 100000 in
theorem xi_w7 : zall cL_size [zi_7_0] := zall_w _ _ (by decide +kernel)
noncomputable def xi_7 (pc : Nat) : XIs := zx zi_7_0
theorem xi_ok7 (pc : Nat) : xi_ok cL_size (xi_7 pc) = true := zq1 xi_w7
noncomputable def zi_8_0 : ZIs := [(0, ev_23), (1, ev_10), (2, ev_13), (3, ev_192), (4, ev_197), (5, ev_211), (8, ev_194), (9, ev_212), (12, ev_207), (14, ev_7), (15, ev_98), (16, ev_10), (17, ev_98)]
set_option maxRecDepth 100000 in
theorem xi_w8 : zall cL_told [zi_8_0] := zall_w _ _ (by decide +kernel)
noncomputable def xi_8 (pc : Nat) : XIs := zx zi_8_0
theorem xi_ok8 (pc : Nat) : xi_ok cL_told (xi_8 pc) = true := zq1 xi_w8
noncomputable def zi_9_0 : ZIs := [(0, ev_26), (1, ev_10), (2, ev_13), (3, ev_192), (4, ev_213), (7, ev_102), (8, ev_194), (9, ev_209), (12, ev_9), (13, ev_7), (14, ev_98), (15, ev_10), (16, ev_98)]
set_option maxRecDepth 100000 in
theorem xi_w9 : zall cL_labelOf [zi_9_0] := zall_w _ _ (by decide +kernel)
noncomputable def xi_9 (pc : Nat) : XIs := zx zi_9_0
theorem xi_ok9 (pc : Nat) : xi_ok cL_labelOf (xi_9 pc) = true := zq1 xi_w9
noncomputable def zi_10_0 : ZIs := [(0, ev_203), (2, ev_10), (3, ev_13), (4, ev_192), (5, ev_197), (6, ev_198), (7, ev_214), (10, ev_102), (11, ev_194), (12, ev_212), (15, ev_205), (17, ev_7), (18, ev_98), (19, ev_10), (20, ev_98)]
set_option maxRecDepth 100000 in
theorem xi_w10 : zall cL_arcAt [zi_10_0] := zall_w _ _ (by decide +kernel)
noncomputable def xi_10 (pc : Nat) : XIs := zx zi_10_0
theorem xi_ok10 (pc : Nat) : xi_ok cL_arcAt (xi_10 pc) = true := zq1 xi_w10
noncomputable def zi_11_0 : ZIs := [(0, ev_26), (1, ev_10), (2, ev_13), (3, ev_192), (4, ev_215), (7, ev_102), (8, ev_194), (9, ev_195), (12, ev_9), (13, ev_7), (14, ev_98), (15, ev_9), (16, ev_30), (17, ev_98), (18, ev_10), (19, ev_98)]
set_option maxRecDepth 100000 in
theorem xi_w11 : zall cL_type [zi_11_0] := zall_w _ _ (by decide +kernel)
noncomputable def xi_11 (pc : Nat) : XIs := zx zi_11_0
theorem xi_ok11 (pc : Nat) : xi_ok cL_type (xi_11 pc) = true := zq1 xi_w11
noncomputable def zi_12_0 : ZIs := [(0, ev_26), (1, ev_10), (2, ev_13), (3, ev_192), (4, ev_216), (7, ev_102), (8, ev_194), (9, ev_209), (12, ev_9), (13, ev_7), (14, ev_98), (15, ev_10), (16, ev_98)]
set_option maxRecDepth 100000 in
theorem xi_w12 : zall cL_fault [zi_12_0] := zall_w _ _ (by decide +kernel)
noncomputable def xi_12 (pc : Nat) : XIs := zx zi_12_0
theorem xi_ok12 (pc : Nat) : xi_ok cL_fault (xi_12 pc) = true := zq1 xi_w12
noncomputable def zi_13_0 : ZIs := [(0, ev_26), (1, ev_10), (2, ev_13), (3, ev_192), (4, ev_217), (7, ev_102), (8, ev_194), (9, ev_209), (12, ev_9), (13, ev_7), (14, ev_98), (15, ev_10), (16, ev_98)]
set_option maxRecDepth 100000 in
theorem xi_w13 : zall cL_printed [zi_13_0] := zall_w _ _ (by decide +kernel)
noncomputable def xi_13 (pc : Nat) : XIs := zx zi_13_0
theorem xi_ok13 (pc : Nat) : xi_ok cL_printed (xi_13 pc) = true := zq1 xi_w13
noncomputable def zi_14_0 : ZIs := [(0, ev_23), (1, ev_10), (2, ev_13), (3, ev_192), (4, ev_197), (5, ev_218), (8, ev_194), (9, ev_212), (12, ev_207), (14, ev_7), (15, ev_98), (16, ev_10), (17, ev_98)]
set_option maxRecDepth 100000 in
theorem xi_w14 : zall cL_distance [zi_14_0] := zall_w _ _ (by decide +kernel)
noncomputable def xi_14 (pc : Nat) : XIs := zx zi_14_0
theorem xi_ok14 (pc : Nat) : xi_ok cL_distance (xi_14 pc) = true := zq1 xi_w14
noncomputable def zi_15_0 : ZIs := [(0, ev_203), (2, ev_10), (3, ev_13), (4, ev_192), (5, ev_197), (6, ev_198), (7, ev_219), (10, ev_102), (11, ev_194), (12, ev_212), (15, ev_205), (17, ev_7), (18, ev_98), (19, ev_10), (20, ev_98)]
set_option maxRecDepth 100000 in
theorem xi_w15 : zall cL_way [zi_15_0] := zall_w _ _ (by decide +kernel)
noncomputable def xi_15 (pc : Nat) : XIs := zx zi_15_0
theorem xi_ok15 (pc : Nat) : xi_ok cL_way (xi_15 pc) = true := zq1 xi_w15
noncomputable def zi_16_0 : ZIs := [(0, ev_23), (1, ev_10), (2, ev_13), (3, ev_192), (4, ev_197), (5, ev_220), (8, ev_102), (9, ev_194), (10, ev_212), (13, ev_207), (15, ev_7), (16, ev_98), (17, ev_10), (18, ev_98)]
set_option maxRecDepth 100000 in
theorem xi_w16 : zall cL_width [zi_16_0] := zall_w _ _ (by decide +kernel)
noncomputable def xi_16 (pc : Nat) : XIs := zx zi_16_0
theorem xi_ok16 (pc : Nat) : xi_ok cL_width (xi_16 pc) = true := zq1 xi_w16
noncomputable def zi_17_0 : ZIs := [(0, ev_23), (1, ev_10), (2, ev_13), (3, ev_192), (4, ev_197), (5, ev_221), (8, ev_102), (9, ev_194), (10, ev_212), (13, ev_207), (15, ev_7), (16, ev_98), (17, ev_10), (18, ev_98)]
set_option maxRecDepth 100000 in
theorem xi_w17 : zall cL_shorts [zi_17_0] := zall_w _ _ (by decide +kernel)
noncomputable def xi_17 (pc : Nat) : XIs := zx zi_17_0
theorem xi_ok17 (pc : Nat) : xi_ok cL_shorts (xi_17 pc) = true := zq1 xi_w17
noncomputable def zi_18_0 : ZIs := [(0, ev_222), (2, ev_10), (3, ev_13), (4, ev_192), (5, ev_197), (6, ev_198), (7, ev_12), (9, ev_223), (12, ev_102), (13, ev_194), (14, ev_212), (17, ev_224), (19, ev_7), (20, ev_98), (21, ev_10), (22, ev_98)]
set_option maxRecDepth 100000 in
theorem xi_w18 : zall cL_shortArc [zi_18_0] := zall_w _ _ (by decide +kernel)
noncomputable def xi_18 (pc : Nat) : XIs := zx zi_18_0
theorem xi_ok18 (pc : Nat) : xi_ok cL_shortArc (xi_18 pc) = true := zq1 xi_w18
noncomputable def zi_19_0 : ZIs := [(0, ev_23), (1, ev_10), (2, ev_13), (3, ev_192), (4, ev_197), (5, ev_225), (8, ev_102), (9, ev_194), (10, ev_212), (13, ev_207), (15, ev_7), (16, ev_98), (17, ev_10), (18, ev_98)]
set_option maxRecDepth 100000 in
theorem xi_w19 : zall cL_part [zi_19_0] := zall_w _ _ (by decide +kernel)
noncomputable def xi_19 (pc : Nat) : XIs := zx zi_19_0
theorem xi_ok19 (pc : Nat) : xi_ok cL_part (xi_19 pc) = true := zq1 xi_w19
noncomputable def zi_20_0 : ZIs := [(0, ev_26), (1, ev_10), (2, ev_13), (3, ev_192), (4, ev_226), (7, ev_227), (10, ev_228), (11, ev_229), (14, ev_230), (15, ev_194), (16, ev_209), (19, ev_9), (20, ev_7), (21, ev_98), (22, ev_10), (23, ev_98)]
set_option maxRecDepth 100000 in
theorem xi_w20 : zall cL_bridge [zi_20_0] := zall_w _ _ (by decide +kernel)
noncomputable def xi_20 (pc : Nat) : XIs := zx zi_20_0
theorem xi_ok20 (pc : Nat) : xi_ok cL_bridge (xi_20 pc) = true := zq1 xi_w20
noncomputable def zi_21_0 : ZIs := [(0, ev_26), (1, ev_10), (2, ev_13), (3, ev_192), (4, ev_231), (7, ev_227), (10, ev_228), (11, ev_229), (14, ev_230), (15, ev_194), (16, ev_209), (19, ev_9), (20, ev_7), (21, ev_98), (22, ev_10), (23, ev_98)]
set_option maxRecDepth 100000 in
theorem xi_w21 : zall cL_cut [zi_21_0] := zall_w _ _ (by decide +kernel)
noncomputable def xi_21 (pc : Nat) : XIs := zx zi_21_0
theorem xi_ok21 (pc : Nat) : xi_ok cL_cut (xi_21 pc) = true := zq1 xi_w21
noncomputable def zi_22_0 : ZIs := [(0, ev_26), (1, ev_10), (2, ev_13), (3, ev_192), (4, ev_232), (7, ev_102), (8, ev_194), (9, ev_209), (12, ev_9), (13, ev_7), (14, ev_98), (15, ev_10), (16, ev_98)]
set_option maxRecDepth 100000 in
theorem xi_w22 : zall cL_order [zi_22_0] := zall_w _ _ (by decide +kernel)
noncomputable def xi_22 (pc : Nat) : XIs := zx zi_22_0
theorem xi_ok22 (pc : Nat) : xi_ok cL_order (xi_22 pc) = true := zq1 xi_w22
noncomputable def zi_23_0 : ZIs := [(0, ev_26), (1, ev_10), (2, ev_13), (3, ev_192), (4, ev_233), (7, ev_102), (8, ev_194), (9, ev_209), (12, ev_9), (13, ev_7), (14, ev_98), (15, ev_10), (16, ev_98)]
set_option maxRecDepth 100000 in
theorem xi_w23 : zall cL_core [zi_23_0] := zall_w _ _ (by decide +kernel)
noncomputable def xi_23 (pc : Nat) : XIs := zx zi_23_0
theorem xi_ok23 (pc : Nat) : xi_ok cL_core (xi_23 pc) = true := zq1 xi_w23
noncomputable def zi_24_0 : ZIs := [(0, ev_26), (1, ev_10), (2, ev_13), (3, ev_192), (4, ev_234), (7, ev_102), (8, ev_194), (9, ev_209), (12, ev_9), (13, ev_7), (14, ev_98), (15, ev_10), (16, ev_98)]
set_option maxRecDepth 100000 in
theorem xi_w24 : zall cL_clique [zi_24_0] := zall_w _ _ (by decide +kernel)
noncomputable def xi_24 (pc : Nat) : XIs := zx zi_24_0
theorem xi_ok24 (pc : Nat) : xi_ok cL_clique (xi_24 pc) = true := zq1 xi_w24
noncomputable def zi_25_0 : ZIs := [(0, ev_26), (1, ev_10), (2, ev_13), (3, ev_192), (4, ev_235), (7, ev_102), (8, ev_194), (9, ev_209), (12, ev_9), (13, ev_7), (14, ev_98), (15, ev_10), (16, ev_98)]
set_option maxRecDepth 100000 in
theorem xi_w25 : zall cL_colour [zi_25_0] := zall_w _ _ (by decide +kernel)
noncomputable def xi_25 (pc : Nat) : XIs := zx zi_25_0
theorem xi_ok25 (pc : Nat) : xi_ok cL_colour (xi_25 pc) = true := zq1 xi_w25
noncomputable def zi_26_0 : ZIs := [(0, ev_23), (1, ev_10), (2, ev_13), (3, ev_192), (4, ev_197), (5, ev_236), (8, ev_194), (9, ev_212), (12, ev_207), (14, ev_7), (15, ev_98), (16, ev_10), (17, ev_98)]
set_option maxRecDepth 100000 in
theorem xi_w26 : zall cL_flow [zi_26_0] := zall_w _ _ (by decide +kernel)
noncomputable def xi_26 (pc : Nat) : XIs := zx zi_26_0
theorem xi_ok26 (pc : Nat) : xi_ok cL_flow (xi_26 pc) = true := zq1 xi_w26
noncomputable def zi_27_0 : ZIs := [(0, ev_203), (2, ev_10), (3, ev_13), (4, ev_192), (5, ev_197), (6, ev_198), (7, ev_237), (10, ev_227), (13, ev_228), (14, ev_229), (17, ev_230), (18, ev_194), (19, ev_212), (22, ev_205), (24, ev_7), (25, ev_98)]
noncomputable def zi_27_1 : ZIs := [(26, ev_10), (27, ev_98)]
set_option maxRecDepth 100000 in
theorem xi_w27 : zall cL_side [zi_27_0, zi_27_1] := zall_w _ _ (by decide +kernel)
noncomputable def xi_27 (pc : Nat) : XIs := cond (Nat.blt pc 26) (zx zi_27_0) (zx zi_27_1)
theorem xi_ok27 (pc : Nat) : xi_ok cL_side (xi_27 pc) = true := xi_c (zq1 xi_w27) (zq1 (zq2 xi_w27))
noncomputable def zi_28_0 : ZIs := [(0, ev_203), (2, ev_10), (3, ev_13), (4, ev_192), (5, ev_197), (6, ev_198), (7, ev_238), (10, ev_194), (11, ev_212), (14, ev_205), (16, ev_7), (17, ev_98), (18, ev_10), (19, ev_98)]
set_option maxRecDepth 100000 in
theorem xi_w28 : zall cL_cost [zi_28_0] := zall_w _ _ (by decide +kernel)
noncomputable def xi_28 (pc : Nat) : XIs := zx zi_28_0
theorem xi_ok28 (pc : Nat) : xi_ok cL_cost (xi_28 pc) = true := zq1 xi_w28
noncomputable def zi_29_0 : ZIs := [(0, ev_26), (1, ev_10), (2, ev_13), (3, ev_192), (4, ev_239), (7, ev_194), (8, ev_209), (11, ev_9), (12, ev_7), (13, ev_98), (14, ev_10), (15, ev_98)]
set_option maxRecDepth 100000 in
theorem xi_w29 : zall cL_pairing [zi_29_0] := zall_w _ _ (by decide +kernel)
noncomputable def xi_29 (pc : Nat) : XIs := zx zi_29_0
theorem xi_ok29 (pc : Nat) : xi_ok cL_pairing (xi_29 pc) = true := zq1 xi_w29
noncomputable def zi_30_0 : ZIs := [(0, ev_26), (1, ev_10), (2, ev_13), (3, ev_192), (4, ev_240), (7, ev_194), (8, ev_209), (11, ev_9), (12, ev_7), (13, ev_98), (14, ev_10), (15, ev_98)]
set_option maxRecDepth 100000 in
theorem xi_w30 : zall cL_tree [zi_30_0] := zall_w _ _ (by decide +kernel)
noncomputable def xi_30 (pc : Nat) : XIs := zx zi_30_0
theorem xi_ok30 (pc : Nat) : xi_ok cL_tree (xi_30 pc) = true := zq1 xi_w30
noncomputable def zi_31_0 : ZIs := [(0, ev_26), (1, ev_10), (2, ev_13), (3, ev_192), (4, ev_241), (7, ev_227), (10, ev_228), (11, ev_229), (14, ev_230), (15, ev_194), (16, ev_209), (19, ev_9), (20, ev_7), (21, ev_98), (22, ev_10), (23, ev_98)]
set_option maxRecDepth 100000 in
theorem xi_w31 : zall cL_span [zi_31_0] := zall_w _ _ (by decide +kernel)
noncomputable def xi_31 (pc : Nat) : XIs := zx zi_31_0
theorem xi_ok31 (pc : Nat) : xi_ok cL_span (xi_31 pc) = true := zq1 xi_w31
noncomputable def zi_32_0 : ZIs := [(0, ev_23), (1, ev_10), (2, ev_13), (3, ev_192), (4, ev_197), (5, ev_242), (8, ev_194), (9, ev_212), (12, ev_207), (14, ev_7), (15, ev_98), (16, ev_10), (17, ev_98)]
set_option maxRecDepth 100000 in
theorem xi_w32 : zall cL_rank [zi_32_0] := zall_w _ _ (by decide +kernel)
noncomputable def xi_32 (pc : Nat) : XIs := zx zi_32_0
theorem xi_ok32 (pc : Nat) : xi_ok cL_rank (xi_32 pc) = true := zq1 xi_w32
noncomputable def zi_33_0 : ZIs := [(0, ev_222), (2, ev_10), (3, ev_13), (4, ev_192), (5, ev_197), (6, ev_198), (7, ev_12), (9, ev_243), (12, ev_102), (13, ev_194), (14, ev_212), (17, ev_224), (19, ev_7), (20, ev_98), (21, ev_10), (22, ev_98)]
set_option maxRecDepth 100000 in
theorem xi_w33 : zall cL_shortest [zi_33_0] := zall_w _ _ (by decide +kernel)
noncomputable def xi_33 (pc : Nat) : XIs := zx zi_33_0
theorem xi_ok33 (pc : Nat) : xi_ok cL_shortest (xi_33 pc) = true := zq1 xi_w33
noncomputable def zi_34_0 : ZIs := [(0, ev_26), (1, ev_10), (2, ev_13), (3, ev_192), (4, ev_244), (7, ev_102), (8, ev_194), (9, ev_209), (12, ev_9), (13, ev_7), (14, ev_98), (15, ev_10), (16, ev_98)]
set_option maxRecDepth 100000 in
theorem xi_w34 : zall cL_group [zi_34_0] := zall_w _ _ (by decide +kernel)
noncomputable def xi_34 (pc : Nat) : XIs := zx zi_34_0
theorem xi_ok34 (pc : Nat) : xi_ok cL_group (xi_34 pc) = true := zq1 xi_w34
noncomputable def zi_35_0 : ZIs := [(0, ev_26), (1, ev_10), (2, ev_13), (3, ev_192), (4, ev_245), (7, ev_194), (8, ev_209), (11, ev_9), (12, ev_7), (13, ev_98), (14, ev_10), (15, ev_98)]
set_option maxRecDepth 100000 in
theorem xi_w35 : zall cL_figures [zi_35_0] := zall_w _ _ (by decide +kernel)
noncomputable def xi_35 (pc : Nat) : XIs := zx zi_35_0
theorem xi_ok35 (pc : Nat) : xi_ok cL_figures (xi_35 pc) = true := zq1 xi_w35
noncomputable def zi_36_0 : ZIs := [(0, ev_23), (1, ev_10), (2, ev_13), (3, ev_192), (4, ev_197), (5, ev_246), (8, ev_102), (9, ev_194), (10, ev_212), (13, ev_207), (15, ev_7), (16, ev_98), (17, ev_10), (18, ev_98)]
set_option maxRecDepth 100000 in
theorem xi_w36 : zall cL_fits [zi_36_0] := zall_w _ _ (by decide +kernel)
noncomputable def xi_36 (pc : Nat) : XIs := zx zi_36_0
theorem xi_ok36 (pc : Nat) : xi_ok cL_fits (xi_36 pc) = true := zq1 xi_w36
noncomputable def zi_37_0 : ZIs := [(0, ev_196), (2, ev_10), (3, ev_13), (4, ev_192), (5, ev_197), (6, ev_198), (7, ev_247), (9, ev_248), (12, ev_102), (13, ev_194), (14, ev_212), (17, ev_201), (19, ev_7), (20, ev_98), (21, ev_10), (22, ev_98)]
set_option maxRecDepth 100000 in
theorem xi_w37 : zall cL_run [zi_37_0] := zall_w _ _ (by decide +kernel)
noncomputable def xi_37 (pc : Nat) : XIs := zx zi_37_0
theorem xi_ok37 (pc : Nat) : xi_ok cL_run (xi_37 pc) = true := zq1 xi_w37
noncomputable def zi_38_0 : ZIs := [(0, ev_26), (1, ev_10), (2, ev_13), (3, ev_192), (4, ev_249), (7, ev_194), (8, ev_209), (11, ev_9), (12, ev_7), (13, ev_98), (14, ev_10), (15, ev_98)]
set_option maxRecDepth 100000 in
theorem xi_w38 : zall cL_state [zi_38_0] := zall_w _ _ (by decide +kernel)
noncomputable def xi_38 (pc : Nat) : XIs := zx zi_38_0
theorem xi_ok38 (pc : Nat) : xi_ok cL_state (xi_38 pc) = true := zq1 xi_w38
noncomputable def zi_39_0 : ZIs := [(0, ev_26), (1, ev_10), (2, ev_13), (3, ev_192), (4, ev_250), (7, ev_102), (8, ev_194), (9, ev_209), (12, ev_9), (13, ev_7), (14, ev_98), (15, ev_10), (16, ev_98)]
set_option maxRecDepth 100000 in
theorem xi_w39 : zall cL_letters [zi_39_0] := zall_w _ _ (by decide +kernel)
noncomputable def xi_39 (pc : Nat) : XIs := zx zi_39_0
theorem xi_ok39 (pc : Nat) : xi_ok cL_letters (xi_39 pc) = true := zq1 xi_w39
noncomputable def zi_40_0 : ZIs := [(0, ev_13), (1, ev_251), (4, ev_13), (5, ev_252), (6, ev_253), (9, ev_13), (10, ev_252), (11, ev_254), (14, ev_13), (15, ev_176), (17, ev_255), (19, ev_256), (22, ev_13), (23, ev_176), (25, ev_255), (27, ev_257)]
noncomputable def zi_40_1 : ZIs := [(30, ev_13), (31, ev_176), (33, ev_255), (35, ev_258), (38, ev_13), (39, ev_176), (41, ev_255), (43, ev_259), (46, ev_260)]
set_option maxRecDepth 100000 in
theorem xi_w40 : zall cX0_init [zi_40_0, zi_40_1] := zall_w _ _ (by decide +kernel)
noncomputable def xi_40 (pc : Nat) : XIs := cond (Nat.blt pc 30) (zx zi_40_0) (zx zi_40_1)
theorem xi_ok40 (pc : Nat) : xi_ok cX0_init (xi_40 pc) = true := xi_c (zq1 xi_w40) (zq1 (zq2 xi_w40))
noncomputable def zi_41_0 : ZIs := [(0, ev_13), (1, ev_261), (4, ev_21), (5, ev_262), (8, ev_263), (11, ev_13), (12, ev_21), (13, ev_262), (16, ev_253), (19, ev_21), (20, ev_264), (23, ev_13), (24, ev_10), (25, ev_265), (28, ev_13), (29, ev_21)]
noncomputable def zi_41_1 : ZIs := [(30, ev_266), (33, ev_10), (34, ev_21), (35, ev_214), (38, ev_10), (39, ev_267), (42, ev_13), (43, ev_268), (46, ev_98)]
set_option maxRecDepth 100000 in
theorem xi_w41 : zall cX0_greatestClique [zi_41_0, zi_41_1] := zall_w _ _ (by decide +kernel)
noncomputable def xi_41 (pc : Nat) : XIs := cond (Nat.blt pc 30) (zx zi_41_0) (zx zi_41_1)
theorem xi_ok41 (pc : Nat) : xi_ok cX0_greatestClique (xi_41 pc) = true := xi_c (zq1 xi_w41) (zq1 (zq2 xi_w41))
noncomputable def zi_42_0 : ZIs := [(0, ev_197), (1, ev_269), (4, ev_25), (6, ev_96), (8, ev_13), (9, ev_268), (12, ev_269), (15, ev_270), (18, ev_13), (19, ev_197), (20, ev_265), (23, ev_12), (25, ev_176), (27, ev_271), (30, ev_260), (31, ev_198)]
noncomputable def zi_42_1 : ZIs := [(32, ev_28), (34, ev_101), (36, ev_272), (39, ev_96), (41, ev_101), (43, ev_269), (46, ev_22), (47, ev_13), (48, ev_268), (51, ev_269), (54, ev_273), (57, ev_260), (58, ev_101), (60, ev_274), (63, ev_275), (65, ev_13)]
noncomputable def zi_42_2 : ZIs := [(66, ev_21), (67, ev_197), (68, ev_7), (69, ev_276), (71, ev_277), (72, ev_278), (73, ev_101), (75, ev_21), (76, ev_276), (78, ev_18), (79, ev_20), (80, ev_12), (82, ev_7), (83, ev_22), (84, ev_267), (87, ev_101)]
noncomputable def zi_42_3 : ZIs := [(89, ev_101), (91, ev_7), (92, ev_16), (93, ev_20), (94, ev_28), (96, ev_279), (99, ev_260)]
set_option maxRecDepth 100000 in
theorem xi_w42 : zall cX0_growClique [zi_42_0, zi_42_1, zi_42_2, zi_42_3] := zall_w _ _ (by decide +kernel)
noncomputable def xi_42 (pc : Nat) : XIs := cond (Nat.blt pc 66) (cond (Nat.blt pc 32) (zx zi_42_0) (zx zi_42_1)) (cond (Nat.blt pc 89) (zx zi_42_2) (zx zi_42_3))
theorem xi_ok42 (pc : Nat) : xi_ok cX0_growClique (xi_42 pc) = true := xi_c (xi_c (zq1 xi_w42) (zq1 (zq2 xi_w42))) (xi_c (zq1 (zq2 (zq2 xi_w42))) (zq1 (zq2 (zq2 (zq2 xi_w42)))))
noncomputable def zi_43_0 : ZIs := [(0, ev_13), (1, ev_280), (4, ev_21), (5, ev_262), (8, ev_281), (11, ev_13), (12, ev_21), (13, ev_262), (16, ev_254), (19, ev_13), (20, ev_21), (21, ev_282), (24, ev_13), (25, ev_283), (28, ev_197), (29, ev_18)]
noncomputable def zi_43_1 : ZIs := [(30, ev_98)]
set_option maxRecDepth 100000 in
theorem xi_w43 : zall cX0_colourOf [zi_43_0, zi_43_1] := zall_w _ _ (by decide +kernel)
noncomputable def xi_43 (pc : Nat) : XIs := cond (Nat.blt pc 30) (zx zi_43_0) (zx zi_43_1)
theorem xi_ok43 (pc : Nat) : xi_ok cX0_colourOf (xi_43 pc) = true := xi_c (zq1 xi_w43) (zq1 (zq2 xi_w43))
noncomputable def zi_44_0 : ZIs := [(0, ev_21), (1, ev_264), (4, ev_13), (5, ev_7), (6, ev_13), (7, ev_21), (8, ev_221), (11, ev_269), (14, ev_284), (17, ev_285), (20, ev_13), (21, ev_10), (22, ev_286), (25, ev_13), (26, ev_287), (29, ev_10)]
noncomputable def zi_44_1 : ZIs := [(30, ev_288), (33, ev_13), (34, ev_289), (37, ev_176), (39, ev_290), (42, ev_13), (43, ev_21), (44, ev_266), (47, ev_21), (48, ev_214), (51, ev_10), (52, ev_291), (55, ev_292), (58, ev_13), (59, ev_1), (60, ev_289)]
noncomputable def zi_44_2 : ZIs := [(63, ev_7), (64, ev_22), (65, ev_285), (68, ev_293), (71, ev_10), (72, ev_294), (73, ev_10), (74, ev_295), (75, ev_198), (76, ev_21), (77, ev_296), (80, ev_297), (83, ev_13), (84, ev_283), (87, ev_198), (88, ev_13)]
noncomputable def zi_44_3 : ZIs := [(89, ev_21), (90, ev_198), (91, ev_197), (92, ev_298), (95, ev_299), (96, ev_197), (97, ev_13), (98, ev_283), (101, ev_198), (102, ev_18), (103, ev_7), (104, ev_22), (105, ev_284), (108, ev_294), (109, ev_300), (112, ev_301)]
noncomputable def zi_44_4 : ZIs := [(115, ev_260)]
set_option maxRecDepth 100000 in
theorem xi_w44 : zall cX0_makeColours [zi_44_0, zi_44_1, zi_44_2, zi_44_3, zi_44_4] := zall_w _ _ (by decide +kernel)
noncomputable def xi_44 (pc : Nat) : XIs := cond (Nat.blt pc 63) (cond (Nat.blt pc 30) (zx zi_44_0) (zx zi_44_1)) (cond (Nat.blt pc 89) (zx zi_44_2) (cond (Nat.blt pc 115) (zx zi_44_3) (zx zi_44_4)))
theorem xi_ok44 (pc : Nat) : xi_ok cX0_makeColours (xi_44 pc) = true := xi_c (xi_c (zq1 xi_w44) (zq1 (zq2 xi_w44))) (xi_c (zq1 (zq2 (zq2 xi_w44))) (xi_c (zq1 (zq2 (zq2 (zq2 xi_w44)))) (zq1 (zq2 (zq2 (zq2 (zq2 xi_w44)))))))
noncomputable def zi_45_0 : ZIs := [(0, ev_10), (1, ev_294), (2, ev_197), (3, ev_176), (5, ev_302), (8, ev_13), (9, ev_287), (12, ev_197), (13, ev_18), (14, ev_192), (15, ev_303), (16, ev_7), (17, ev_20), (18, ev_104), (21, ev_197), (22, ev_98)]
noncomputable def zi_45_1 : ZIs := [(23, ev_304), (26, ev_305), (29, ev_10), (30, ev_98)]
set_option maxRecDepth 100000 in
theorem xi_w45 : zall cX0_classOf [zi_45_0, zi_45_1] := zall_w _ _ (by decide +kernel)
noncomputable def xi_45 (pc : Nat) : XIs := cond (Nat.blt pc 23) (zx zi_45_0) (zx zi_45_1)
theorem xi_ok45 (pc : Nat) : xi_ok cX0_classOf (xi_45 pc) = true := xi_c (zq1 xi_w45) (zq1 (zq2 xi_w45))
noncomputable def zi_46_0 : ZIs := [(0, ev_198), (1, ev_176), (3, ev_306), (6, ev_10), (7, ev_98), (8, ev_13), (9, ev_307), (12, ev_11), (14, ev_13), (15, ev_21), (16, ev_197), (17, ev_237), (20, ev_25), (22, ev_10), (23, ev_28), (25, ev_101)]
noncomputable def zi_46_1 : ZIs := [(27, ev_176), (29, ev_308), (32, ev_96), (34, ev_309), (37, ev_21), (38, ev_96), (40, ev_96), (42, ev_310), (43, ev_20), (44, ev_96), (46, ev_311), (49, ev_275), (51, ev_13), (52, ev_21), (53, ev_276), (55, ev_198)]
noncomputable def zi_46_2 : ZIs := [(56, ev_239), (59, ev_312), (62, ev_10), (63, ev_313), (65, ev_314), (67, ev_13), (68, ev_289), (71, ev_315), (74, ev_13), (75, ev_287), (78, ev_314), (80, ev_316), (81, ev_18), (82, ev_197), (83, ev_252), (84, ev_317)]
noncomputable def zi_46_3 : ZIs := [(85, ev_20), (86, ev_299), (87, ev_318), (90, ev_319), (93, ev_13), (94, ev_12), (96, ev_286), (99, ev_10), (100, ev_98), (101, ev_96), (103, ev_276), (105, ev_252), (106, ev_317), (107, ev_20), (108, ev_25), (110, ev_320)]
noncomputable def zi_46_4 : ZIs := [(113, ev_321), (116, ev_13), (117, ev_21), (118, ev_12), (120, ev_322), (123, ev_7), (124, ev_98)]
set_option maxRecDepth 100000 in
theorem xi_w46 : zall cX0_fill [zi_46_0, zi_46_1, zi_46_2, zi_46_3, zi_46_4] := zall_w _ _ (by decide +kernel)
noncomputable def xi_46 (pc : Nat) : XIs := cond (Nat.blt pc 56) (cond (Nat.blt pc 27) (zx zi_46_0) (zx zi_46_1)) (cond (Nat.blt pc 85) (zx zi_46_2) (cond (Nat.blt pc 113) (zx zi_46_3) (zx zi_46_4)))
theorem xi_ok46 (pc : Nat) : xi_ok cX0_fill (xi_46 pc) = true := xi_c (xi_c (zq1 xi_w46) (zq1 (zq2 xi_w46))) (xi_c (zq1 (zq2 (zq2 xi_w46))) (xi_c (zq1 (zq2 (zq2 (zq2 xi_w46)))) (zq1 (zq2 (zq2 (zq2 (zq2 xi_w46)))))))
noncomputable def zi_47_0 : ZIs := [(0, ev_13), (1, ev_21), (2, ev_197), (3, ev_323), (6, ev_11), (8, ev_7), (9, ev_12), (11, ev_277), (12, ev_25), (14, ev_21), (15, ev_197), (16, ev_324), (19, ev_28), (21, ev_10), (22, ev_275), (24, ev_10)]
noncomputable def zi_47_1 : ZIs := [(25, ev_313), (27, ev_314), (29, ev_13), (30, ev_289), (33, ev_325), (36, ev_13), (37, ev_287), (40, ev_314), (42, ev_18), (43, ev_101), (45, ev_20), (46, ev_326), (49, ev_7), (50, ev_229), (53, ev_10), (54, ev_327)]
noncomputable def zi_47_2 : ZIs := [(56, ev_13), (57, ev_287), (60, ev_314), (62, ev_18), (63, ev_21), (64, ev_12), (66, ev_18), (67, ev_20), (68, ev_328), (71, ev_329), (73, ev_330), (76, ev_276), (78, ev_331), (81, ev_276), (83, ev_329), (85, ev_278)]
noncomputable def zi_47_3 : ZIs := [(86, ev_275), (88, ev_13), (89, ev_287), (92, ev_314), (94, ev_316), (95, ev_18), (96, ev_96), (98, ev_278), (99, ev_299), (100, ev_13), (101, ev_21), (102, ev_197), (103, ev_96), (105, ev_252), (106, ev_317), (107, ev_20)]
noncomputable def zi_47_4 : ZIs := [(108, ev_198), (109, ev_7), (110, ev_22), (111, ev_291), (114, ev_104), (117, ev_7), (118, ev_98), (119, ev_13), (120, ev_287), (123, ev_314), (125, ev_316), (126, ev_18), (127, ev_96), (129, ev_252), (130, ev_317), (131, ev_20)]
noncomputable def zi_47_5 : ZIs := [(132, ev_299), (133, ev_318), (136, ev_332), (139, ev_10), (140, ev_98)]
set_option maxRecDepth 100000 in
theorem xi_w47 : zall cX0_fillPiece [zi_47_0, zi_47_1, zi_47_2, zi_47_3, zi_47_4, zi_47_5] := zall_w _ _ (by decide +kernel)
noncomputable def xi_47 (pc : Nat) : XIs := cond (Nat.blt pc 86) (cond (Nat.blt pc 25) (zx zi_47_0) (cond (Nat.blt pc 56) (zx zi_47_1) (zx zi_47_2))) (cond (Nat.blt pc 108) (zx zi_47_3) (cond (Nat.blt pc 132) (zx zi_47_4) (zx zi_47_5)))
theorem xi_ok47 (pc : Nat) : xi_ok cX0_fillPiece (xi_47 pc) = true := xi_c (xi_c (zq1 xi_w47) (xi_c (zq1 (zq2 xi_w47)) (zq1 (zq2 (zq2 xi_w47))))) (xi_c (zq1 (zq2 (zq2 (zq2 xi_w47)))) (xi_c (zq1 (zq2 (zq2 (zq2 (zq2 xi_w47))))) (zq1 (zq2 (zq2 (zq2 (zq2 (zq2 xi_w47))))))))
noncomputable def zi_48_0 : ZIs := [(0, ev_10), (1, ev_294), (2, ev_192), (3, ev_295), (4, ev_198), (5, ev_333), (8, ev_197), (9, ev_13), (10, ev_198), (11, ev_274), (14, ev_18), (15, ev_278), (16, ev_294), (17, ev_198), (18, ev_198), (19, ev_7)]
noncomputable def zi_48_1 : ZIs := [(20, ev_16), (21, ev_20), (22, ev_295), (23, ev_334), (26, ev_197), (27, ev_98)]
set_option maxRecDepth 100000 in
theorem xi_w48 : zall cX0_besides [zi_48_0, zi_48_1] := zall_w _ _ (by decide +kernel)
noncomputable def xi_48 (pc : Nat) : XIs := cond (Nat.blt pc 20) (zx zi_48_0) (zx zi_48_1)
theorem xi_ok48 (pc : Nat) : xi_ok cX0_besides (xi_48 pc) = true := xi_c (zq1 xi_w48) (zq1 (zq2 xi_w48))
noncomputable def zi_49_0 : ZIs := [(0, ev_197), (1, ev_295), (2, ev_10), (3, ev_11), (5, ev_10), (6, ev_25), (8, ev_96), (10, ev_176), (12, ev_335), (15, ev_198), (16, ev_12), (18, ev_336), (21, ev_198), (22, ev_11), (24, ev_198), (25, ev_28)]
noncomputable def zi_49_1 : ZIs := [(27, ev_101), (29, ev_337), (32, ev_101), (34, ev_274), (37, ev_275), (39, ev_13), (40, ev_21), (41, ev_276), (43, ev_18), (44, ev_338), (47, ev_21), (48, ev_276), (50, ev_18), (51, ev_198), (52, ev_20), (53, ev_269)]
noncomputable def zi_49_2 : ZIs := [(56, ev_339), (59, ev_13), (60, ev_307), (63, ev_176), (65, ev_340), (68, ev_13), (69, ev_341), (72, ev_13), (73, ev_307), (76, ev_276), (78, ev_299), (79, ev_13), (80, ev_1), (81, ev_307), (84, ev_7), (85, ev_22)]
noncomputable def zi_49_3 : ZIs := [(86, ev_286), (89, ev_198), (90, ev_7), (91, ev_276), (93, ev_277), (94, ev_252), (95, ev_317), (96, ev_20), (97, ev_295), (98, ev_101), (100, ev_101), (102, ev_7), (103, ev_16), (104, ev_20), (105, ev_28), (107, ev_342)]
noncomputable def zi_49_4 : ZIs := [(110, ev_343), (113, ev_344), (116, ev_198), (117, ev_98)]
set_option maxRecDepth 100000 in
theorem xi_w49 : zall cX0_setAside [zi_49_0, zi_49_1, zi_49_2, zi_49_3, zi_49_4] := zall_w _ _ (by decide +kernel)
noncomputable def xi_49 (pc : Nat) : XIs := cond (Nat.blt pc 56) (cond (Nat.blt pc 27) (zx zi_49_0) (zx zi_49_1)) (cond (Nat.blt pc 86) (zx zi_49_2) (cond (Nat.blt pc 110) (zx zi_49_3) (zx zi_49_4)))
theorem xi_ok49 (pc : Nat) : xi_ok cX0_setAside (xi_49 pc) = true := xi_c (xi_c (zq1 xi_w49) (zq1 (zq2 xi_w49))) (xi_c (zq1 (zq2 (zq2 xi_w49))) (xi_c (zq1 (zq2 (zq2 (zq2 xi_w49)))) (zq1 (zq2 (zq2 (zq2 (zq2 xi_w49)))))))
noncomputable def zi_50_0 : ZIs := [(0, ev_13), (1, ev_307), (4, ev_197), (5, ev_345), (8, ev_13), (9, ev_341), (12, ev_13), (13, ev_307), (16, ev_7), (17, ev_16), (18, ev_18), (19, ev_295), (20, ev_10), (21, ev_11), (23, ev_12), (25, ev_13)]
noncomputable def zi_50_1 : ZIs := [(26, ev_289), (29, ev_7), (30, ev_16), (31, ev_346), (34, ev_13), (35, ev_287), (38, ev_12), (40, ev_18), (41, ev_21), (42, ev_198), (43, ev_18), (44, ev_20), (45, ev_347), (48, ev_348), (51, ev_349), (54, ev_13)]
noncomputable def zi_50_2 : ZIs := [(55, ev_287), (58, ev_12), (60, ev_316), (61, ev_18), (62, ev_7), (63, ev_198), (64, ev_277), (65, ev_278), (66, ev_299), (67, ev_13), (68, ev_1), (69, ev_307), (72, ev_7), (73, ev_16), (74, ev_286), (77, ev_350)]
noncomputable def zi_50_3 : ZIs := [(80, ev_260)]
set_option maxRecDepth 100000 in
theorem xi_w50 : zall cX0_takeBack [zi_50_0, zi_50_1, zi_50_2, zi_50_3] := zall_w _ _ (by decide +kernel)
noncomputable def xi_50 (pc : Nat) : XIs := cond (Nat.blt pc 55) (cond (Nat.blt pc 26) (zx zi_50_0) (zx zi_50_1)) (cond (Nat.blt pc 80) (zx zi_50_2) (zx zi_50_3))
theorem xi_ok50 (pc : Nat) : xi_ok cX0_takeBack (xi_50 pc) = true := xi_c (xi_c (zq1 xi_w50) (zq1 (zq2 xi_w50))) (xi_c (zq1 (zq2 (zq2 xi_w50))) (zq1 (zq2 (zq2 (zq2 xi_w50)))))
noncomputable def zi_51_0 : ZIs := [(0, ev_10), (1, ev_294), (2, ev_10), (3, ev_295), (4, ev_198), (5, ev_13), (6, ev_289), (9, ev_346), (12, ev_13), (13, ev_287), (16, ev_198), (17, ev_18), (18, ev_192), (19, ev_20), (20, ev_351), (23, ev_304)]
noncomputable def zi_51_1 : ZIs := [(26, ev_300), (29, ev_319), (32, ev_197), (33, ev_98)]
set_option maxRecDepth 100000 in
theorem xi_w51 : zall cX0_freeColours [zi_51_0, zi_51_1] := zall_w _ _ (by decide +kernel)
noncomputable def xi_51 (pc : Nat) : XIs := cond (Nat.blt pc 26) (zx zi_51_0) (zx zi_51_1)
theorem xi_ok51 (pc : Nat) : xi_ok cX0_freeColours (xi_51 pc) = true := xi_c (zq1 xi_w51) (zq1 (zq2 xi_w51))
noncomputable def zi_52_0 : ZIs := [(0, ev_197), (1, ev_274), (4, ev_295), (5, ev_352), (7, ev_11), (9, ev_197), (10, ev_25), (12, ev_96), (14, ev_353), (17, ev_96), (19, ev_274), (22, ev_28), (24, ev_13), (25, ev_21), (26, ev_101), (28, ev_18)]
noncomputable def zi_52_1 : ZIs := [(29, ev_338), (32, ev_354), (34, ev_355), (35, ev_21), (36, ev_101), (38, ev_18), (39, ev_197), (40, ev_20), (41, ev_269), (44, ev_16), (45, ev_275), (47, ev_276), (49, ev_12), (51, ev_356), (54, ev_276), (56, ev_11)]
noncomputable def zi_52_2 : ZIs := [(58, ev_101), (60, ev_295), (61, ev_96), (63, ev_96), (65, ev_7), (66, ev_16), (67, ev_20), (68, ev_25), (70, ev_357), (73, ev_198), (74, ev_98)]
set_option maxRecDepth 100000 in
theorem xi_w52 : zall cX0_tightest [zi_52_0, zi_52_1, zi_52_2] := zall_w _ _ (by decide +kernel)
noncomputable def xi_52 (pc : Nat) : XIs := cond (Nat.blt pc 29) (zx zi_52_0) (cond (Nat.blt pc 58) (zx zi_52_1) (zx zi_52_2))
theorem xi_ok52 (pc : Nat) : xi_ok cX0_tightest (xi_52 pc) = true := xi_c (zq1 xi_w52) (xi_c (zq1 (zq2 xi_w52)) (zq1 (zq2 (zq2 xi_w52))))
noncomputable def zi_53_0 : ZIs := [(0, ev_13), (1, ev_197), (2, ev_244), (5, ev_11), (7, ev_12), (9, ev_198), (10, ev_358), (13, ev_13), (14, ev_287), (17, ev_12), (19, ev_18), (20, ev_25), (22, ev_13), (23, ev_287), (26, ev_12), (28, ev_13)]
noncomputable def zi_53_1 : ZIs := [(29, ev_287), (32, ev_198), (33, ev_18), (34, ev_299), (35, ev_13), (36, ev_287), (39, ev_198), (40, ev_96), (42, ev_299), (43, ev_198), (44, ev_11), (46, ev_10), (47, ev_25), (49, ev_96), (51, ev_12), (53, ev_359)]
noncomputable def zi_53_2 : ZIs := [(56, ev_13), (57, ev_21), (58, ev_197), (59, ev_96), (61, ev_12), (63, ev_245), (66, ev_227), (69, ev_96), (71, ev_11), (73, ev_343), (76, ev_360), (79, ev_12), (81, ev_98)]
set_option maxRecDepth 100000 in
theorem xi_w53 : zall cX0_lessen [zi_53_0, zi_53_1, zi_53_2] := zall_w _ _ (by decide +kernel)
noncomputable def xi_53 (pc : Nat) : XIs := cond (Nat.blt pc 29) (zx zi_53_0) (cond (Nat.blt pc 56) (zx zi_53_1) (zx zi_53_2))
theorem xi_ok53 (pc : Nat) : xi_ok cX0_lessen (xi_53 pc) = true := xi_c (zq1 xi_w53) (xi_c (zq1 (zq2 xi_w53)) (zq1 (zq2 (zq2 xi_w53))))
noncomputable def zi_54_0 : ZIs := [(0, ev_7), (1, ev_197), (2, ev_277), (3, ev_25), (5, ev_96), (7, ev_7), (8, ev_16), (9, ev_28), (11, ev_13), (12, ev_287), (15, ev_198), (16, ev_18), (17, ev_21), (18, ev_266), (21, ev_197), (22, ev_18)]
noncomputable def zi_54_1 : ZIs := [(23, ev_20), (24, ev_101), (26, ev_20), (27, ev_104), (30, ev_10), (31, ev_98), (32, ev_21), (33, ev_266), (36, ev_96), (38, ev_13), (39, ev_287), (42, ev_198), (43, ev_18), (44, ev_13), (45, ev_287), (48, ev_12)]
noncomputable def zi_54_2 : ZIs := [(50, ev_18), (51, ev_278), (52, ev_311), (55, ev_275), (57, ev_276), (59, ev_101), (61, ev_20), (62, ev_361), (65, ev_13), (66, ev_287), (69, ev_198), (70, ev_316), (71, ev_18), (72, ev_276), (74, ev_317), (75, ev_299)]
noncomputable def zi_54_3 : ZIs := [(76, ev_13), (77, ev_287), (80, ev_12), (82, ev_316), (83, ev_18), (84, ev_276), (86, ev_317), (87, ev_299), (88, ev_7), (89, ev_98), (90, ev_13), (91, ev_287), (94, ev_10), (95, ev_13), (96, ev_362), (99, ev_10)]
noncomputable def zi_54_4 : ZIs := [(100, ev_176), (102, ev_363), (105, ev_10), (106, ev_313), (108, ev_314), (110, ev_13), (111, ev_289), (114, ev_364), (117, ev_13), (118, ev_287), (121, ev_314), (123, ev_316), (124, ev_18), (125, ev_101), (127, ev_20), (128, ev_299)]
noncomputable def zi_54_5 : ZIs := [(129, ev_318), (132, ev_305), (135, ev_13), (136, ev_287), (139, ev_198), (140, ev_316), (141, ev_18), (142, ev_96), (144, ev_278), (145, ev_299), (146, ev_13), (147, ev_21), (148, ev_266), (151, ev_21), (152, ev_214), (155, ev_101)]
noncomputable def zi_54_6 : ZIs := [(157, ev_252), (158, ev_317), (159, ev_20), (160, ev_96), (162, ev_252), (163, ev_317), (164, ev_20), (165, ev_10), (166, ev_291), (169, ev_104), (172, ev_7), (173, ev_98), (174, ev_13), (175, ev_362), (178, ev_10), (179, ev_13)]
noncomputable def zi_54_7 : ZIs := [(180, ev_287), (183, ev_10), (184, ev_176), (186, ev_363), (189, ev_10), (190, ev_98)]
set_option maxRecDepth 100000 in
theorem xi_w54 : zall cX0_canLower [zi_54_0, zi_54_1, zi_54_2, zi_54_3, zi_54_4, zi_54_5, zi_54_6, zi_54_7] := zall_w _ _ (by decide +kernel)
noncomputable def xi_54 (pc : Nat) : XIs := cond (Nat.blt pc 100) (cond (Nat.blt pc 50) (cond (Nat.blt pc 23) (zx zi_54_0) (zx zi_54_1)) (cond (Nat.blt pc 76) (zx zi_54_2) (zx zi_54_3))) (cond (Nat.blt pc 157) (cond (Nat.blt pc 129) (zx zi_54_4) (zx zi_54_5)) (cond (Nat.blt pc 180) (zx zi_54_6) (zx zi_54_7)))
theorem xi_ok54 (pc : Nat) : xi_ok cX0_canLower (xi_54 pc) = true := xi_c (xi_c (xi_c (zq1 xi_w54) (zq1 (zq2 xi_w54))) (xi_c (zq1 (zq2 (zq2 xi_w54))) (zq1 (zq2 (zq2 (zq2 xi_w54)))))) (xi_c (xi_c (zq1 (zq2 (zq2 (zq2 (zq2 xi_w54))))) (zq1 (zq2 (zq2 (zq2 (zq2 (zq2 xi_w54))))))) (xi_c (zq1 (zq2 (zq2 (zq2 (zq2 (zq2 (zq2 xi_w54))))))) (zq1 (zq2 (zq2 (zq2 (zq2 (zq2 (zq2 (zq2 xi_w54))))))))))
noncomputable def zi_55_0 : ZIs := [(0, ev_13), (1, ev_365), (4, ev_13), (5, ev_366), (7, ev_255), (9, ev_367), (12, ev_13), (13, ev_7), (14, ev_254), (17, ev_13), (18, ev_30), (19, ev_368), (22, ev_13), (23, ev_366), (25, ev_255), (27, ev_257)]
noncomputable def zi_55_1 : ZIs := [(30, ev_13), (31, ev_366), (33, ev_8), (35, ev_258), (38, ev_13), (39, ev_369), (41, ev_8), (43, ev_370), (46, ev_13), (47, ev_176), (49, ev_8), (51, ev_371), (54, ev_13), (55, ev_176), (57, ev_8), (59, ev_372)]
noncomputable def zi_55_2 : ZIs := [(62, ev_260)]
set_option maxRecDepth 100000 in
theorem xi_w55 : zall cX1_init [zi_55_0, zi_55_1, zi_55_2] := zall_w _ _ (by decide +kernel)
noncomputable def xi_55 (pc : Nat) : XIs := cond (Nat.blt pc 30) (zx zi_55_0) (cond (Nat.blt pc 62) (zx zi_55_1) (zx zi_55_2))
theorem xi_ok55 (pc : Nat) : xi_ok cX1_init (xi_55 pc) = true := xi_c (zq1 xi_w55) (xi_c (zq1 (zq2 xi_w55)) (zq1 (zq2 (zq2 xi_w55))))
noncomputable def zi_56_0 : ZIs := [(0, ev_21), (1, ev_211), (4, ev_21), (5, ev_373), (8, ev_366), (10, ev_374), (13, ev_21), (14, ev_30), (15, ev_366), (17, ev_375), (20, ev_98), (21, ev_13), (22, ev_10), (23, ev_376), (26, ev_21), (27, ev_15)]
noncomputable def zi_56_1 : ZIs := [(29, ev_10), (30, ev_377), (33, ev_13), (34, ev_21), (35, ev_10), (36, ev_218), (39, ev_378), (42, ev_10), (43, ev_98), (44, ev_21), (45, ev_379), (47, ev_380), (50, ev_381), (53, ev_21), (54, ev_30), (55, ev_32)]
noncomputable def zi_56_2 : ZIs := [(56, ev_382), (59, ev_98), (60, ev_13), (61, ev_383), (64, ev_294), (65, ev_21), (66, ev_15), (68, ev_10), (69, ev_377), (72, ev_13), (73, ev_21), (74, ev_10), (75, ev_218), (78, ev_378), (81, ev_10), (82, ev_98)]
noncomputable def zi_56_3 : ZIs := [(83, ev_21), (84, ev_384), (87, ev_385), (90, ev_21), (91, ev_30), (92, ev_32), (93, ev_382), (96, ev_98), (97, ev_13), (98, ev_197), (99, ev_254), (102, ev_13), (103, ev_13), (104, ev_383), (107, ev_368), (110, ev_13)]
noncomputable def zi_56_4 : ZIs := [(111, ev_362), (114, ev_10), (115, ev_13), (116, ev_386), (119, ev_10), (120, ev_13), (121, ev_383), (124, ev_387), (127, ev_7), (128, ev_98)]
set_option maxRecDepth 100000 in
theorem xi_w56 : zall cX1_adopt [zi_56_0, zi_56_1, zi_56_2, zi_56_3, zi_56_4] := zall_w _ _ (by decide +kernel)
noncomputable def xi_56 (pc : Nat) : XIs := cond (Nat.blt pc 56) (cond (Nat.blt pc 29) (zx zi_56_0) (zx zi_56_1)) (cond (Nat.blt pc 83) (zx zi_56_2) (cond (Nat.blt pc 111) (zx zi_56_3) (zx zi_56_4)))
theorem xi_ok56 (pc : Nat) : xi_ok cX1_adopt (xi_56 pc) = true := xi_c (xi_c (zq1 xi_w56) (zq1 (zq2 xi_w56))) (xi_c (zq1 (zq2 (zq2 xi_w56))) (xi_c (zq1 (zq2 (zq2 (zq2 xi_w56)))) (zq1 (zq2 (zq2 (zq2 (zq2 xi_w56)))))))
noncomputable def zi_57_0 : ZIs := [(0, ev_13), (1, ev_383), (4, ev_366), (6, ev_346), (9, ev_13), (10, ev_362), (13, ev_13), (14, ev_383), (17, ev_192), (18, ev_299), (19, ev_13), (20, ev_1), (21, ev_383), (24, ev_7), (25, ev_22), (26, ev_376)]
noncomputable def zi_57_1 : ZIs := [(29, ev_7), (30, ev_98)]
set_option maxRecDepth 100000 in
theorem xi_w57 : zall cX1_emit [zi_57_0, zi_57_1] := zall_w _ _ (by decide +kernel)
noncomputable def xi_57 (pc : Nat) : XIs := cond (Nat.blt pc 29) (zx zi_57_0) (zx zi_57_1)
theorem xi_ok57 (pc : Nat) : xi_ok cX1_emit (xi_57 pc) = true := xi_c (zq1 xi_w57) (zq1 (zq2 xi_w57))
noncomputable def zi_58_0 : ZIs := [(0, ev_13), (1, ev_21), (2, ev_197), (3, ev_388), (6, ev_378), (9, ev_10), (10, ev_98), (11, ev_21), (12, ev_389), (14, ev_380), (17, ev_390), (20, ev_21), (21, ev_391), (23, ev_380), (26, ev_378), (29, ev_7)]
noncomputable def zi_58_1 : ZIs := [(30, ev_98), (31, ev_21), (32, ev_392), (35, ev_295), (36, ev_21), (37, ev_15), (39, ev_10), (40, ev_377), (43, ev_13), (44, ev_21), (45, ev_197), (46, ev_388), (49, ev_393), (52, ev_13), (53, ev_394), (55, ev_198)]
noncomputable def zi_58_2 : ZIs := [(56, ev_22), (57, ev_395), (60, ev_227), (63, ev_7), (64, ev_229), (67, ev_10), (68, ev_98)]
set_option maxRecDepth 100000 in
theorem xi_w58 : zall cX1_readExpression [zi_58_0, zi_58_1, zi_58_2] := zall_w _ _ (by decide +kernel)
noncomputable def xi_58 (pc : Nat) : XIs := cond (Nat.blt pc 30) (zx zi_58_0) (cond (Nat.blt pc 56) (zx zi_58_1) (zx zi_58_2))
theorem xi_ok58 (pc : Nat) : xi_ok cX1_readExpression (xi_58 pc) = true := xi_c (zq1 xi_w58) (xi_c (zq1 (zq2 xi_w58)) (zq1 (zq2 (zq2 xi_w58))))
noncomputable def zi_59_0 : ZIs := [(0, ev_13), (1, ev_21), (2, ev_197), (3, ev_396), (6, ev_378), (9, ev_10), (10, ev_98), (11, ev_10), (12, ev_295), (13, ev_198), (14, ev_366), (16, ev_397), (19, ev_21), (20, ev_398), (22, ev_380), (25, ev_399)]
noncomputable def zi_59_1 : ZIs := [(28, ev_21), (29, ev_400), (31, ev_380), (34, ev_401), (37, ev_21), (38, ev_392), (41, ev_11), (43, ev_21), (44, ev_15), (46, ev_10), (47, ev_377), (50, ev_13), (51, ev_21), (52, ev_197), (53, ev_396), (56, ev_378)]
noncomputable def zi_59_2 : ZIs := [(59, ev_10), (60, ev_98), (61, ev_13), (62, ev_394), (64, ev_12), (66, ev_22), (67, ev_395), (70, ev_50), (71, ev_300), (74, ev_402), (77, ev_7), (78, ev_98)]
set_option maxRecDepth 100000 in
theorem xi_w59 : zall cX1_readSum [zi_59_0, zi_59_1, zi_59_2] := zall_w _ _ (by decide +kernel)
noncomputable def xi_59 (pc : Nat) : XIs := cond (Nat.blt pc 28) (zx zi_59_0) (cond (Nat.blt pc 59) (zx zi_59_1) (zx zi_59_2))
theorem xi_ok59 (pc : Nat) : xi_ok cX1_readSum (xi_59 pc) = true := xi_c (zq1 xi_w59) (xi_c (zq1 (zq2 xi_w59)) (zq1 (zq2 (zq2 xi_w59))))
noncomputable def zi_60_0 : ZIs := [(0, ev_13), (1, ev_21), (2, ev_197), (3, ev_403), (6, ev_378), (9, ev_10), (10, ev_98), (11, ev_10), (12, ev_295), (13, ev_198), (14, ev_366), (16, ev_404), (19, ev_21), (20, ev_405), (22, ev_380), (25, ev_406)]
noncomputable def zi_60_1 : ZIs := [(28, ev_21), (29, ev_15), (31, ev_10), (32, ev_377), (35, ev_13), (36, ev_21), (37, ev_197), (38, ev_403), (41, ev_378), (44, ev_10), (45, ev_98), (46, ev_13), (47, ev_407), (49, ev_395), (52, ev_50), (53, ev_300)]
noncomputable def zi_60_2 : ZIs := [(56, ev_408), (59, ev_7), (60, ev_98)]
set_option maxRecDepth 100000 in
theorem xi_w60 : zall cX1_readProduct [zi_60_0, zi_60_1, zi_60_2] := zall_w _ _ (by decide +kernel)
noncomputable def xi_60 (pc : Nat) : XIs := cond (Nat.blt pc 28) (zx zi_60_0) (cond (Nat.blt pc 56) (zx zi_60_1) (zx zi_60_2))
theorem xi_ok60 (pc : Nat) : xi_ok cX1_readProduct (xi_60 pc) = true := xi_c (zq1 xi_w60) (xi_c (zq1 (zq2 xi_w60)) (zq1 (zq2 (zq2 xi_w60))))
noncomputable def zi_61_0 : ZIs := [(0, ev_21), (1, ev_384), (4, ev_30), (5, ev_409), (8, ev_21), (9, ev_384), (12, ev_7), (13, ev_410), (16, ev_13), (17, ev_21), (18, ev_298), (21, ev_98), (22, ev_21), (23, ev_400), (25, ev_380), (28, ev_295)]
noncomputable def zi_61_1 : ZIs := [(29, ev_198), (30, ev_411), (33, ev_21), (34, ev_412), (36, ev_380), (39, ev_381), (42, ev_21), (43, ev_30), (44, ev_32), (45, ev_382), (48, ev_98), (49, ev_197), (50, ev_413), (52, ev_414), (55, ev_21), (56, ev_31)]
noncomputable def zi_61_2 : ZIs := [(57, ev_21), (58, ev_415), (61, ev_375), (64, ev_98), (65, ev_21), (66, ev_15), (68, ev_10), (69, ev_377), (72, ev_198), (73, ev_416), (76, ev_13), (77, ev_21), (78, ev_197), (79, ev_7), (80, ev_22), (81, ev_403)]
noncomputable def zi_61_3 : ZIs := [(84, ev_417), (87, ev_13), (88, ev_418), (90, ev_395), (93, ev_227), (96, ev_7), (97, ev_229), (100, ev_10), (101, ev_98), (102, ev_13), (103, ev_21), (104, ev_197), (105, ev_7), (106, ev_22), (107, ev_218), (110, ev_378)]
noncomputable def zi_61_4 : ZIs := [(113, ev_10), (114, ev_98), (115, ev_21), (116, ev_419), (118, ev_380), (121, ev_381), (124, ev_21), (125, ev_30), (126, ev_32), (127, ev_382), (130, ev_98), (131, ev_21), (132, ev_15), (134, ev_10), (135, ev_377), (138, ev_7)]
noncomputable def zi_61_5 : ZIs := [(139, ev_98)]
set_option maxRecDepth 100000 in
theorem xi_w61 : zall cX1_readFactor [zi_61_0, zi_61_1, zi_61_2, zi_61_3, zi_61_4, zi_61_5] := zall_w _ _ (by decide +kernel)
noncomputable def xi_61 (pc : Nat) : XIs := cond (Nat.blt pc 84) (cond (Nat.blt pc 29) (zx zi_61_0) (cond (Nat.blt pc 57) (zx zi_61_1) (zx zi_61_2))) (cond (Nat.blt pc 113) (zx zi_61_3) (cond (Nat.blt pc 139) (zx zi_61_4) (zx zi_61_5)))
theorem xi_ok61 (pc : Nat) : xi_ok cX1_readFactor (xi_61 pc) = true := xi_c (xi_c (zq1 xi_w61) (xi_c (zq1 (zq2 xi_w61)) (zq1 (zq2 (zq2 xi_w61))))) (xi_c (zq1 (zq2 (zq2 (zq2 xi_w61)))) (xi_c (zq1 (zq2 (zq2 (zq2 (zq2 xi_w61))))) (zq1 (zq2 (zq2 (zq2 (zq2 (zq2 xi_w61))))))))
noncomputable def zi_62_0 : ZIs := [(0, ev_21), (1, ev_392), (4, ev_294), (5, ev_21), (6, ev_384), (9, ev_7), (10, ev_420), (13, ev_421), (15, ev_422), (17, ev_21), (18, ev_392), (21, ev_22), (22, ev_423), (23, ev_424), (26, ev_295), (27, ev_198)]
noncomputable def zi_62_1 : ZIs := [(28, ev_425), (31, ev_21), (32, ev_33), (33, ev_21), (34, ev_415), (37, ev_375), (40, ev_98), (41, ev_426), (43, ev_198), (44, ev_22), (45, ev_294), (46, ev_13), (47, ev_197), (48, ev_395), (51, ev_50), (52, ev_21)]
noncomputable def zi_62_2 : ZIs := [(53, ev_15), (55, ev_10), (56, ev_377), (59, ev_7), (60, ev_98)]
set_option maxRecDepth 100000 in
theorem xi_w62 : zall cX1_readAtom [zi_62_0, zi_62_1, zi_62_2] := zall_w _ _ (by decide +kernel)
noncomputable def xi_62 (pc : Nat) : XIs := cond (Nat.blt pc 28) (zx zi_62_0) (cond (Nat.blt pc 53) (zx zi_62_1) (zx zi_62_2))
theorem xi_ok62 (pc : Nat) : xi_ok cX1_readAtom (xi_62 pc) = true := xi_c (zq1 xi_w62) (xi_c (zq1 (zq2 xi_w62)) (zq1 (zq2 (zq2 xi_w62))))
noncomputable def zi_63_0 : ZIs := [(0, ev_21), (1, ev_427), (4, ev_13), (5, ev_21), (6, ev_428), (9, ev_429), (12, ev_13), (13, ev_430), (16, ev_230), (17, ev_431), (20, ev_13), (21, ev_21), (22, ev_10), (23, ev_432), (26, ev_50), (27, ev_7)]
noncomputable def zi_63_1 : ZIs := [(28, ev_295), (29, ev_198), (30, ev_197), (31, ev_433), (34, ev_13), (35, ev_434), (38, ev_10), (39, ev_13), (40, ev_430), (43, ev_10), (44, ev_176), (46, ev_387), (49, ev_13), (50, ev_21), (51, ev_198), (52, ev_432)]
noncomputable def zi_63_2 : ZIs := [(55, ev_378), (58, ev_198), (59, ev_98), (60, ev_300), (63, ev_435), (66, ev_197), (67, ev_98)]
set_option maxRecDepth 100000 in
theorem xi_w63 : zall cX1_work [zi_63_0, zi_63_1, zi_63_2] := zall_w _ _ (by decide +kernel)
noncomputable def xi_63 (pc : Nat) : XIs := cond (Nat.blt pc 28) (zx zi_63_0) (cond (Nat.blt pc 55) (zx zi_63_1) (zx zi_63_2))
theorem xi_ok63 (pc : Nat) : xi_ok cX1_work (xi_63 pc) = true := xi_c (zq1 xi_w63) (xi_c (zq1 (zq2 xi_w63)) (zq1 (zq2 (zq2 xi_w63))))
noncomputable def zi_64_0 : ZIs := [(0, ev_10), (1, ev_295), (2, ev_10), (3, ev_11), (5, ev_12), (7, ev_21), (8, ev_428), (11, ev_436), (14, ev_13), (15, ev_21), (16, ev_12), (18, ev_197), (19, ev_437), (22, ev_13), (23, ev_434), (26, ev_12)]
noncomputable def zi_64_1 : ZIs := [(28, ev_197), (29, ev_99), (32, ev_13), (33, ev_10), (34, ev_13), (35, ev_280), (38, ev_438), (41, ev_439), (44, ev_13), (45, ev_13), (46, ev_280), (49, ev_13), (50, ev_440), (53, ev_438), (56, ev_194), (57, ev_198)]
noncomputable def zi_64_2 : ZIs := [(58, ev_13), (59, ev_434), (62, ev_12), (64, ev_100), (65, ev_13), (66, ev_430), (69, ev_12), (71, ev_100), (72, ev_103), (73, ev_227), (76, ev_7), (77, ev_229), (80, ev_10), (81, ev_278), (82, ev_295), (83, ev_348)]
noncomputable def zi_64_3 : ZIs := [(86, ev_441), (89, ev_198), (90, ev_98)]
set_option maxRecDepth 100000 in
theorem xi_w64 : zall cX1_doRound [zi_64_0, zi_64_1, zi_64_2, zi_64_3] := zall_w _ _ (by decide +kernel)
noncomputable def xi_64 (pc : Nat) : XIs := cond (Nat.blt pc 58) (cond (Nat.blt pc 28) (zx zi_64_0) (zx zi_64_1)) (cond (Nat.blt pc 86) (zx zi_64_2) (zx zi_64_3))
theorem xi_ok64 (pc : Nat) : xi_ok cX1_doRound (xi_64 pc) = true := xi_c (xi_c (zq1 xi_w64) (zq1 (zq2 xi_w64))) (xi_c (zq1 (zq2 (zq2 xi_w64))) (zq1 (zq2 (zq2 (zq2 xi_w64)))))
noncomputable def zi_65_0 : ZIs := [(0, ev_230), (1, ev_442), (3, ev_443), (6, ev_58), (8, ev_444), (11, ev_445), (13, ev_21), (14, ev_446), (17, ev_197), (18, ev_18), (19, ev_447), (21, ev_448), (23, ev_21), (24, ev_446), (27, ev_197), (28, ev_7)]
noncomputable def zi_65_1 : ZIs := [(29, ev_22), (30, ev_18), (31, ev_449), (34, ev_21), (35, ev_450), (38, ev_448), (40, ev_18), (41, ev_451), (43, ev_13), (44, ev_430), (47, ev_21), (48, ev_452), (51, ev_453), (53, ev_18), (54, ev_100), (55, ev_454)]
noncomputable def zi_65_2 : ZIs := [(57, ev_455), (59, ev_21), (60, ev_456), (63, ev_453), (65, ev_18), (66, ev_102), (67, ev_457), (68, ev_458), (71, ev_459), (73, ev_247), (75, ev_455), (77, ev_457), (78, ev_442), (80, ev_460), (82, ev_461), (84, ev_40)]
noncomputable def zi_65_3 : ZIs := [(87, ev_58), (89, ev_462), (91, ev_461), (93, ev_463), (96, ev_445), (98, ev_464), (101, ev_342), (104, ev_13), (105, ev_465), (108, ev_10), (109, ev_13), (110, ev_430), (113, ev_197), (114, ev_100), (115, ev_194), (116, ev_13)]
noncomputable def zi_65_4 : ZIs := [(117, ev_465), (120, ev_7), (121, ev_197), (122, ev_102), (123, ev_194), (124, ev_13), (125, ev_465), (128, ev_30), (129, ev_21), (130, ev_466), (133, ev_197), (134, ev_18), (135, ev_102), (136, ev_194), (137, ev_13), (138, ev_465)]
noncomputable def zi_65_5 : ZIs := [(141, ev_31), (142, ev_21), (143, ev_197), (144, ev_467), (147, ev_102), (148, ev_194), (149, ev_13), (150, ev_465), (153, ev_32), (154, ev_21), (155, ev_197), (156, ev_51), (159, ev_102), (160, ev_194), (161, ev_13), (162, ev_465)]
noncomputable def zi_65_6 : ZIs := [(165, ev_33), (166, ev_198), (167, ev_102), (168, ev_194), (169, ev_13), (170, ev_465), (173, ev_15), (175, ev_247), (177, ev_458), (180, ev_194), (181, ev_13), (182, ev_465), (185, ev_468), (187, ev_460), (189, ev_194), (190, ev_13)]
noncomputable def zi_65_7 : ZIs := [(191, ev_465), (194, ev_469), (196, ev_462), (198, ev_194), (199, ev_260)]
set_option maxRecDepth 100000 in
theorem xi_w65 : zall cX1_look [zi_65_0, zi_65_1, zi_65_2, zi_65_3, zi_65_4, zi_65_5, zi_65_6, zi_65_7] := zall_w _ _ (by decide +kernel)
noncomputable def xi_65 (pc : Nat) : XIs := cond (Nat.blt pc 117) (cond (Nat.blt pc 57) (cond (Nat.blt pc 29) (zx zi_65_0) (zx zi_65_1)) (cond (Nat.blt pc 87) (zx zi_65_2) (zx zi_65_3))) (cond (Nat.blt pc 165) (cond (Nat.blt pc 141) (zx zi_65_4) (zx zi_65_5)) (cond (Nat.blt pc 191) (zx zi_65_6) (zx zi_65_7)))
theorem xi_ok65 (pc : Nat) : xi_ok cX1_look (xi_65 pc) = true := xi_c (xi_c (xi_c (zq1 xi_w65) (zq1 (zq2 xi_w65))) (xi_c (zq1 (zq2 (zq2 xi_w65))) (zq1 (zq2 (zq2 (zq2 xi_w65)))))) (xi_c (xi_c (zq1 (zq2 (zq2 (zq2 (zq2 xi_w65))))) (zq1 (zq2 (zq2 (zq2 (zq2 (zq2 xi_w65))))))) (xi_c (zq1 (zq2 (zq2 (zq2 (zq2 (zq2 (zq2 xi_w65))))))) (zq1 (zq2 (zq2 (zq2 (zq2 (zq2 (zq2 (zq2 xi_w65))))))))))
noncomputable def zi_66_0 : ZIs := [(0, ev_10), (1, ev_295), (2, ev_192), (3, ev_11), (5, ev_12), (7, ev_197), (8, ev_470), (11, ev_13), (12, ev_386), (15, ev_12), (17, ev_18), (18, ev_25), (20, ev_96), (22, ev_394), (24, ev_471), (27, ev_13)]
noncomputable def zi_66_1 : ZIs := [(28, ev_341), (31, ev_198), (32, ev_96), (34, ev_426), (36, ev_472), (39, ev_96), (41, ev_102), (42, ev_473), (45, ev_13), (46, ev_465), (49, ev_96), (51, ev_426), (53, ev_16), (54, ev_100), (55, ev_194), (56, ev_300)]
noncomputable def zi_66_2 : ZIs := [(59, ev_474), (62, ev_96), (64, ev_418), (66, ev_475), (69, ev_13), (70, ev_341), (73, ev_198), (74, ev_7), (75, ev_16), (76, ev_13), (77, ev_341), (80, ev_198), (81, ev_7), (82, ev_16), (83, ev_100), (84, ev_476)]
noncomputable def zi_66_3 : ZIs := [(85, ev_194), (86, ev_477), (89, ev_478), (92, ev_13), (93, ev_341), (96, ev_198), (97, ev_7), (98, ev_16), (99, ev_96), (101, ev_394), (103, ev_16), (104, ev_13), (105, ev_341), (108, ev_198), (109, ev_7), (110, ev_16)]
noncomputable def zi_66_4 : ZIs := [(111, ev_100), (112, ev_13), (113, ev_341), (116, ev_198), (117, ev_100), (118, ev_479), (121, ev_194), (122, ev_348), (125, ev_480), (128, ev_13), (129, ev_341), (132, ev_10), (133, ev_100), (134, ev_481)]
set_option maxRecDepth 100000 in
theorem xi_w66 : zall cX1_compute [zi_66_0, zi_66_1, zi_66_2, zi_66_3, zi_66_4] := zall_w _ _ (by decide +kernel)
noncomputable def xi_66 (pc : Nat) : XIs := cond (Nat.blt pc 59) (cond (Nat.blt pc 28) (zx zi_66_0) (zx zi_66_1)) (cond (Nat.blt pc 85) (zx zi_66_2) (cond (Nat.blt pc 111) (zx zi_66_3) (zx zi_66_4)))
theorem xi_ok66 (pc : Nat) : xi_ok cX1_compute (xi_66 pc) = true := xi_c (xi_c (zq1 xi_w66) (zq1 (zq2 xi_w66))) (xi_c (zq1 (zq2 (zq2 xi_w66))) (xi_c (zq1 (zq2 (zq2 (zq2 xi_w66)))) (zq1 (zq2 (zq2 (zq2 (zq2 xi_w66)))))))
noncomputable def zi_67_0 : ZIs := [(0, ev_482)]
noncomputable def xi_67_1 : XIs := [(1, .lookupswitch 75 #[(42, 57), (43, 43), (45, 50), (60, 63)], 43)]
set_option maxRecDepth 100000 in
theorem xi_ok67_1 : xi_ok cX1_combine xi_67_1 = true := by decide +kernel
noncomputable def zi_67_2 : ZIs := [(44, ev_483), (45, ev_484), (46, ev_457), (47, ev_458), (50, ev_481), (51, ev_483), (52, ev_484), (53, ev_485), (54, ev_458), (57, ev_481), (58, ev_483), (59, ev_484), (60, ev_60), (63, ev_481), (64, ev_483), (65, ev_484)]
noncomputable def zi_67_3 : ZIs := [(66, ev_103), (67, ev_486), (70, ev_228), (71, ev_229), (74, ev_230), (75, ev_481), (76, ev_483), (77, ev_484), (78, ev_103), (79, ev_326), (82, ev_228), (83, ev_229), (86, ev_230), (87, ev_481)]
set_option maxRecDepth 100000 in
theorem xi_w67 : zall cX1_combine [zi_67_0, zi_67_2, zi_67_3] := zall_w _ _ (by decide +kernel)
noncomputable def xi_67 (pc : Nat) : XIs := cond (Nat.blt pc 44) (cond (Nat.blt pc 1) (zx zi_67_0) (xi_67_1)) (cond (Nat.blt pc 66) (zx zi_67_2) (zx zi_67_3))
theorem xi_ok67 (pc : Nat) : xi_ok cX1_combine (xi_67 pc) = true := xi_c (xi_c (zq1 xi_w67) (xi_ok67_1)) (xi_c (zq1 (zq2 xi_w67)) (zq1 (zq2 (zq2 xi_w67))))
noncomputable def zi_68_0 : ZIs := [(0, ev_487), (1, ev_230), (2, ev_103), (3, ev_488), (6, ev_489), (7, ev_63), (10, ev_443), (13, ev_487), (14, ev_63), (17, ev_490), (18, ev_103), (19, ev_491), (22, ev_487), (23, ev_489), (24, ev_492), (25, ev_481)]
noncomputable def zi_68_1 : ZIs := [(26, ev_487), (27, ev_230), (28, ev_103), (29, ev_493), (32, ev_7), (33, ev_229), (36, ev_10), (37, ev_489), (38, ev_230), (39, ev_103), (40, ev_493), (43, ev_7), (44, ev_229), (47, ev_10), (48, ev_410), (51, ev_443)]
noncomputable def zi_68_2 : ZIs := [(54, ev_209), (57, ev_444), (60, ev_481)]
set_option maxRecDepth 100000 in
theorem xi_w68 : zall cX1_times [zi_68_0, zi_68_1, zi_68_2] := zall_w _ _ (by decide +kernel)
noncomputable def xi_68 (pc : Nat) : XIs := cond (Nat.blt pc 26) (zx zi_68_0) (cond (Nat.blt pc 54) (zx zi_68_1) (zx zi_68_2))
theorem xi_ok68 (pc : Nat) : xi_ok cX1_times (xi_68 pc) = true := xi_c (zq1 xi_w68) (xi_c (zq1 (zq2 xi_w68)) (zq1 (zq2 (zq2 xi_w68))))
noncomputable def zi_69_0 : ZIs := [(0, ev_444), (3, ev_443), (6, ev_487), (7, ev_40), (10, ev_463), (13, ev_481)]
set_option maxRecDepth 100000 in
theorem xi_w69 : zall cX1_clip [zi_69_0] := zall_w _ _ (by decide +kernel)
noncomputable def xi_69 (pc : Nat) : XIs := zx zi_69_0
theorem xi_ok69 (pc : Nat) : xi_ok cX1_clip (xi_69 pc) = true := zq1 xi_w69
noncomputable def zi_70_0 : ZIs := [(0, ev_13), (1, ev_10), (2, ev_494), (5, ev_13), (6, ev_10), (7, ev_495), (10, ev_13), (11, ev_10), (12, ev_496), (15, ev_21), (16, ev_198), (17, ev_497), (20, ev_275), (22, ev_10), (23, ev_313), (25, ev_314)]
noncomputable def zi_70_1 : ZIs := [(27, ev_197), (28, ev_498), (31, ev_276), (33, ev_327), (35, ev_10), (36, ev_447), (38, ev_448), (40, ev_426), (42, ev_499), (45, ev_329), (47, ev_500), (50, ev_13), (51, ev_329), (53, ev_12), (55, ev_501), (57, ev_76)]
noncomputable def zi_70_2 : ZIs := [(60, ev_327), (62, ev_13), (63, ev_1), (64, ev_502), (67, ev_7), (68, ev_22), (69, ev_496), (72, ev_464), (75, ev_301), (78, ev_318), (81, ev_503), (84, ev_260)]
set_option maxRecDepth 100000 in
theorem xi_w70 : zall cX1_post [zi_70_0, zi_70_1, zi_70_2] := zall_w _ _ (by decide +kernel)
noncomputable def xi_70 (pc : Nat) : XIs := cond (Nat.blt pc 27) (zx zi_70_0) (cond (Nat.blt pc 60) (zx zi_70_1) (zx zi_70_2))
theorem xi_ok70 (pc : Nat) : xi_ok cX1_post (xi_70 pc) = true := xi_c (zq1 xi_w70) (xi_c (zq1 (zq2 xi_w70)) (zq1 (zq2 (zq2 xi_w70))))
noncomputable def zi_71_0 : ZIs := [(0, ev_192), (1, ev_7), (2, ev_504), (5, ev_10), (6, ev_98), (7, ev_10), (8, ev_294), (9, ev_10), (10, ev_295), (11, ev_198), (12, ev_13), (13, ev_428), (16, ev_505), (19, ev_10), (20, ev_11), (22, ev_13)]
noncomputable def zi_71_1 : ZIs := [(23, ev_506), (26, ev_198), (27, ev_18), (28, ev_25), (30, ev_96), (32, ev_416), (35, ev_12), (37, ev_7), (38, ev_96), (40, ev_507), (43, ev_192), (44, ev_508), (45, ev_277), (46, ev_278), (47, ev_11), (49, ev_96)]
noncomputable def zi_71_2 : ZIs := [(51, ev_96), (53, ev_7), (54, ev_16), (55, ev_20), (56, ev_25), (58, ev_349), (61, ev_197), (62, ev_12), (64, ev_7), (65, ev_198), (66, ev_192), (67, ev_508), (68, ev_277), (69, ev_252), (70, ev_317), (71, ev_20)]
noncomputable def zi_71_3 : ZIs := [(72, ev_509), (75, ev_22), (76, ev_294), (77, ev_300), (80, ev_510), (83, ev_197), (84, ev_98)]
set_option maxRecDepth 100000 in
theorem xi_w71 : zall cX1_lettersOf [zi_71_0, zi_71_1, zi_71_2, zi_71_3] := zall_w _ _ (by decide +kernel)
noncomputable def xi_71 (pc : Nat) : XIs := cond (Nat.blt pc 51) (cond (Nat.blt pc 23) (zx zi_71_0) (zx zi_71_1)) (cond (Nat.blt pc 72) (zx zi_71_2) (zx zi_71_3))
theorem xi_ok71 (pc : Nat) : xi_ok cX1_lettersOf (xi_71 pc) = true := xi_c (xi_c (zq1 xi_w71) (zq1 (zq2 xi_w71))) (xi_c (zq1 (zq2 (zq2 xi_w71))) (zq1 (zq2 (zq2 (zq2 xi_w71)))))
noncomputable def zi_72_0 : ZIs := [(0, ev_10), (1, ev_25), (3, ev_10), (4, ev_28), (6, ev_101), (8, ev_192), (9, ev_511), (12, ev_13), (13, ev_1), (14, ev_512), (17, ev_7), (18, ev_22), (19, ev_494), (22, ev_484), (23, ev_513), (26, ev_13)]
noncomputable def zi_72_1 : ZIs := [(27, ev_512), (30, ev_102), (31, ev_492), (32, ev_457), (33, ev_93), (36, ev_197), (37, ev_102), (38, ev_103), (39, ev_514), (42, ev_343), (45, ev_320), (48, ev_515), (51, ev_13), (52, ev_1), (53, ev_516), (56, ev_96)]
noncomputable def zi_72_2 : ZIs := [(58, ev_22), (59, ev_495), (62, ev_96), (64, ev_98)]
set_option maxRecDepth 100000 in
theorem xi_w72 : zall cX1_sendAll [zi_72_0, zi_72_1, zi_72_2] := zall_w _ _ (by decide +kernel)
noncomputable def xi_72 (pc : Nat) : XIs := cond (Nat.blt pc 27) (zx zi_72_0) (cond (Nat.blt pc 58) (zx zi_72_1) (zx zi_72_2))
theorem xi_ok72 (pc : Nat) : xi_ok cX1_sendAll (xi_72 pc) = true := xi_c (zq1 xi_w72) (xi_c (zq1 (zq2 xi_w72)) (zq1 (zq2 (zq2 xi_w72))))
noncomputable def zi_73_0 : ZIs := [(0, ev_487), (1, ev_517), (2, ev_489), (3, ev_489), (4, ev_518), (6, ev_519), (7, ev_520), (8, ev_521), (11, ev_492), (12, ev_517), (13, ev_489), (14, ev_489), (15, ev_522), (17, ev_519), (18, ev_520), (19, ev_523)]
noncomputable def zi_73_1 : ZIs := [(22, ev_492), (23, ev_517), (24, ev_489), (25, ev_489), (26, ev_524), (28, ev_519), (29, ev_520), (30, ev_517), (31, ev_489), (32, ev_525), (34, ev_519), (35, ev_526), (38, ev_527), (39, ev_481)]
set_option maxRecDepth 100000 in
theorem xi_w73 : zall cX1_draw [zi_73_0, zi_73_1] := zall_w _ _ (by decide +kernel)
noncomputable def xi_73 (pc : Nat) : XIs := cond (Nat.blt pc 22) (zx zi_73_0) (zx zi_73_1)
theorem xi_ok73 (pc : Nat) : xi_ok cX1_draw (xi_73 pc) = true := xi_c (zq1 xi_w73) (zq1 (zq2 xi_w73))
noncomputable def zi_74_0 : ZIs := [(0, ev_13), (1, ev_251), (4, ev_13), (5, ev_252), (6, ev_253), (9, ev_13), (10, ev_528), (13, ev_255), (15, ev_254), (18, ev_13), (19, ev_176), (21, ev_255), (23, ev_368), (26, ev_13), (27, ev_176), (29, ev_255)]
noncomputable def zi_74_1 : ZIs := [(31, ev_257), (34, ev_13), (35, ev_529), (38, ev_255), (40, ev_258), (43, ev_13), (44, ev_529), (47, ev_255), (49, ev_259), (52, ev_13), (53, ev_529), (56, ev_255), (58, ev_530), (61, ev_13), (62, ev_529), (65, ev_255)]
noncomputable def zi_74_2 : ZIs := [(67, ev_531), (70, ev_13), (71, ev_529), (74, ev_255), (76, ev_532), (79, ev_13), (80, ev_176), (82, ev_255), (84, ev_533), (87, ev_13), (88, ev_176), (90, ev_8), (92, ev_534), (95, ev_13), (96, ev_252), (97, ev_535)]
noncomputable def zi_74_3 : ZIs := [(100, ev_260)]
set_option maxRecDepth 100000 in
theorem xi_w74 : zall cX2_init [zi_74_0, zi_74_1, zi_74_2, zi_74_3] := zall_w _ _ (by decide +kernel)
noncomputable def xi_74 (pc : Nat) : XIs := cond (Nat.blt pc 67) (cond (Nat.blt pc 31) (zx zi_74_0) (zx zi_74_1)) (cond (Nat.blt pc 100) (zx zi_74_2) (zx zi_74_3))
theorem xi_ok74 (pc : Nat) : xi_ok cX2_init (xi_74 pc) = true := xi_c (xi_c (zq1 xi_w74) (zq1 (zq2 xi_w74))) (xi_c (zq1 (zq2 (zq2 xi_w74))) (zq1 (zq2 (zq2 (zq2 xi_w74)))))
noncomputable def zi_75_0 : ZIs := [(0, ev_13), (1, ev_261), (4, ev_21), (5, ev_383), (8, ev_536), (11, ev_13), (12, ev_537), (15, ev_197), (16, ev_538), (19, ev_13), (20, ev_539), (23, ev_198), (24, ev_540), (27, ev_13), (28, ev_541), (31, ev_481)]
noncomputable def zi_75_1 : ZIs := [(32, ev_13), (33, ev_21), (34, ev_383), (37, ev_253), (40, ev_13), (41, ev_197), (42, ev_542), (45, ev_13), (46, ev_198), (47, ev_543), (50, ev_13), (51, ev_230), (52, ev_544), (55, ev_13), (56, ev_21), (57, ev_382)]
noncomputable def zi_75_2 : ZIs := [(60, ev_10), (61, ev_11), (63, ev_12), (65, ev_545), (67, ev_546), (70, ev_13), (71, ev_197), (72, ev_198), (73, ev_547), (76, ev_548), (79, ev_13), (80, ev_1), (81, ev_541), (84, ev_13), (85, ev_197), (86, ev_198)]
noncomputable def zi_75_3 : ZIs := [(87, ev_549), (90, ev_102), (91, ev_457), (92, ev_544), (95, ev_348), (98, ev_293), (101, ev_13), (102, ev_541), (105, ev_481)]
set_option maxRecDepth 100000 in
theorem xi_w75 : zall cX2_greatest [zi_75_0, zi_75_1, zi_75_2, zi_75_3] := zall_w _ _ (by decide +kernel)
noncomputable def xi_75 (pc : Nat) : XIs := cond (Nat.blt pc 60) (cond (Nat.blt pc 32) (zx zi_75_0) (zx zi_75_1)) (cond (Nat.blt pc 87) (zx zi_75_2) (zx zi_75_3))
theorem xi_ok75 (pc : Nat) : xi_ok cX2_greatest (xi_75 pc) = true := xi_c (xi_c (zq1 xi_w75) (zq1 (zq2 xi_w75))) (xi_c (zq1 (zq2 (zq2 xi_w75))) (zq1 (zq2 (zq2 (zq2 xi_w75)))))
noncomputable def zi_76_0 : ZIs := [(0, ev_13), (1, ev_280), (4, ev_10), (5, ev_550), (8, ev_13), (9, ev_440), (12, ev_10), (13, ev_550), (16, ev_10), (17, ev_294), (18, ev_197), (19, ev_21), (20, ev_551), (23, ev_436), (26, ev_21), (27, ev_197)]
noncomputable def zi_76_1 : ZIs := [(28, ev_396), (31, ev_552), (34, ev_21), (35, ev_296), (38, ev_197), (39, ev_18), (40, ev_553), (43, ev_13), (44, ev_280), (47, ev_21), (48, ev_554), (51, ev_197), (52, ev_18), (53, ev_176), (55, ev_355), (56, ev_21)]
noncomputable def zi_76_2 : ZIs := [(57, ev_555), (60, ev_197), (61, ev_18), (62, ev_22), (63, ev_316), (64, ev_18), (65, ev_21), (66, ev_296), (69, ev_197), (70, ev_18), (71, ev_22), (72, ev_299), (73, ev_13), (74, ev_440), (77, ev_21), (78, ev_554)]
noncomputable def zi_76_3 : ZIs := [(81, ev_197), (82, ev_18), (83, ev_316), (84, ev_18), (85, ev_7), (86, ev_21), (87, ev_555), (90, ev_197), (91, ev_18), (92, ev_277), (93, ev_278), (94, ev_299), (95, ev_304), (98, ev_342), (101, ev_260)]
set_option maxRecDepth 100000 in
theorem xi_w76 : zall cX2_openAll [zi_76_0, zi_76_1, zi_76_2, zi_76_3] := zall_w _ _ (by decide +kernel)
noncomputable def xi_76 (pc : Nat) : XIs := cond (Nat.blt pc 57) (cond (Nat.blt pc 28) (zx zi_76_0) (zx zi_76_1)) (cond (Nat.blt pc 81) (zx zi_76_2) (zx zi_76_3))
theorem xi_ok76 (pc : Nat) : xi_ok cX2_openAll (xi_76 pc) = true := xi_c (xi_c (zq1 xi_w76) (zq1 (zq2 xi_w76))) (xi_c (zq1 (zq2 (zq2 xi_w76))) (zq1 (zq2 (zq2 (zq2 xi_w76)))))
noncomputable def zi_77_0 : ZIs := [(0, ev_7), (1, ev_192), (2, ev_277), (3, ev_295), (4, ev_198), (5, ev_11), (7, ev_10), (8, ev_25), (10, ev_96), (12, ev_176), (14, ev_556), (17, ev_12), (19, ev_557), (22, ev_198), (23, ev_197), (24, ev_303)]
noncomputable def zi_77_1 : ZIs := [(25, ev_7), (26, ev_20), (27, ev_558), (30, ev_10), (31, ev_28), (33, ev_12), (35, ev_275), (37, ev_276), (39, ev_559), (42, ev_276), (44, ev_560), (47, ev_313), (49, ev_13), (50, ev_440), (53, ev_314), (55, ev_18)]
noncomputable def zi_77_2 : ZIs := [(56, ev_198), (57, ev_252), (58, ev_317), (59, ev_20), (60, ev_327), (62, ev_329), (64, ev_447), (66, ev_448), (68, ev_561), (71, ev_13), (72, ev_362), (75, ev_448), (77, ev_560), (80, ev_314), (82, ev_299), (83, ev_448)]
noncomputable def zi_77_3 : ZIs := [(85, ev_448), (87, ev_7), (88, ev_16), (89, ev_20), (90, ev_447), (92, ev_562), (95, ev_198), (96, ev_329), (98, ev_278), (99, ev_295), (100, ev_101), (102, ev_329), (104, ev_278), (105, ev_28), (107, ev_276), (109, ev_276)]
noncomputable def zi_77_4 : ZIs := [(111, ev_7), (112, ev_16), (113, ev_20), (114, ev_275), (116, ev_563), (119, ev_101), (121, ev_11), (123, ev_343), (126, ev_564), (129, ev_13), (130, ev_198), (131, ev_565), (134, ev_198), (135, ev_197), (136, ev_303), (137, ev_7)]
noncomputable def zi_77_5 : ZIs := [(138, ev_20), (139, ev_227), (142, ev_7), (143, ev_229), (146, ev_10), (147, ev_98)]
set_option maxRecDepth 100000 in
theorem xi_w77 : zall cX2_reach [zi_77_0, zi_77_1, zi_77_2, zi_77_3, zi_77_4, zi_77_5] := zall_w _ _ (by decide +kernel)
noncomputable def xi_77 (pc : Nat) : XIs := cond (Nat.blt pc 85) (cond (Nat.blt pc 25) (zx zi_77_0) (cond (Nat.blt pc 56) (zx zi_77_1) (zx zi_77_2))) (cond (Nat.blt pc 111) (zx zi_77_3) (cond (Nat.blt pc 138) (zx zi_77_4) (zx zi_77_5)))
theorem xi_ok77 (pc : Nat) : xi_ok cX2_reach (xi_77 pc) = true := xi_c (xi_c (zq1 xi_w77) (xi_c (zq1 (zq2 xi_w77)) (zq1 (zq2 (zq2 xi_w77))))) (xi_c (zq1 (zq2 (zq2 (zq2 xi_w77)))) (xi_c (zq1 (zq2 (zq2 (zq2 (zq2 xi_w77))))) (zq1 (zq2 (zq2 (zq2 (zq2 (zq2 xi_w77))))))))
noncomputable def zi_78_0 : ZIs := [(0, ev_566), (2, ev_295), (3, ev_197), (4, ev_11), (6, ev_10), (7, ev_25), (9, ev_96), (11, ev_176), (13, ev_567), (16, ev_12), (18, ev_192), (19, ev_568), (22, ev_198), (23, ev_13), (24, ev_280), (27, ev_13)]
noncomputable def zi_78_1 : ZIs := [(28, ev_362), (31, ev_12), (33, ev_18), (34, ev_176), (36, ev_355), (37, ev_12), (39, ev_22), (40, ev_18), (41, ev_569), (44, ev_295), (45, ev_13), (46, ev_362), (49, ev_12), (51, ev_18), (52, ev_11), (54, ev_343)]
noncomputable def zi_78_2 : ZIs := [(57, ev_570), (60, ev_197), (61, ev_11), (63, ev_10), (64, ev_25), (66, ev_96), (68, ev_176), (70, ev_571), (73, ev_12), (75, ev_192), (76, ev_572), (79, ev_13), (80, ev_362), (83, ev_12), (85, ev_18), (86, ev_28)]
noncomputable def zi_78_3 : ZIs := [(88, ev_13), (89, ev_280), (92, ev_101), (94, ev_176), (96, ev_355), (97, ev_12), (99, ev_22), (100, ev_316), (101, ev_18), (102, ev_198), (103, ev_16), (104, ev_299), (105, ev_13), (106, ev_280), (109, ev_101), (111, ev_176)]
noncomputable def zi_78_4 : ZIs := [(113, ev_355), (114, ev_12), (116, ev_22), (117, ev_18), (118, ev_411), (121, ev_13), (122, ev_440), (125, ev_101), (127, ev_316), (128, ev_18), (129, ev_7), (130, ev_12), (132, ev_277), (133, ev_252), (134, ev_317), (135, ev_20)]
noncomputable def zi_78_5 : ZIs := [(136, ev_299), (137, ev_13), (138, ev_280), (141, ev_12), (143, ev_176), (145, ev_355), (146, ev_101), (148, ev_22), (149, ev_316), (150, ev_18), (151, ev_198), (152, ev_22), (153, ev_299), (154, ev_13), (155, ev_440), (158, ev_12)]
noncomputable def zi_78_6 : ZIs := [(160, ev_316), (161, ev_18), (162, ev_7), (163, ev_101), (165, ev_277), (166, ev_278), (167, ev_299), (168, ev_101), (170, ev_11), (172, ev_343), (175, ev_332), (178, ev_198), (179, ev_98)]
set_option maxRecDepth 100000 in
theorem xi_w78 : zall cX2_push [zi_78_0, zi_78_1, zi_78_2, zi_78_3, zi_78_4, zi_78_5, zi_78_6] := zall_w _ _ (by decide +kernel)
noncomputable def xi_78 (pc : Nat) : XIs := cond (Nat.blt pc 88) (cond (Nat.blt pc 28) (zx zi_78_0) (cond (Nat.blt pc 57) (zx zi_78_1) (zx zi_78_2))) (cond (Nat.blt pc 136) (cond (Nat.blt pc 113) (zx zi_78_3) (zx zi_78_4)) (cond (Nat.blt pc 160) (zx zi_78_5) (zx zi_78_6)))
theorem xi_ok78 (pc : Nat) : xi_ok cX2_push (xi_78 pc) = true := xi_c (xi_c (zq1 xi_w78) (xi_c (zq1 (zq2 xi_w78)) (zq1 (zq2 (zq2 xi_w78))))) (xi_c (xi_c (zq1 (zq2 (zq2 (zq2 xi_w78)))) (zq1 (zq2 (zq2 (zq2 (zq2 xi_w78)))))) (xi_c (zq1 (zq2 (zq2 (zq2 (zq2 (zq2 xi_w78)))))) (zq1 (zq2 (zq2 (zq2 (zq2 (zq2 (zq2 xi_w78)))))))))
noncomputable def zi_79_0 : ZIs := [(0, ev_12), (2, ev_102), (3, ev_13), (4, ev_21), (5, ev_197), (6, ev_198), (7, ev_241), (10, ev_103), (11, ev_493), (14, ev_573), (17, ev_481), (18, ev_13), (19, ev_21), (20, ev_243), (23, ev_574), (25, ev_13)]
noncomputable def zi_79_1 : ZIs := [(26, ev_575), (29, ev_197), (30, ev_12), (32, ev_299), (33, ev_13), (34, ev_575), (37, ev_198), (38, ev_12), (40, ev_310), (41, ev_299), (42, ev_576), (44, ev_275), (46, ev_577), (48, ev_313), (50, ev_314), (52, ev_578)]
noncomputable def zi_79_2 : ZIs := [(55, ev_13), (56, ev_21), (57, ev_579), (60, ev_276), (62, ev_314), (64, ev_246), (67, ev_13), (68, ev_21), (69, ev_579), (72, ev_314), (74, ev_580), (77, ev_314), (79, ev_275), (81, ev_314), (83, ev_581), (85, ev_582)]
noncomputable def zi_79_3 : ZIs := [(86, ev_313), (88, ev_583), (91, ev_10), (92, ev_313), (94, ev_314), (96, ev_13), (97, ev_584), (100, ev_585), (103, ev_501), (105, ev_13), (106, ev_262), (109, ev_314), (111, ev_18), (112, ev_102), (113, ev_13), (114, ev_586)]
noncomputable def zi_79_4 : ZIs := [(117, ev_314), (119, ev_18), (120, ev_102), (121, ev_492), (122, ev_457), (123, ev_574), (125, ev_318), (128, ev_435), (131, ev_501), (133, ev_481)]
set_option maxRecDepth 100000 in
theorem xi_w79 : zall cX2_cheapest [zi_79_0, zi_79_1, zi_79_2, zi_79_3, zi_79_4] := zall_w _ _ (by decide +kernel)
noncomputable def xi_79 (pc : Nat) : XIs := cond (Nat.blt pc 55) (cond (Nat.blt pc 26) (zx zi_79_0) (zx zi_79_1)) (cond (Nat.blt pc 86) (zx zi_79_2) (cond (Nat.blt pc 117) (zx zi_79_3) (zx zi_79_4)))
theorem xi_ok79 (pc : Nat) : xi_ok cX2_cheapest (xi_79 pc) = true := xi_c (xi_c (zq1 xi_w79) (zq1 (zq2 xi_w79))) (xi_c (zq1 (zq2 (zq2 xi_w79))) (xi_c (zq1 (zq2 (zq2 (zq2 xi_w79)))) (zq1 (zq2 (zq2 (zq2 (zq2 xi_w79)))))))
noncomputable def zi_80_0 : ZIs := [(0, ev_13), (1, ev_575), (4, ev_10), (5, ev_550), (8, ev_13), (9, ev_10), (10, ev_587), (13, ev_230), (14, ev_517), (15, ev_10), (16, ev_11), (18, ev_12), (20, ev_21), (21, ev_551), (24, ev_588), (27, ev_21)]
noncomputable def zi_80_1 : ZIs := [(28, ev_12), (30, ev_396), (33, ev_589), (36, ev_13), (37, ev_21), (38, ev_554), (41, ev_12), (43, ev_18), (44, ev_21), (45, ev_555), (48, ev_12), (50, ev_18), (51, ev_21), (52, ev_590), (55, ev_12), (57, ev_18)]
noncomputable def zi_80_2 : ZIs := [(58, ev_21), (59, ev_296), (62, ev_12), (64, ev_18), (65, ev_591), (68, ev_592), (71, ev_21), (72, ev_554), (75, ev_12), (77, ev_18), (78, ev_252), (79, ev_593), (82, ev_21), (83, ev_590), (86, ev_12), (88, ev_18)]
noncomputable def zi_80_3 : ZIs := [(89, ev_594), (92, ev_489), (93, ev_21), (94, ev_590), (97, ev_12), (99, ev_18), (100, ev_102), (101, ev_21), (102, ev_296), (105, ev_12), (107, ev_18), (108, ev_102), (109, ev_492), (110, ev_457), (111, ev_517), (112, ev_348)]
noncomputable def zi_80_4 : ZIs := [(115, ev_595), (118, ev_489), (119, ev_481)]
set_option maxRecDepth 100000 in
theorem xi_w80 : zall cX2_layArcs [zi_80_0, zi_80_1, zi_80_2, zi_80_3, zi_80_4] := zall_w _ _ (by decide +kernel)
noncomputable def xi_80 (pc : Nat) : XIs := cond (Nat.blt pc 58) (cond (Nat.blt pc 28) (zx zi_80_0) (zx zi_80_1)) (cond (Nat.blt pc 89) (zx zi_80_2) (cond (Nat.blt pc 115) (zx zi_80_3) (zx zi_80_4)))
theorem xi_ok80 (pc : Nat) : xi_ok cX2_layArcs (xi_80 pc) = true := xi_c (xi_c (zq1 xi_w80) (zq1 (zq2 xi_w80))) (xi_c (zq1 (zq2 (zq2 xi_w80))) (xi_c (zq1 (zq2 (zq2 (zq2 xi_w80)))) (zq1 (zq2 (zq2 (zq2 (zq2 xi_w80)))))))
noncomputable def zi_81_0 : ZIs := [(0, ev_13), (1, ev_373), (4, ev_230), (5, ev_596), (8, ev_13), (9, ev_192), (10, ev_197), (11, ev_597), (14, ev_10), (15, ev_11), (17, ev_12), (19, ev_13), (20, ev_584), (23, ev_598), (26, ev_13), (27, ev_373)]
noncomputable def zi_81_1 : ZIs := [(30, ev_13), (31, ev_341), (34, ev_12), (36, ev_18), (37, ev_100), (38, ev_13), (39, ev_262), (42, ev_12), (44, ev_18), (45, ev_102), (46, ev_457), (47, ev_13), (48, ev_373), (51, ev_13), (52, ev_283), (55, ev_12)]
noncomputable def zi_81_2 : ZIs := [(57, ev_18), (58, ev_100), (59, ev_485), (60, ev_574), (62, ev_13), (63, ev_599), (66, ev_12), (68, ev_18), (69, ev_13), (70, ev_586), (73, ev_12), (75, ev_18), (76, ev_16), (77, ev_275), (79, ev_501), (81, ev_230)]
noncomputable def zi_81_3 : ZIs := [(82, ev_103), (83, ev_600), (86, ev_276), (88, ev_198), (89, ev_601), (92, ev_13), (93, ev_12), (95, ev_276), (97, ev_602), (100, ev_603), (103, ev_501), (105, ev_230), (106, ev_103), (107, ev_604), (110, ev_13), (111, ev_586)]
noncomputable def zi_81_4 : ZIs := [(114, ev_12), (116, ev_18), (117, ev_198), (118, ev_605), (121, ev_13), (122, ev_12), (124, ev_13), (125, ev_586), (128, ev_12), (130, ev_18), (131, ev_310), (132, ev_602), (135, ev_348), (138, ev_606), (141, ev_260)]
set_option maxRecDepth 100000 in
theorem xi_w81 : zall cX2_turnEarners [zi_81_0, zi_81_1, zi_81_2, zi_81_3, zi_81_4] := zall_w _ _ (by decide +kernel)
noncomputable def xi_81 (pc : Nat) : XIs := cond (Nat.blt pc 57) (cond (Nat.blt pc 30) (zx zi_81_0) (zx zi_81_1)) (cond (Nat.blt pc 82) (zx zi_81_2) (cond (Nat.blt pc 114) (zx zi_81_3) (zx zi_81_4)))
theorem xi_ok81 (pc : Nat) : xi_ok cX2_turnEarners (xi_81 pc) = true := xi_c (xi_c (zq1 xi_w81) (zq1 (zq2 xi_w81))) (xi_c (zq1 (zq2 (zq2 xi_w81))) (xi_c (zq1 (zq2 (zq2 (zq2 xi_w81)))) (zq1 (zq2 (zq2 (zq2 (zq2 xi_w81)))))))
noncomputable def zi_82_0 : ZIs := [(0, ev_13), (1, ev_586), (4, ev_192), (5, ev_316), (6, ev_18), (7, ev_197), (8, ev_22), (9, ev_299), (10, ev_13), (11, ev_575), (14, ev_13), (15, ev_283), (18, ev_192), (19, ev_18), (20, ev_316), (21, ev_18)]
noncomputable def zi_82_1 : ZIs := [(22, ev_197), (23, ev_22), (24, ev_299), (25, ev_13), (26, ev_575), (29, ev_13), (30, ev_341), (33, ev_192), (34, ev_18), (35, ev_316), (36, ev_18), (37, ev_197), (38, ev_16), (39, ev_299), (40, ev_260)]
set_option maxRecDepth 100000 in
theorem xi_w82 : zall cX2_turn [zi_82_0, zi_82_1] := zall_w _ _ (by decide +kernel)
noncomputable def xi_82 (pc : Nat) : XIs := cond (Nat.blt pc 22) (zx zi_82_0) (zx zi_82_1)
theorem xi_ok82 (pc : Nat) : xi_ok cX2_turn (xi_82 pc) = true := xi_c (zq1 xi_w82) (zq1 (zq2 xi_w82))
noncomputable def zi_83_0 : ZIs := [(0, ev_10), (1, ev_295), (2, ev_198), (3, ev_545), (5, ev_585), (8, ev_13), (9, ev_192), (10, ev_197), (11, ev_607), (14, ev_11), (16, ev_12), (18, ev_252), (19, ev_608), (22, ev_260), (23, ev_13), (24, ev_12)]
noncomputable def zi_83_1 : ZIs := [(26, ev_609), (29, ev_161), (30, ev_300), (33, ev_610), (36, ev_260)]
set_option maxRecDepth 100000 in
theorem xi_w83 : zall cX2_carryAll [zi_83_0, zi_83_1] := zall_w _ _ (by decide +kernel)
noncomputable def xi_83 (pc : Nat) : XIs := cond (Nat.blt pc 26) (zx zi_83_0) (zx zi_83_1)
theorem xi_ok83 (pc : Nat) : xi_ok cX2_carryAll (xi_83 pc) = true := xi_c (zq1 xi_w83) (zq1 (zq2 xi_w83))
noncomputable def zi_84_0 : ZIs := [(0, ev_13), (1, ev_584), (4, ev_529), (7, ev_611), (10, ev_13), (11, ev_341), (14, ev_13), (15, ev_584), (18, ev_192), (19, ev_299), (20, ev_13), (21, ev_283), (24, ev_13), (25, ev_584), (28, ev_197), (29, ev_299)]
noncomputable def zi_84_1 : ZIs := [(30, ev_13), (31, ev_262), (34, ev_13), (35, ev_584), (38, ev_198), (39, ev_299), (40, ev_13), (41, ev_599), (44, ev_13), (45, ev_584), (48, ev_12), (50, ev_299), (51, ev_13), (52, ev_586), (55, ev_13), (56, ev_584)]
noncomputable def zi_84_2 : ZIs := [(59, ev_10), (60, ev_299), (61, ev_13), (62, ev_1), (63, ev_584), (66, ev_7), (67, ev_22), (68, ev_587), (71, ev_260)]
set_option maxRecDepth 100000 in
theorem xi_w84 : zall cX2_lay [zi_84_0, zi_84_1, zi_84_2] := zall_w _ _ (by decide +kernel)
noncomputable def xi_84 (pc : Nat) : XIs := cond (Nat.blt pc 30) (zx zi_84_0) (cond (Nat.blt pc 59) (zx zi_84_1) (zx zi_84_2))
theorem xi_ok84 (pc : Nat) : xi_ok cX2_lay (xi_84 pc) = true := xi_c (zq1 xi_w84) (xi_c (zq1 (zq2 xi_w84)) (zq1 (zq2 (zq2 xi_w84))))
noncomputable def zi_85_0 : ZIs := [(0, ev_10), (1, ev_295), (2, ev_198), (3, ev_192), (4, ev_612), (7, ev_13), (8, ev_373), (11, ev_198), (12, ev_13), (13, ev_575), (16, ev_198), (17, ev_18), (18, ev_197), (19, ev_613), (22, ev_230), (23, ev_209)]
noncomputable def zi_85_1 : ZIs := [(26, ev_614), (29, ev_194), (30, ev_13), (31, ev_362), (34, ev_198), (35, ev_252), (36, ev_299), (37, ev_300), (40, ev_583), (43, ev_13), (44, ev_192), (45, ev_197), (46, ev_597), (49, ev_252), (50, ev_295), (51, ev_10)]
noncomputable def zi_85_2 : ZIs := [(52, ev_11), (54, ev_12), (56, ev_192), (57, ev_615), (60, ev_13), (61, ev_575), (64, ev_12), (66, ev_18), (67, ev_197), (68, ev_310), (69, ev_616), (72, ev_13), (73, ev_373), (76, ev_12), (78, ev_100), (79, ev_614)]
noncomputable def zi_85_3 : ZIs := [(82, ev_103), (83, ev_617), (86, ev_198), (87, ev_252), (88, ev_618), (91, ev_13), (92, ev_373), (95, ev_12), (97, ev_100), (98, ev_13), (99, ev_373), (102, ev_198), (103, ev_100), (104, ev_103), (105, ev_514), (108, ev_12)]
noncomputable def zi_85_4 : ZIs := [(110, ev_295), (111, ev_348), (114, ev_619), (117, ev_198), (118, ev_98)]
set_option maxRecDepth 100000 in
theorem xi_w85 : zall cX2_nearestLack [zi_85_0, zi_85_1, zi_85_2, zi_85_3, zi_85_4] := zall_w _ _ (by decide +kernel)
noncomputable def xi_85 (pc : Nat) : XIs := cond (Nat.blt pc 52) (cond (Nat.blt pc 26) (zx zi_85_0) (zx zi_85_1)) (cond (Nat.blt pc 82) (zx zi_85_2) (cond (Nat.blt pc 110) (zx zi_85_3) (zx zi_85_4)))
theorem xi_ok85 (pc : Nat) : xi_ok cX2_nearestLack (xi_85 pc) = true := xi_c (xi_c (zq1 xi_w85) (zq1 (zq2 xi_w85))) (xi_c (zq1 (zq2 (zq2 xi_w85))) (xi_c (zq1 (zq2 (zq2 (zq2 xi_w85)))) (zq1 (zq2 (zq2 (zq2 (zq2 xi_w85)))))))
noncomputable def zi_86_0 : ZIs := [(0, ev_7), (1, ev_295), (2, ev_10), (3, ev_11), (5, ev_12), (7, ev_192), (8, ev_620), (11, ev_198), (12, ev_621), (15, ev_10), (16, ev_295), (17, ev_10), (18, ev_25), (20, ev_96), (22, ev_13), (23, ev_584)]
noncomputable def zi_86_1 : ZIs := [(26, ev_622), (29, ev_198), (30, ev_13), (31, ev_96), (33, ev_197), (34, ev_623), (37, ev_278), (38, ev_295), (39, ev_343), (42, ev_624), (45, ev_348), (48, ev_408), (51, ev_260)]
set_option maxRecDepth 100000 in
theorem xi_w86 : zall cX2_relaxAll [zi_86_0, zi_86_1] := zall_w _ _ (by decide +kernel)
noncomputable def xi_86 (pc : Nat) : XIs := cond (Nat.blt pc 26) (zx zi_86_0) (zx zi_86_1)
theorem xi_ok86 (pc : Nat) : xi_ok cX2_relaxAll (xi_86 pc) = true := xi_c (zq1 xi_w86) (zq1 (zq2 xi_w86))
noncomputable def zi_87_0 : ZIs := [(0, ev_13), (1, ev_341), (4, ev_192), (5, ev_18), (6, ev_295), (7, ev_13), (8, ev_283), (11, ev_192), (12, ev_18), (13, ev_11), (15, ev_13), (16, ev_599), (19, ev_192), (20, ev_18), (21, ev_13), (22, ev_586)]
noncomputable def zi_87_1 : ZIs := [(25, ev_192), (26, ev_18), (27, ev_16), (28, ev_197), (29, ev_625), (32, ev_13), (33, ev_373), (36, ev_198), (37, ev_100), (38, ev_614), (41, ev_103), (42, ev_626), (45, ev_13), (46, ev_373), (49, ev_198), (50, ev_100)]
noncomputable def zi_87_2 : ZIs := [(51, ev_13), (52, ev_262), (55, ev_192), (56, ev_18), (57, ev_102), (58, ev_457), (59, ev_13), (60, ev_373), (63, ev_12), (65, ev_100), (66, ev_103), (67, ev_627), (70, ev_13), (71, ev_373), (74, ev_12), (76, ev_13)]
noncomputable def zi_87_3 : ZIs := [(77, ev_373), (80, ev_198), (81, ev_100), (82, ev_13), (83, ev_262), (86, ev_192), (87, ev_18), (88, ev_102), (89, ev_457), (90, ev_194), (91, ev_13), (92, ev_362), (95, ev_12), (97, ev_30), (98, ev_192), (99, ev_355)]
noncomputable def zi_87_4 : ZIs := [(100, ev_299), (101, ev_7), (102, ev_98), (103, ev_13), (104, ev_586), (107, ev_192), (108, ev_18), (109, ev_197), (110, ev_628), (113, ev_13), (114, ev_373), (117, ev_12), (119, ev_100), (120, ev_614), (123, ev_103), (124, ev_629)]
noncomputable def zi_87_5 : ZIs := [(127, ev_13), (128, ev_373), (131, ev_12), (133, ev_100), (134, ev_13), (135, ev_262), (138, ev_192), (139, ev_18), (140, ev_102), (141, ev_485), (142, ev_13), (143, ev_373), (146, ev_198), (147, ev_100), (148, ev_103), (149, ev_630)]
noncomputable def zi_87_6 : ZIs := [(152, ev_13), (153, ev_373), (156, ev_198), (157, ev_13), (158, ev_373), (161, ev_12), (163, ev_100), (164, ev_13), (165, ev_262), (168, ev_192), (169, ev_18), (170, ev_102), (171, ev_485), (172, ev_194), (173, ev_13), (174, ev_362)]
noncomputable def zi_87_7 : ZIs := [(177, ev_198), (178, ev_30), (179, ev_192), (180, ev_355), (181, ev_7), (182, ev_22), (183, ev_299), (184, ev_7), (185, ev_98), (186, ev_10), (187, ev_98)]
set_option maxRecDepth 100000 in
theorem xi_w87 : zall cX2_relaxPipe [zi_87_0, zi_87_1, zi_87_2, zi_87_3, zi_87_4, zi_87_5, zi_87_6, zi_87_7] := zall_w _ _ (by decide +kernel)
noncomputable def xi_87 (pc : Nat) : XIs := cond (Nat.blt pc 100) (cond (Nat.blt pc 51) (cond (Nat.blt pc 25) (zx zi_87_0) (zx zi_87_1)) (cond (Nat.blt pc 77) (zx zi_87_2) (zx zi_87_3))) (cond (Nat.blt pc 152) (cond (Nat.blt pc 127) (zx zi_87_4) (zx zi_87_5)) (cond (Nat.blt pc 177) (zx zi_87_6) (zx zi_87_7)))
theorem xi_ok87 (pc : Nat) : xi_ok cX2_relaxPipe (xi_87 pc) = true := xi_c (xi_c (xi_c (zq1 xi_w87) (zq1 (zq2 xi_w87))) (xi_c (zq1 (zq2 (zq2 xi_w87))) (zq1 (zq2 (zq2 (zq2 xi_w87)))))) (xi_c (xi_c (zq1 (zq2 (zq2 (zq2 (zq2 xi_w87))))) (zq1 (zq2 (zq2 (zq2 (zq2 (zq2 xi_w87))))))) (xi_c (zq1 (zq2 (zq2 (zq2 (zq2 (zq2 (zq2 xi_w87))))))) (zq1 (zq2 (zq2 (zq2 (zq2 (zq2 (zq2 (zq2 xi_w87))))))))))
noncomputable def zi_88_0 : ZIs := [(0, ev_13), (1, ev_575), (4, ev_192), (5, ev_18), (6, ev_310), (7, ev_294), (8, ev_192), (9, ev_295), (10, ev_10), (11, ev_11), (13, ev_12), (15, ev_176), (17, ev_631), (20, ev_13), (21, ev_362), (24, ev_198)]
noncomputable def zi_88_1 : ZIs := [(25, ev_18), (26, ev_252), (27, ev_632), (30, ev_13), (31, ev_362), (34, ev_198), (35, ev_18), (36, ev_7), (37, ev_303), (38, ev_25), (40, ev_13), (41, ev_362), (44, ev_198), (45, ev_18), (46, ev_7), (47, ev_20)]
noncomputable def zi_88_2 : ZIs := [(48, ev_326), (51, ev_7), (52, ev_229), (55, ev_10), (56, ev_28), (58, ev_197), (59, ev_101), (61, ev_333), (64, ev_13), (65, ev_599), (68, ev_96), (70, ev_18), (71, ev_13), (72, ev_586), (75, ev_96), (77, ev_18)]
noncomputable def zi_88_3 : ZIs := [(78, ev_16), (79, ev_633), (82, ev_13), (83, ev_586), (86, ev_96), (88, ev_18), (89, ev_569), (92, ev_294), (93, ev_101), (95, ev_634), (98, ev_13), (99, ev_341), (102, ev_96), (104, ev_18), (105, ev_633), (108, ev_13)]
noncomputable def zi_88_4 : ZIs := [(109, ev_283), (112, ev_96), (114, ev_18), (115, ev_295), (116, ev_348), (119, ev_635), (122, ev_197), (123, ev_13), (124, ev_575), (127, ev_198), (128, ev_18), (129, ev_569), (132, ev_294), (133, ev_13), (134, ev_575), (137, ev_198)]
noncomputable def zi_88_5 : ZIs := [(138, ev_316), (139, ev_18), (140, ev_197), (141, ev_16), (142, ev_299), (143, ev_13), (144, ev_575), (147, ev_192), (148, ev_316), (149, ev_18), (150, ev_197), (151, ev_22), (152, ev_299), (153, ev_192), (154, ev_295), (155, ev_10)]
noncomputable def zi_88_6 : ZIs := [(156, ev_11), (158, ev_12), (160, ev_176), (162, ev_636), (165, ev_13), (166, ev_362), (169, ev_198), (170, ev_18), (171, ev_252), (172, ev_637), (175, ev_13), (176, ev_362), (179, ev_198), (180, ev_18), (181, ev_7), (182, ev_303)]
noncomputable def zi_88_7 : ZIs := [(183, ev_25), (185, ev_13), (186, ev_362), (189, ev_198), (190, ev_18), (191, ev_7), (192, ev_20), (193, ev_326), (196, ev_7), (197, ev_229), (200, ev_10), (201, ev_28), (203, ev_13), (204, ev_586), (207, ev_96), (209, ev_316)]
noncomputable def zi_88_8 : ZIs := [(210, ev_18), (211, ev_101), (213, ev_227), (216, ev_197), (217, ev_638), (220, ev_197), (221, ev_310), (222, ev_22), (223, ev_299), (224, ev_101), (226, ev_634), (229, ev_13), (230, ev_341), (233, ev_96), (235, ev_18), (236, ev_633)]
noncomputable def zi_88_9 : ZIs := [(239, ev_13), (240, ev_283), (243, ev_96), (245, ev_18), (246, ev_295), (247, ev_348), (250, ev_639), (253, ev_13), (254, ev_373), (257, ev_192), (258, ev_100), (259, ev_197), (260, ev_102), (261, ev_492), (262, ev_481)]
set_option maxRecDepth 100000 in
theorem xi_w88 : zall cX2_carryTo [zi_88_0, zi_88_1, zi_88_2, zi_88_3, zi_88_4, zi_88_5, zi_88_6, zi_88_7, zi_88_8, zi_88_9] := zall_w _ _ (by decide +kernel)
noncomputable def xi_88 (pc : Nat) : XIs := cond (Nat.blt pc 138) (cond (Nat.blt pc 48) (cond (Nat.blt pc 25) (zx zi_88_0) (zx zi_88_1)) (cond (Nat.blt pc 78) (zx zi_88_2) (cond (Nat.blt pc 109) (zx zi_88_3) (zx zi_88_4)))) (cond (Nat.blt pc 183) (cond (Nat.blt pc 156) (zx zi_88_5) (zx zi_88_6)) (cond (Nat.blt pc 210) (zx zi_88_7) (cond (Nat.blt pc 239) (zx zi_88_8) (zx zi_88_9))))
theorem xi_ok88 (pc : Nat) : xi_ok cX2_carryTo (xi_88 pc) = true := xi_c (xi_c (xi_c (zq1 xi_w88) (zq1 (zq2 xi_w88))) (xi_c (zq1 (zq2 (zq2 xi_w88))) (xi_c (zq1 (zq2 (zq2 (zq2 xi_w88)))) (zq1 (zq2 (zq2 (zq2 (zq2 xi_w88)))))))) (xi_c (xi_c (zq1 (zq2 (zq2 (zq2 (zq2 (zq2 xi_w88)))))) (zq1 (zq2 (zq2 (zq2 (zq2 (zq2 (zq2 xi_w88)))))))) (xi_c (zq1 (zq2 (zq2 (zq2 (zq2 (zq2 (zq2 (zq2 xi_w88)))))))) (xi_c (zq1 (zq2 (zq2 (zq2 (zq2 (zq2 (zq2 (zq2 (zq2 xi_w88))))))))) (zq1 (zq2 (zq2 (zq2 (zq2 (zq2 (zq2 (zq2 (zq2 (zq2 xi_w88)))))))))))))
noncomputable def zi_89_0 : ZIs := [(0, ev_13), (1, ev_640), (4, ev_21), (5, ev_383), (8, ev_608), (11, ev_260), (12, ev_13), (13, ev_21), (14, ev_383), (17, ev_535), (20, ev_13), (21, ev_10), (22, ev_641), (25, ev_13), (26, ev_230), (27, ev_642)]
noncomputable def zi_89_1 : ZIs := [(30, ev_13), (31, ev_10), (32, ev_587), (35, ev_10), (36, ev_294), (37, ev_197), (38, ev_21), (39, ev_579), (42, ev_643), (45, ev_13), (46, ev_575), (49, ev_197), (50, ev_21), (51, ev_197), (52, ev_644), (55, ev_227)]
noncomputable def zi_89_2 : ZIs := [(58, ev_7), (59, ev_229), (62, ev_252), (63, ev_299), (64, ev_304), (67, ev_645), (70, ev_10), (71, ev_294), (72, ev_197), (73, ev_21), (74, ev_551), (77, ev_646), (80, ev_21), (81, ev_197), (82, ev_396), (85, ev_647)]
noncomputable def zi_89_3 : ZIs := [(88, ev_21), (89, ev_21), (90, ev_554), (93, ev_197), (94, ev_18), (95, ev_644), (98, ev_21), (99, ev_21), (100, ev_555), (103, ev_197), (104, ev_18), (105, ev_644), (108, ev_648), (111, ev_21), (112, ev_21), (113, ev_554)]
noncomputable def zi_89_4 : ZIs := [(116, ev_197), (117, ev_18), (118, ev_644), (121, ev_295), (122, ev_13), (123, ev_198), (124, ev_649), (127, ev_21), (128, ev_554), (131, ev_197), (132, ev_18), (133, ev_195), (136, ev_21), (137, ev_555), (140, ev_197), (141, ev_18)]
noncomputable def zi_89_5 : ZIs := [(142, ev_198), (143, ev_649), (146, ev_21), (147, ev_555), (150, ev_197), (151, ev_18), (152, ev_195), (155, ev_21), (156, ev_554), (159, ev_197), (160, ev_18), (161, ev_21), (162, ev_590), (165, ev_197), (166, ev_18), (167, ev_7)]
noncomputable def zi_89_6 : ZIs := [(168, ev_591), (171, ev_304), (174, ev_650), (177, ev_10), (178, ev_294), (179, ev_197), (180, ev_176), (182, ev_651), (185, ev_13), (186, ev_21), (187, ev_579), (190, ev_7), (191, ev_607), (194, ev_295), (195, ev_198), (196, ev_252)]
noncomputable def zi_89_7 : ZIs := [(197, ev_608), (200, ev_260), (201, ev_13), (202, ev_1), (203, ev_652), (206, ev_13), (207, ev_198), (208, ev_609), (211, ev_457), (212, ev_642), (215, ev_13), (216, ev_1), (217, ev_466), (220, ev_7), (221, ev_22), (222, ev_641)]
noncomputable def zi_89_8 : ZIs := [(225, ev_304), (228, ev_653), (231, ev_260)]
set_option maxRecDepth 100000 in
theorem xi_w89 : zall cX2_pair [zi_89_0, zi_89_1, zi_89_2, zi_89_3, zi_89_4, zi_89_5, zi_89_6, zi_89_7, zi_89_8] := zall_w _ _ (by decide +kernel)
noncomputable def xi_89 (pc : Nat) : XIs := cond (Nat.blt pc 116) (cond (Nat.blt pc 58) (cond (Nat.blt pc 30) (zx zi_89_0) (zx zi_89_1)) (cond (Nat.blt pc 88) (zx zi_89_2) (zx zi_89_3))) (cond (Nat.blt pc 168) (cond (Nat.blt pc 142) (zx zi_89_4) (zx zi_89_5)) (cond (Nat.blt pc 197) (zx zi_89_6) (cond (Nat.blt pc 225) (zx zi_89_7) (zx zi_89_8))))
theorem xi_ok89 (pc : Nat) : xi_ok cX2_pair (xi_89 pc) = true := xi_c (xi_c (xi_c (zq1 xi_w89) (zq1 (zq2 xi_w89))) (xi_c (zq1 (zq2 (zq2 xi_w89))) (zq1 (zq2 (zq2 (zq2 xi_w89)))))) (xi_c (xi_c (zq1 (zq2 (zq2 (zq2 (zq2 xi_w89))))) (zq1 (zq2 (zq2 (zq2 (zq2 (zq2 xi_w89))))))) (xi_c (zq1 (zq2 (zq2 (zq2 (zq2 (zq2 (zq2 xi_w89))))))) (xi_c (zq1 (zq2 (zq2 (zq2 (zq2 (zq2 (zq2 (zq2 xi_w89)))))))) (zq1 (zq2 (zq2 (zq2 (zq2 (zq2 (zq2 (zq2 (zq2 xi_w89))))))))))))
noncomputable def zi_90_0 : ZIs := [(0, ev_13), (1, ev_654), (4, ev_192), (5, ev_18), (6, ev_655), (8, ev_656), (11, ev_7), (12, ev_229), (15, ev_10), (16, ev_98)]
set_option maxRecDepth 100000 in
theorem xi_w90 : zall cX2_isLow [zi_90_0] := zall_w _ _ (by decide +kernel)
noncomputable def xi_90 (pc : Nat) : XIs := zx zi_90_0
theorem xi_ok90 (pc : Nat) : xi_ok cX2_isLow (xi_90 pc) = true := zq1 xi_w90
noncomputable def zi_91_0 : ZIs := [(0, ev_13), (1, ev_251), (4, ev_13), (5, ev_176), (7, ev_255), (9, ev_253), (12, ev_13), (13, ev_529), (16, ev_255), (18, ev_254), (21, ev_13), (22, ev_529), (25, ev_255), (27, ev_256), (30, ev_13), (31, ev_529)]
noncomputable def zi_91_1 : ZIs := [(34, ev_255), (36, ev_657), (39, ev_13), (40, ev_529), (43, ev_255), (45, ev_658), (48, ev_13), (49, ev_529), (52, ev_255), (54, ev_659), (57, ev_13), (58, ev_176), (60, ev_255), (62, ev_660), (65, ev_13), (66, ev_176)]
noncomputable def zi_91_2 : ZIs := [(68, ev_255), (70, ev_661), (73, ev_13), (74, ev_176), (76, ev_255), (78, ev_662), (81, ev_13), (82, ev_525), (84, ev_255), (86, ev_265), (89, ev_13), (90, ev_529), (93, ev_255), (95, ev_663), (98, ev_13), (99, ev_525)]
noncomputable def zi_91_3 : ZIs := [(101, ev_255), (103, ev_664), (106, ev_13), (107, ev_529), (110, ev_255), (112, ev_665), (115, ev_13), (116, ev_252), (117, ev_666), (120, ev_13), (121, ev_280), (124, ev_252), (125, ev_667), (128, ev_260)]
set_option maxRecDepth 100000 in
theorem xi_w91 : zall cX3_init [zi_91_0, zi_91_1, zi_91_2, zi_91_3] := zall_w _ _ (by decide +kernel)
noncomputable def xi_91 (pc : Nat) : XIs := cond (Nat.blt pc 68) (cond (Nat.blt pc 34) (zx zi_91_0) (zx zi_91_1)) (cond (Nat.blt pc 101) (zx zi_91_2) (zx zi_91_3))
theorem xi_ok91 (pc : Nat) : xi_ok cX3_init (xi_91 pc) = true := xi_c (xi_c (zq1 xi_w91) (zq1 (zq2 xi_w91))) (xi_c (zq1 (zq2 (zq2 xi_w91))) (zq1 (zq2 (zq2 (zq2 xi_w91)))))
noncomputable def zi_92_0 : ZIs := [(0, ev_13), (1, ev_10), (2, ev_544), (5, ev_13), (6, ev_10), (7, ev_668), (10, ev_13), (11, ev_10), (12, ev_669), (15, ev_13), (16, ev_10), (17, ev_670), (20, ev_13), (21, ev_252), (22, ev_666), (25, ev_13)]
noncomputable def zi_92_1 : ZIs := [(26, ev_280), (29, ev_252), (30, ev_667), (33, ev_260)]
set_option maxRecDepth 100000 in
theorem xi_w92 : zall cX3_clear [zi_92_0, zi_92_1] := zall_w _ _ (by decide +kernel)
noncomputable def xi_92 (pc : Nat) : XIs := cond (Nat.blt pc 26) (zx zi_92_0) (zx zi_92_1)
theorem xi_ok92 (pc : Nat) : xi_ok cX3_clear (xi_92 pc) = true := xi_c (zq1 xi_w92) (zq1 (zq2 xi_w92))
noncomputable def zi_93_0 : ZIs := [(0, ev_13), (1, ev_21), (2, ev_541), (5, ev_544), (8, ev_13), (9, ev_21), (10, ev_671), (13, ev_668), (16, ev_13), (17, ev_21), (18, ev_672), (21, ev_669), (24, ev_13), (25, ev_21), (26, ev_673), (29, ev_670)]
noncomputable def zi_93_1 : ZIs := [(32, ev_13), (33, ev_252), (34, ev_666), (37, ev_21), (38, ev_261), (41, ev_10), (42, ev_13), (43, ev_261), (46, ev_10), (47, ev_176), (49, ev_674), (52, ev_21), (53, ev_280), (56, ev_10), (57, ev_13), (58, ev_280)]
noncomputable def zi_93_2 : ZIs := [(61, ev_10), (62, ev_529), (65, ev_674), (68, ev_21), (69, ev_287), (72, ev_10), (73, ev_13), (74, ev_287), (77, ev_10), (78, ev_529), (81, ev_674), (84, ev_21), (85, ev_675), (88, ev_10), (89, ev_13), (90, ev_675)]
noncomputable def zi_93_3 : ZIs := [(93, ev_10), (94, ev_529), (97, ev_674), (100, ev_21), (101, ev_676), (104, ev_10), (105, ev_13), (106, ev_676), (109, ev_10), (110, ev_529), (113, ev_674), (116, ev_21), (117, ev_677), (120, ev_10), (121, ev_13), (122, ev_677)]
noncomputable def zi_93_4 : ZIs := [(125, ev_10), (126, ev_529), (129, ev_674), (132, ev_260)]
set_option maxRecDepth 100000 in
theorem xi_w93 : zall cX3_copyOf [zi_93_0, zi_93_1, zi_93_2, zi_93_3, zi_93_4] := zall_w _ _ (by decide +kernel)
noncomputable def xi_93 (pc : Nat) : XIs := cond (Nat.blt pc 61) (cond (Nat.blt pc 32) (zx zi_93_0) (zx zi_93_1)) (cond (Nat.blt pc 93) (zx zi_93_2) (cond (Nat.blt pc 125) (zx zi_93_3) (zx zi_93_4)))
theorem xi_ok93 (pc : Nat) : xi_ok cX3_copyOf (xi_93 pc) = true := xi_c (xi_c (zq1 xi_w93) (zq1 (zq2 xi_w93))) (xi_c (zq1 (zq2 (zq2 xi_w93))) (xi_c (zq1 (zq2 (zq2 (zq2 xi_w93)))) (zq1 (zq2 (zq2 (zq2 (zq2 xi_w93)))))))
noncomputable def zi_94_0 : ZIs := [(0, ev_192), (1, ev_678), (4, ev_192), (5, ev_13), (6, ev_671), (9, ev_656), (12, ev_7), (13, ev_229), (16, ev_10), (17, ev_98)]
set_option maxRecDepth 100000 in
theorem xi_w94 : zall cX3_hasNode [zi_94_0] := zall_w _ _ (by decide +kernel)
noncomputable def xi_94 (pc : Nat) : XIs := zx zi_94_0
theorem xi_ok94 (pc : Nat) : xi_ok cX3_hasNode (xi_94 pc) = true := zq1 xi_w94
noncomputable def zi_95_0 : ZIs := [(0, ev_13), (1, ev_192), (2, ev_679), (5, ev_680), (8, ev_13), (9, ev_197), (10, ev_679), (13, ev_649), (16, ev_192), (17, ev_197), (18, ev_681), (21, ev_7), (22, ev_229), (25, ev_10), (26, ev_98)]
set_option maxRecDepth 100000 in
theorem xi_w95 : zall cX3_hasTwo [zi_95_0] := zall_w _ _ (by decide +kernel)
noncomputable def xi_95 (pc : Nat) : XIs := zx zi_95_0
theorem xi_ok95 (pc : Nat) : xi_ok cX3_hasTwo (xi_95 pc) = true := zq1 xi_w95
noncomputable def zi_96_0 : ZIs := [(0, ev_192), (1, ev_682), (4, ev_192), (5, ev_13), (6, ev_673), (9, ev_683), (12, ev_13), (13, ev_280), (16, ev_192), (17, ev_18), (18, ev_252), (19, ev_681), (22, ev_7), (23, ev_229), (26, ev_10), (27, ev_98)]
set_option maxRecDepth 100000 in
theorem xi_w96 : zall cX3_hasArc [zi_96_0] := zall_w _ _ (by decide +kernel)
noncomputable def xi_96 (pc : Nat) : XIs := zx zi_96_0
theorem xi_ok96 (pc : Nat) : xi_ok cX3_hasArc (xi_96 pc) = true := zq1 xi_w96
noncomputable def zi_97_0 : ZIs := [(0, ev_13), (1, ev_280), (4, ev_192), (5, ev_18), (6, ev_252), (7, ev_684), (10, ev_13), (11, ev_280), (14, ev_192), (15, ev_18), (16, ev_13), (17, ev_287), (20, ev_192), (21, ev_18), (22, ev_681), (25, ev_7)]
noncomputable def zi_97_1 : ZIs := [(26, ev_229), (29, ev_10), (30, ev_98)]
set_option maxRecDepth 100000 in
theorem xi_w97 : zall cX3_isJoint [zi_97_0, zi_97_1] := zall_w _ _ (by decide +kernel)
noncomputable def xi_97 (pc : Nat) : XIs := cond (Nat.blt pc 26) (zx zi_97_0) (zx zi_97_1)
theorem xi_ok97 (pc : Nat) : xi_ok cX3_isJoint (xi_97 pc) = true := xi_c (zq1 xi_w97) (zq1 (zq2 xi_w97))
noncomputable def zi_98_0 : ZIs := [(0, ev_10), (1, ev_685), (2, ev_10), (3, ev_294), (4, ev_197), (5, ev_13), (6, ev_673), (9, ev_686), (12, ev_13), (13, ev_197), (14, ev_232), (17, ev_687), (20, ev_688), (23, ev_304), (26, ev_624), (29, ev_192)]
noncomputable def zi_98_1 : ZIs := [(30, ev_98)]
set_option maxRecDepth 100000 in
theorem xi_w98 : zall cX3_joints [zi_98_0, zi_98_1] := zall_w _ _ (by decide +kernel)
noncomputable def xi_98 (pc : Nat) : XIs := cond (Nat.blt pc 30) (zx zi_98_0) (zx zi_98_1)
theorem xi_ok98 (pc : Nat) : xi_ok cX3_joints (xi_98 pc) = true := xi_c (zq1 xi_w98) (zq1 (zq2 xi_w98))
noncomputable def zi_99_0 : ZIs := [(0, ev_21), (1, ev_10), (2, ev_667), (5, ev_10), (6, ev_294), (7, ev_197), (8, ev_13), (9, ev_673), (12, ev_689), (15, ev_13), (16, ev_197), (17, ev_232), (20, ev_561), (23, ev_21), (24, ev_13), (25, ev_280)]
noncomputable def zi_99_1 : ZIs := [(28, ev_197), (29, ev_18), (30, ev_316), (31, ev_18), (32, ev_7), (33, ev_22), (34, ev_299), (35, ev_21), (36, ev_13), (37, ev_287), (40, ev_197), (41, ev_18), (42, ev_316), (43, ev_18), (44, ev_7), (45, ev_22)]
noncomputable def zi_99_2 : ZIs := [(46, ev_299), (47, ev_304), (50, ev_408), (53, ev_260)]
set_option maxRecDepth 100000 in
theorem xi_w99 : zall cX3_countJoints [zi_99_0, zi_99_1, zi_99_2] := zall_w _ _ (by decide +kernel)
noncomputable def xi_99 (pc : Nat) : XIs := cond (Nat.blt pc 28) (zx zi_99_0) (cond (Nat.blt pc 46) (zx zi_99_1) (zx zi_99_2))
theorem xi_ok99 (pc : Nat) : xi_ok cX3_countJoints (xi_99 pc) = true := xi_c (zq1 xi_w99) (xi_c (zq1 (zq2 xi_w99)) (zq1 (zq2 (zq2 xi_w99))))
noncomputable def zi_100_0 : ZIs := [(0, ev_197), (1, ev_381), (4, ev_13), (5, ev_675), (8, ev_192), (9, ev_18), (10, ev_98), (11, ev_197), (12, ev_7), (13, ev_690), (16, ev_13), (17, ev_676), (20, ev_192), (21, ev_18), (22, ev_195), (25, ev_13)]
noncomputable def zi_100_1 : ZIs := [(26, ev_677), (29, ev_192), (30, ev_18), (31, ev_98)]
set_option maxRecDepth 100000 in
theorem xi_w100 : zall cX3_valueOf [zi_100_0, zi_100_1] := zall_w _ _ (by decide +kernel)
noncomputable def xi_100 (pc : Nat) : XIs := cond (Nat.blt pc 26) (zx zi_100_0) (zx zi_100_1)
theorem xi_ok100 (pc : Nat) : xi_ok cX3_valueOf (xi_100 pc) = true := xi_c (zq1 xi_w100) (zq1 (zq2 xi_w100))
noncomputable def zi_101_0 : ZIs := [(0, ev_10), (1, ev_685), (2, ev_192), (3, ev_529), (6, ev_364), (9, ev_13), (10, ev_280), (13, ev_192), (14, ev_18), (15, ev_252), (16, ev_691), (19, ev_192), (20, ev_98), (21, ev_688), (24, ev_624), (27, ev_252)]
noncomputable def zi_101_1 : ZIs := [(28, ev_98)]
set_option maxRecDepth 100000 in
theorem xi_w101 : zall cX3_freePlace [zi_101_0, zi_101_1] := zall_w _ _ (by decide +kernel)
noncomputable def xi_101 (pc : Nat) : XIs := cond (Nat.blt pc 28) (zx zi_101_0) (zx zi_101_1)
theorem xi_ok101 (pc : Nat) : xi_ok cX3_freePlace (xi_101 pc) = true := xi_c (zq1 xi_w101) (zq1 (zq2 xi_w101))
noncomputable def zi_102_0 : ZIs := [(0, ev_13), (1, ev_671), (4, ev_176), (6, ev_613), (9, ev_252), (10, ev_200), (13, ev_7), (14, ev_13), (15, ev_671), (18, ev_277), (19, ev_7), (20, ev_16), (21, ev_98)]
set_option maxRecDepth 100000 in
theorem xi_w102 : zall cX3_allNodes [zi_102_0] := zall_w _ _ (by decide +kernel)
noncomputable def xi_102 (pc : Nat) : XIs := zx zi_102_0
theorem xi_ok102 (pc : Nat) : xi_ok cX3_allNodes (xi_102 pc) = true := zq1 xi_w102
noncomputable def zi_103_0 : ZIs := [(0, ev_13), (1, ev_268), (4, ev_192), (5, ev_7), (6, ev_22), (7, ev_18), (8, ev_13), (9, ev_268), (12, ev_192), (13, ev_18), (14, ev_16), (15, ev_98)]
set_option maxRecDepth 100000 in
theorem xi_w103 : zall cX3_outCount [zi_103_0] := zall_w _ _ (by decide +kernel)
noncomputable def xi_103 (pc : Nat) : XIs := zx zi_103_0
theorem xi_ok103 (pc : Nat) : xi_ok cX3_outCount (xi_103 pc) = true := zq1 xi_w103
noncomputable def zi_104_0 : ZIs := [(0, ev_13), (1, ev_692), (4, ev_192), (5, ev_7), (6, ev_22), (7, ev_18), (8, ev_13), (9, ev_692), (12, ev_192), (13, ev_18), (14, ev_16), (15, ev_98)]
set_option maxRecDepth 100000 in
theorem xi_w104 : zall cX3_inCount [zi_104_0] := zall_w _ _ (by decide +kernel)
noncomputable def xi_104 (pc : Nat) : XIs := zx zi_104_0
theorem xi_ok104 (pc : Nat) : xi_ok cX3_inCount (xi_104 pc) = true := zq1 xi_w104
noncomputable def zi_105_0 : ZIs := [(0, ev_13), (1, ev_280), (4, ev_192), (5, ev_252), (6, ev_299), (7, ev_13), (8, ev_1), (9, ev_672), (12, ev_7), (13, ev_16), (14, ev_669), (17, ev_13), (18, ev_673), (21, ev_500), (24, ev_13), (25, ev_280)]
noncomputable def zi_105_1 : ZIs := [(28, ev_13), (29, ev_673), (32, ev_7), (33, ev_16), (34, ev_18), (35, ev_252), (36, ev_538), (39, ev_13), (40, ev_1), (41, ev_673), (44, ev_7), (45, ev_16), (46, ev_670), (49, ev_693), (52, ev_260)]
set_option maxRecDepth 100000 in
theorem xi_w105 : zall cX3_dropAt [zi_105_0, zi_105_1] := zall_w _ _ (by decide +kernel)
noncomputable def xi_105 (pc : Nat) : XIs := cond (Nat.blt pc 28) (zx zi_105_0) (zx zi_105_1)
theorem xi_ok105 (pc : Nat) : xi_ok cX3_dropAt (xi_105 pc) = true := xi_c (zq1 xi_w105) (zq1 (zq2 xi_w105))
noncomputable def zi_106_0 : ZIs := [(0, ev_13), (1, ev_694), (4, ev_13), (5, ev_541), (8, ev_608), (11, ev_260), (12, ev_13), (13, ev_13), (14, ev_541), (17, ev_666), (20, ev_13), (21, ev_695), (24, ev_10), (25, ev_667), (28, ev_13), (29, ev_696)]
noncomputable def zi_106_1 : ZIs := [(32, ev_10), (33, ev_667), (36, ev_13), (37, ev_697), (40, ev_10), (41, ev_667), (44, ev_13), (45, ev_268), (48, ev_10), (49, ev_667), (52, ev_13), (53, ev_692), (56, ev_10), (57, ev_667), (60, ev_10), (61, ev_685)]
noncomputable def zi_106_2 : ZIs := [(62, ev_192), (63, ev_13), (64, ev_673), (67, ev_297), (70, ev_13), (71, ev_280), (74, ev_192), (75, ev_18), (76, ev_252), (77, ev_698), (80, ev_13), (81, ev_13), (82, ev_280), (85, ev_192), (86, ev_18), (87, ev_13)]
noncomputable def zi_106_3 : ZIs := [(88, ev_287), (91, ev_192), (92, ev_18), (93, ev_233), (96, ev_688), (99, ev_301), (102, ev_7), (103, ev_685), (104, ev_192), (105, ev_176), (107, ev_620), (110, ev_13), (111, ev_268), (114, ev_192), (115, ev_316), (116, ev_18)]
noncomputable def zi_106_4 : ZIs := [(117, ev_13), (118, ev_268), (121, ev_192), (122, ev_7), (123, ev_16), (124, ev_18), (125, ev_22), (126, ev_299), (127, ev_13), (128, ev_692), (131, ev_192), (132, ev_316), (133, ev_18), (134, ev_13), (135, ev_692), (138, ev_192)]
noncomputable def zi_106_5 : ZIs := [(139, ev_7), (140, ev_16), (141, ev_18), (142, ev_22), (143, ev_299), (144, ev_688), (147, ev_408), (150, ev_13), (151, ev_673), (154, ev_7), (155, ev_16), (156, ev_685), (157, ev_192), (158, ev_699), (161, ev_13), (162, ev_280)]
noncomputable def zi_106_6 : ZIs := [(165, ev_192), (166, ev_18), (167, ev_252), (168, ev_700), (171, ev_13), (172, ev_268), (175, ev_13), (176, ev_280), (179, ev_192), (180, ev_18), (181, ev_316), (182, ev_18), (183, ev_7), (184, ev_16), (185, ev_299), (186, ev_13)]
noncomputable def zi_106_7 : ZIs := [(187, ev_266), (190, ev_13), (191, ev_268), (194, ev_13), (195, ev_280), (198, ev_192), (199, ev_18), (200, ev_18), (201, ev_192), (202, ev_299), (203, ev_13), (204, ev_692), (207, ev_13), (208, ev_287), (211, ev_192), (212, ev_18)]
noncomputable def zi_106_8 : ZIs := [(213, ev_316), (214, ev_18), (215, ev_7), (216, ev_16), (217, ev_299), (218, ev_13), (219, ev_701), (222, ev_13), (223, ev_692), (226, ev_13), (227, ev_287), (230, ev_192), (231, ev_18), (232, ev_18), (233, ev_192), (234, ev_299)]
noncomputable def zi_106_9 : ZIs := [(235, ev_702), (238, ev_441), (241, ev_260)]
set_option maxRecDepth 100000 in
theorem xi_w106 : zall cX3_tie [zi_106_0, zi_106_1, zi_106_2, zi_106_3, zi_106_4, zi_106_5, zi_106_6, zi_106_7, zi_106_8, zi_106_9] := zall_w _ _ (by decide +kernel)
noncomputable def xi_106 (pc : Nat) : XIs := cond (Nat.blt pc 139) (cond (Nat.blt pc 62) (cond (Nat.blt pc 32) (zx zi_106_0) (zx zi_106_1)) (cond (Nat.blt pc 88) (zx zi_106_2) (cond (Nat.blt pc 117) (zx zi_106_3) (zx zi_106_4)))) (cond (Nat.blt pc 187) (cond (Nat.blt pc 165) (zx zi_106_5) (zx zi_106_6)) (cond (Nat.blt pc 213) (zx zi_106_7) (cond (Nat.blt pc 235) (zx zi_106_8) (zx zi_106_9))))
theorem xi_ok106 (pc : Nat) : xi_ok cX3_tie (xi_106 pc) = true := xi_c (xi_c (xi_c (zq1 xi_w106) (zq1 (zq2 xi_w106))) (xi_c (zq1 (zq2 (zq2 xi_w106))) (xi_c (zq1 (zq2 (zq2 (zq2 xi_w106)))) (zq1 (zq2 (zq2 (zq2 (zq2 xi_w106)))))))) (xi_c (xi_c (zq1 (zq2 (zq2 (zq2 (zq2 (zq2 xi_w106)))))) (zq1 (zq2 (zq2 (zq2 (zq2 (zq2 (zq2 xi_w106)))))))) (xi_c (zq1 (zq2 (zq2 (zq2 (zq2 (zq2 (zq2 (zq2 xi_w106)))))))) (xi_c (zq1 (zq2 (zq2 (zq2 (zq2 (zq2 (zq2 (zq2 (zq2 xi_w106))))))))) (zq1 (zq2 (zq2 (zq2 (zq2 (zq2 (zq2 (zq2 (zq2 (zq2 xi_w106)))))))))))))
noncomputable def zi_107_0 : ZIs := [(0, ev_13), (1, ev_268), (4, ev_192), (5, ev_316), (6, ev_18), (7, ev_7), (8, ev_22), (9, ev_299), (10, ev_13), (11, ev_692), (14, ev_197), (15, ev_316), (16, ev_18), (17, ev_7), (18, ev_22), (19, ev_299)]
noncomputable def zi_107_1 : ZIs := [(20, ev_13), (21, ev_696), (24, ev_192), (25, ev_316), (26, ev_18), (27, ev_7), (28, ev_197), (29, ev_277), (30, ev_278), (31, ev_299), (32, ev_13), (33, ev_697), (36, ev_197), (37, ev_316), (38, ev_18), (39, ev_7)]
noncomputable def zi_107_2 : ZIs := [(40, ev_192), (41, ev_277), (42, ev_278), (43, ev_299), (44, ev_192), (45, ev_197), (46, ev_703), (49, ev_13), (50, ev_695), (53, ev_192), (54, ev_316), (55, ev_18), (56, ev_7), (57, ev_197), (58, ev_277), (59, ev_278)]
noncomputable def zi_107_3 : ZIs := [(60, ev_299), (61, ev_13), (62, ev_695), (65, ev_197), (66, ev_316), (67, ev_18), (68, ev_7), (69, ev_192), (70, ev_277), (71, ev_278), (72, ev_299), (73, ev_260)]
set_option maxRecDepth 100000 in
theorem xi_w107 : zall cX3_tieEnds [zi_107_0, zi_107_1, zi_107_2, zi_107_3] := zall_w _ _ (by decide +kernel)
noncomputable def xi_107 (pc : Nat) : XIs := cond (Nat.blt pc 40) (cond (Nat.blt pc 20) (zx zi_107_0) (zx zi_107_1)) (cond (Nat.blt pc 60) (zx zi_107_2) (zx zi_107_3))
theorem xi_ok107 (pc : Nat) : xi_ok cX3_tieEnds (xi_107 pc) = true := xi_c (xi_c (zq1 xi_w107) (zq1 (zq2 xi_w107))) (xi_c (zq1 (zq2 (zq2 xi_w107))) (zq1 (zq2 (zq2 (zq2 xi_w107)))))
noncomputable def zi_108_0 : ZIs := [(0, ev_13), (1, ev_251), (4, ev_13), (5, ev_252), (6, ev_253), (9, ev_13), (10, ev_176), (12, ev_8), (14, ev_254), (17, ev_13), (18, ev_176), (20, ev_8), (22, ev_368), (25, ev_13), (26, ev_252), (27, ev_257)]
noncomputable def zi_108_1 : ZIs := [(30, ev_13), (31, ev_176), (33, ev_255), (35, ev_258), (38, ev_13), (39, ev_176), (41, ev_255), (43, ev_370), (46, ev_13), (47, ev_176), (49, ev_255), (51, ev_371), (54, ev_13), (55, ev_176), (57, ev_255), (59, ev_372)]
noncomputable def zi_108_2 : ZIs := [(62, ev_13), (63, ev_176), (65, ev_255), (67, ev_704), (70, ev_260)]
set_option maxRecDepth 100000 in
theorem xi_w108 : zall cX4_init [zi_108_0, zi_108_1, zi_108_2] := zall_w _ _ (by decide +kernel)
noncomputable def xi_108 (pc : Nat) : XIs := cond (Nat.blt pc 30) (zx zi_108_0) (cond (Nat.blt pc 62) (zx zi_108_1) (zx zi_108_2))
theorem xi_ok108 (pc : Nat) : xi_ok cX4_init (xi_108 pc) = true := xi_c (zq1 xi_w108) (xi_c (zq1 (zq2 xi_w108)) (zq1 (zq2 (zq2 xi_w108))))
noncomputable def zi_109_0 : ZIs := [(0, ev_13), (1, ev_261), (4, ev_21), (5, ev_705), (8, ev_706), (11, ev_198), (12, ev_13), (13, ev_707), (16, ev_359), (19, ev_13), (20, ev_21), (21, ev_705), (24, ev_253), (27, ev_13), (28, ev_10), (29, ev_708)]
noncomputable def zi_109_1 : ZIs := [(32, ev_13), (33, ev_280), (36, ev_709), (39, ev_710), (42, ev_21), (43, ev_218), (46, ev_13), (47, ev_707), (50, ev_198), (51, ev_364), (54, ev_13), (55, ev_21), (56, ev_219), (59, ev_13), (60, ev_1), (61, ev_707)]
noncomputable def zi_109_2 : ZIs := [(64, ev_7), (65, ev_22), (66, ev_708), (69, ev_711), (72, ev_13), (73, ev_280), (76, ev_197), (77, ev_100), (78, ev_481)]
set_option maxRecDepth 100000 in
theorem xi_w109 : zall cX4_unitsOf [zi_109_0, zi_109_1, zi_109_2] := zall_w _ _ (by decide +kernel)
noncomputable def xi_109 (pc : Nat) : XIs := cond (Nat.blt pc 32) (zx zi_109_0) (cond (Nat.blt pc 64) (zx zi_109_1) (zx zi_109_2))
theorem xi_ok109 (pc : Nat) : xi_ok cX4_unitsOf (xi_109 pc) = true := xi_c (zq1 xi_w109) (xi_c (zq1 (zq2 xi_w109)) (zq1 (zq2 (zq2 xi_w109))))
noncomputable def zi_110_0 : ZIs := [(0, ev_230), (1, ev_517), (2, ev_13), (3, ev_440), (6, ev_230), (7, ev_710), (10, ev_10), (11, ev_11), (13, ev_12), (15, ev_21), (16, ev_671), (19, ev_556), (22, ev_21), (23, ev_12), (25, ev_712), (28, ev_25)]
noncomputable def zi_110_1 : ZIs := [(30, ev_96), (32, ev_326), (35, ev_230), (36, ev_713), (39, ev_13), (40, ev_280), (43, ev_12), (45, ev_100), (46, ev_714), (49, ev_492), (50, ev_715), (53, ev_96), (55, ev_102), (56, ev_492), (57, ev_490), (58, ev_58)]
noncomputable def zi_110_2 : ZIs := [(60, ev_21), (61, ev_716), (64, ev_12), (66, ev_18), (67, ev_313), (69, ev_314), (71, ev_21), (72, ev_716), (75, ev_12), (77, ev_7), (78, ev_22), (79, ev_18), (80, ev_585), (83, ev_13), (84, ev_440), (87, ev_21)]
noncomputable def zi_110_3 : ZIs := [(88, ev_717), (91, ev_21), (92, ev_718), (95, ev_314), (97, ev_18), (98, ev_18), (99, ev_316), (100, ev_100), (101, ev_460), (103, ev_457), (104, ev_194), (105, ev_318), (108, ev_719), (111, ev_489), (112, ev_13), (113, ev_280)]
noncomputable def zi_110_4 : ZIs := [(116, ev_12), (118, ev_100), (119, ev_460), (121, ev_96), (123, ev_102), (124, ev_492), (125, ev_485), (126, ev_457), (127, ev_517), (128, ev_348), (131, ev_720), (134, ev_10), (135, ev_11), (137, ev_12), (139, ev_21), (140, ev_671)]
noncomputable def zi_110_5 : ZIs := [(143, ev_721), (146, ev_13), (147, ev_440), (150, ev_12), (152, ev_316), (153, ev_100), (154, ev_489), (155, ev_21), (156, ev_671), (159, ev_102), (160, ev_490), (161, ev_12), (163, ev_102), (164, ev_489), (165, ev_21), (166, ev_671)]
noncomputable def zi_110_6 : ZIs := [(169, ev_102), (170, ev_527), (171, ev_103), (172, ev_486), (175, ev_228), (176, ev_229), (179, ev_230), (180, ev_457), (181, ev_457), (182, ev_194), (183, ev_348), (186, ev_653), (189, ev_13), (190, ev_280), (193, ev_207), (195, ev_13)]
noncomputable def zi_110_7 : ZIs := [(196, ev_13), (197, ev_440), (200, ev_254), (203, ev_13), (204, ev_203), (206, ev_368), (209, ev_260)]
set_option maxRecDepth 100000 in
theorem xi_w110 : zall cX4_shareOut [zi_110_0, zi_110_1, zi_110_2, zi_110_3, zi_110_4, zi_110_5, zi_110_6, zi_110_7] := zall_w _ _ (by decide +kernel)
noncomputable def xi_110 (pc : Nat) : XIs := cond (Nat.blt pc 116) (cond (Nat.blt pc 60) (cond (Nat.blt pc 30) (zx zi_110_0) (zx zi_110_1)) (cond (Nat.blt pc 88) (zx zi_110_2) (zx zi_110_3))) (cond (Nat.blt pc 169) (cond (Nat.blt pc 143) (zx zi_110_4) (zx zi_110_5)) (cond (Nat.blt pc 196) (zx zi_110_6) (zx zi_110_7)))
theorem xi_ok110 (pc : Nat) : xi_ok cX4_shareOut (xi_110 pc) = true := xi_c (xi_c (xi_c (zq1 xi_w110) (zq1 (zq2 xi_w110))) (xi_c (zq1 (zq2 (zq2 xi_w110))) (zq1 (zq2 (zq2 (zq2 xi_w110)))))) (xi_c (xi_c (zq1 (zq2 (zq2 (zq2 (zq2 xi_w110))))) (zq1 (zq2 (zq2 (zq2 (zq2 (zq2 xi_w110))))))) (xi_c (zq1 (zq2 (zq2 (zq2 (zq2 (zq2 (zq2 xi_w110))))))) (zq1 (zq2 (zq2 (zq2 (zq2 (zq2 (zq2 (zq2 xi_w110))))))))))
noncomputable def zi_111_0 : ZIs := [(0, ev_13), (1, ev_21), (2, ev_395), (5, ev_13), (6, ev_465), (9, ev_13), (10, ev_341), (13, ev_197), (14, ev_18), (15, ev_18), (16, ev_722), (19, ev_98)]
set_option maxRecDepth 100000 in
theorem xi_w111 : zall cX4_groupOf [zi_111_0] := zall_w _ _ (by decide +kernel)
noncomputable def xi_111 (pc : Nat) : XIs := zx zi_111_0
theorem xi_ok111 (pc : Nat) : xi_ok cX4_groupOf (xi_111 pc) = true := zq1 xi_w111
noncomputable def zi_112_0 : ZIs := [(0, ev_13), (1, ev_21), (2, ev_395), (5, ev_230), (6, ev_517), (7, ev_10), (8, ev_11), (10, ev_12), (12, ev_21), (13, ev_723), (16, ev_724), (19, ev_21), (20, ev_12), (22, ev_725), (25, ev_726), (28, ev_13)]
noncomputable def zi_112_1 : ZIs := [(29, ev_341), (32, ev_21), (33, ev_555), (36, ev_12), (38, ev_18), (39, ev_18), (40, ev_13), (41, ev_341), (44, ev_21), (45, ev_717), (48, ev_12), (50, ev_18), (51, ev_18), (52, ev_727), (55, ev_489), (56, ev_728)]
noncomputable def zi_112_2 : ZIs := [(59, ev_13), (60, ev_729), (63, ev_102), (64, ev_492), (65, ev_457), (66, ev_517), (67, ev_348), (70, ev_619), (73, ev_10), (74, ev_11), (76, ev_12), (78, ev_21), (79, ev_671), (82, ev_511), (85, ev_489), (86, ev_13)]
noncomputable def zi_112_3 : ZIs := [(87, ev_434), (90, ev_12), (92, ev_18), (93, ev_102), (94, ev_13), (95, ev_430), (98, ev_13), (99, ev_341), (102, ev_12), (104, ev_18), (105, ev_18), (106, ev_13), (107, ev_434), (110, ev_12), (112, ev_18), (113, ev_16)]
noncomputable def zi_112_4 : ZIs := [(114, ev_102), (115, ev_492), (116, ev_485), (117, ev_517), (118, ev_348), (121, ev_730), (124, ev_489), (125, ev_481)]
set_option maxRecDepth 100000 in
theorem xi_w112 : zall cX4_totalGain [zi_112_0, zi_112_1, zi_112_2, zi_112_3, zi_112_4] := zall_w _ _ (by decide +kernel)
noncomputable def xi_112 (pc : Nat) : XIs := cond (Nat.blt pc 59) (cond (Nat.blt pc 29) (zx zi_112_0) (zx zi_112_1)) (cond (Nat.blt pc 87) (zx zi_112_2) (cond (Nat.blt pc 114) (zx zi_112_3) (zx zi_112_4)))
theorem xi_ok112 (pc : Nat) : xi_ok cX4_totalGain (xi_112 pc) = true := xi_c (xi_c (zq1 xi_w112) (zq1 (zq2 xi_w112))) (xi_c (zq1 (zq2 (zq2 xi_w112))) (xi_c (zq1 (zq2 (zq2 (zq2 xi_w112)))) (zq1 (zq2 (zq2 (zq2 (zq2 xi_w112)))))))
noncomputable def zi_113_0 : ZIs := [(0, ev_13), (1, ev_362), (4, ev_21), (5, ev_705), (8, ev_608), (11, ev_260), (12, ev_13), (13, ev_21), (14, ev_705), (17, ev_257), (20, ev_13), (21, ev_21), (22, ev_731), (25, ev_7), (26, ev_294), (27, ev_10)]
noncomputable def zi_113_1 : ZIs := [(28, ev_295), (29, ev_198), (30, ev_732), (32, ev_404), (35, ev_197), (36, ev_621), (39, ev_10), (40, ev_294), (41, ev_10), (42, ev_11), (44, ev_12), (46, ev_21), (47, ev_671), (50, ev_622), (53, ev_197), (54, ev_13)]
noncomputable def zi_113_2 : ZIs := [(55, ev_21), (56, ev_12), (58, ev_733), (61, ev_278), (62, ev_294), (63, ev_348), (66, ev_624), (69, ev_300), (72, ev_408), (75, ev_260)]
set_option maxRecDepth 100000 in
theorem xi_w113 : zall cX4_settle [zi_113_0, zi_113_1, zi_113_2] := zall_w _ _ (by decide +kernel)
noncomputable def xi_113 (pc : Nat) : XIs := cond (Nat.blt pc 28) (zx zi_113_0) (cond (Nat.blt pc 55) (zx zi_113_1) (zx zi_113_2))
theorem xi_ok113 (pc : Nat) : xi_ok cX4_settle (xi_113 pc) = true := xi_c (zq1 xi_w113) (xi_c (zq1 (zq2 xi_w113)) (zq1 (zq2 (zq2 xi_w113))))
noncomputable def zi_114_0 : ZIs := [(0, ev_21), (1, ev_218), (4, ev_13), (5, ev_21), (6, ev_323), (9, ev_734), (12, ev_21), (13, ev_13), (14, ev_434), (17, ev_735), (20, ev_13), (21, ev_465), (24, ev_10), (25, ev_736), (28, ev_10), (29, ev_294)]
noncomputable def zi_114_1 : ZIs := [(30, ev_197), (31, ev_21), (32, ev_671), (35, ev_737), (38, ev_13), (39, ev_341), (42, ev_197), (43, ev_197), (44, ev_299), (45, ev_13), (46, ev_465), (49, ev_197), (50, ev_7), (51, ev_197), (52, ev_277), (53, ev_299)]
noncomputable def zi_114_2 : ZIs := [(54, ev_13), (55, ev_430), (58, ev_197), (59, ev_13), (60, ev_434), (63, ev_197), (64, ev_18), (65, ev_299), (66, ev_304), (69, ev_719), (72, ev_260)]
set_option maxRecDepth 100000 in
theorem xi_w114 : zall cX4_begin [zi_114_0, zi_114_1, zi_114_2] := zall_w _ _ (by decide +kernel)
noncomputable def xi_114 (pc : Nat) : XIs := cond (Nat.blt pc 30) (zx zi_114_0) (cond (Nat.blt pc 54) (zx zi_114_1) (zx zi_114_2))
theorem xi_ok114 (pc : Nat) : xi_ok cX4_begin (xi_114 pc) = true := xi_c (zq1 xi_w114) (xi_c (zq1 (zq2 xi_w114)) (zq1 (zq2 (zq2 xi_w114))))
noncomputable def zi_115_0 : ZIs := [(0, ev_13), (1, ev_21), (2, ev_197), (3, ev_244), (6, ev_13), (7, ev_341), (10, ev_197), (11, ev_18), (12, ev_295), (13, ev_13), (14, ev_197), (15, ev_198), (16, ev_432), (19, ev_442), (21, ev_252), (22, ev_28)]
noncomputable def zi_115_1 : ZIs := [(24, ev_10), (25, ev_275), (27, ev_21), (28, ev_738), (31, ev_197), (32, ev_18), (33, ev_313), (35, ev_314), (37, ev_739), (40, ev_13), (41, ev_341), (44, ev_314), (46, ev_722), (49, ev_18), (50, ev_327), (52, ev_329)]
noncomputable def zi_115_2 : ZIs := [(54, ev_198), (55, ev_740), (58, ev_276), (60, ev_329), (62, ev_303), (63, ev_7), (64, ev_20), (65, ev_741), (68, ev_276), (70, ev_7), (71, ev_329), (73, ev_277), (74, ev_278), (75, ev_275), (77, ev_101), (79, ev_252)]
noncomputable def zi_115_3 : ZIs := [(80, ev_742), (83, ev_13), (84, ev_197), (85, ev_329), (87, ev_101), (89, ev_743), (92, ev_330), (95, ev_329), (97, ev_638), (100, ev_101), (102, ev_28), (104, ev_314), (106, ev_314), (108, ev_7), (109, ev_16), (110, ev_20)]
noncomputable def zi_115_4 : ZIs := [(111, ev_313), (113, ev_744), (116, ev_101), (118, ev_252), (119, ev_742), (122, ev_13), (123, ev_197), (124, ev_101), (126, ev_432), (129, ev_230), (130, ev_103), (131, ev_745), (134, ev_230), (135, ev_247), (137, ev_103), (138, ev_746)]
noncomputable def zi_115_5 : ZIs := [(141, ev_13), (142, ev_197), (143, ev_13), (144, ev_747), (147, ev_748), (150, ev_227), (153, ev_7), (154, ev_229), (157, ev_10), (158, ev_98), (159, ev_13), (160, ev_197), (161, ev_101), (163, ev_432), (166, ev_247), (168, ev_103)]
noncomputable def zi_115_6 : ZIs := [(169, ev_749), (172, ev_13), (173, ev_197), (174, ev_101), (176, ev_748), (179, ev_227), (182, ev_7), (183, ev_229), (186, ev_10), (187, ev_98)]
set_option maxRecDepth 100000 in
theorem xi_w115 : zall cX4_settleNode [zi_115_0, zi_115_1, zi_115_2, zi_115_3, zi_115_4, zi_115_5, zi_115_6] := zall_w _ _ (by decide +kernel)
noncomputable def xi_115 (pc : Nat) : XIs := cond (Nat.blt pc 80) (cond (Nat.blt pc 24) (zx zi_115_0) (cond (Nat.blt pc 54) (zx zi_115_1) (zx zi_115_2))) (cond (Nat.blt pc 141) (cond (Nat.blt pc 111) (zx zi_115_3) (zx zi_115_4)) (cond (Nat.blt pc 169) (zx zi_115_5) (zx zi_115_6)))
theorem xi_ok115 (pc : Nat) : xi_ok cX4_settleNode (xi_115 pc) = true := xi_c (xi_c (zq1 xi_w115) (xi_c (zq1 (zq2 xi_w115)) (zq1 (zq2 (zq2 xi_w115))))) (xi_c (xi_c (zq1 (zq2 (zq2 (zq2 xi_w115)))) (zq1 (zq2 (zq2 (zq2 (zq2 xi_w115)))))) (xi_c (zq1 (zq2 (zq2 (zq2 (zq2 (zq2 xi_w115)))))) (zq1 (zq2 (zq2 (zq2 (zq2 (zq2 (zq2 xi_w115)))))))))
noncomputable def zi_116_0 : ZIs := [(0, ev_13), (1, ev_192), (2, ev_197), (3, ev_432), (6, ev_13), (7, ev_192), (8, ev_198), (9, ev_432), (12, ev_485), (13, ev_442), (15, ev_247), (17, ev_230), (18, ev_103), (19, ev_750), (22, ev_247), (24, ev_230)]
noncomputable def zi_116_1 : ZIs := [(25, ev_103), (26, ev_361), (29, ev_13), (30, ev_465), (33, ev_197), (34, ev_18), (35, ev_722), (38, ev_13), (39, ev_465), (42, ev_198), (43, ev_18), (44, ev_722), (47, ev_656), (50, ev_7), (51, ev_229), (54, ev_10)]
noncomputable def zi_116_2 : ZIs := [(55, ev_98)]
set_option maxRecDepth 100000 in
theorem xi_w116 : zall cX4_isBetter [zi_116_0, zi_116_1, zi_116_2] := zall_w _ _ (by decide +kernel)
noncomputable def xi_116 (pc : Nat) : XIs := cond (Nat.blt pc 25) (zx zi_116_0) (cond (Nat.blt pc 55) (zx zi_116_1) (zx zi_116_2))
theorem xi_ok116 (pc : Nat) : xi_ok cX4_isBetter (xi_116 pc) = true := xi_c (zq1 xi_w116) (xi_c (zq1 (zq2 xi_w116)) (zq1 (zq2 (zq2 xi_w116))))
noncomputable def zi_117_0 : ZIs := [(0, ev_13), (1, ev_751), (4, ev_10), (5, ev_736), (8, ev_21), (9, ev_716), (12, ev_197), (13, ev_18), (14, ev_295), (15, ev_198), (16, ev_21), (17, ev_716), (20, ev_197), (21, ev_7), (22, ev_22), (23, ev_18)]
noncomputable def zi_117_1 : ZIs := [(24, ev_546), (27, ev_13), (28, ev_751), (31, ev_13), (32, ev_341), (35, ev_21), (36, ev_717), (39, ev_21), (40, ev_718), (43, ev_198), (44, ev_18), (45, ev_18), (46, ev_18), (47, ev_316), (48, ev_18), (49, ev_7)]
noncomputable def zi_117_2 : ZIs := [(50, ev_22), (51, ev_299), (52, ev_300), (55, ev_752), (58, ev_21), (59, ev_753), (62, ev_197), (63, ev_18), (64, ev_295), (65, ev_198), (66, ev_21), (67, ev_753), (70, ev_197), (71, ev_7), (72, ev_22), (73, ev_18)]
noncomputable def zi_117_3 : ZIs := [(74, ev_546), (77, ev_13), (78, ev_751), (81, ev_13), (82, ev_341), (85, ev_21), (86, ev_555), (89, ev_21), (90, ev_754), (93, ev_198), (94, ev_18), (95, ev_18), (96, ev_18), (97, ev_316), (98, ev_18), (99, ev_7)]
noncomputable def zi_117_4 : ZIs := [(100, ev_22), (101, ev_299), (102, ev_300), (105, ev_752), (108, ev_21), (109, ev_716), (112, ev_197), (113, ev_18), (114, ev_295), (115, ev_198), (116, ev_21), (117, ev_716), (120, ev_197), (121, ev_7), (122, ev_22), (123, ev_18)]
noncomputable def zi_117_5 : ZIs := [(124, ev_612), (127, ev_21), (128, ev_717), (131, ev_21), (132, ev_718), (135, ev_198), (136, ev_18), (137, ev_18), (138, ev_197), (139, ev_755), (142, ev_13), (143, ev_751), (146, ev_13), (147, ev_341), (150, ev_197), (151, ev_18)]
noncomputable def zi_117_6 : ZIs := [(152, ev_316), (153, ev_18), (154, ev_30), (155, ev_16), (156, ev_299), (157, ev_300), (160, ev_730), (163, ev_260)]
set_option maxRecDepth 100000 in
theorem xi_w117 : zall cX4_countLinks [zi_117_0, zi_117_1, zi_117_2, zi_117_3, zi_117_4, zi_117_5, zi_117_6] := zall_w _ _ (by decide +kernel)
noncomputable def xi_117 (pc : Nat) : XIs := cond (Nat.blt pc 74) (cond (Nat.blt pc 24) (zx zi_117_0) (cond (Nat.blt pc 50) (zx zi_117_1) (zx zi_117_2))) (cond (Nat.blt pc 124) (cond (Nat.blt pc 100) (zx zi_117_3) (zx zi_117_4)) (cond (Nat.blt pc 152) (zx zi_117_5) (zx zi_117_6)))
theorem xi_ok117 (pc : Nat) : xi_ok cX4_countLinks (xi_117 pc) = true := xi_c (xi_c (zq1 xi_w117) (xi_c (zq1 (zq2 xi_w117)) (zq1 (zq2 (zq2 xi_w117))))) (xi_c (xi_c (zq1 (zq2 (zq2 (zq2 xi_w117)))) (zq1 (zq2 (zq2 (zq2 (zq2 xi_w117)))))) (xi_c (zq1 (zq2 (zq2 (zq2 (zq2 (zq2 xi_w117)))))) (zq1 (zq2 (zq2 (zq2 (zq2 (zq2 (zq2 xi_w117)))))))))
noncomputable def zi_118_0 : ZIs := [(0, ev_13), (1, ev_341), (4, ev_192), (5, ev_18), (6, ev_197), (7, ev_756), (10, ev_13), (11, ev_430), (14, ev_197), (15, ev_18), (16, ev_13), (17, ev_434), (20, ev_192), (21, ev_18), (22, ev_16), (23, ev_195)]
noncomputable def zi_118_1 : ZIs := [(26, ev_13), (27, ev_430), (30, ev_197), (31, ev_18), (32, ev_295), (33, ev_757), (36, ev_13), (37, ev_729), (40, ev_102), (41, ev_492), (42, ev_13), (43, ev_751), (46, ev_197), (47, ev_18), (48, ev_102), (49, ev_492)]
noncomputable def zi_118_2 : ZIs := [(50, ev_13), (51, ev_434), (54, ev_192), (55, ev_18), (56, ev_102), (57, ev_198), (58, ev_102), (59, ev_492), (60, ev_485), (61, ev_481)]
set_option maxRecDepth 100000 in
theorem xi_w118 : zall cX4_score [zi_118_0, zi_118_1, zi_118_2] := zall_w _ _ (by decide +kernel)
noncomputable def xi_118 (pc : Nat) : XIs := cond (Nat.blt pc 26) (zx zi_118_0) (cond (Nat.blt pc 50) (zx zi_118_1) (zx zi_118_2))
theorem xi_ok118 (pc : Nat) : xi_ok cX4_score (xi_118 pc) = true := xi_c (zq1 xi_w118) (xi_c (zq1 (zq2 xi_w118)) (zq1 (zq2 (zq2 xi_w118))))
noncomputable def zi_119_0 : ZIs := [(0, ev_10), (1, ev_685), (2, ev_192), (3, ev_176), (5, ev_686), (8, ev_13), (9, ev_465), (12, ev_192), (13, ev_18), (14, ev_378), (17, ev_192), (18, ev_98), (19, ev_688), (22, ev_758), (25, ev_252), (26, ev_98)]
set_option maxRecDepth 100000 in
theorem xi_w119 : zall cX4_freeGroup [zi_119_0] := zall_w _ _ (by decide +kernel)
noncomputable def xi_119 (pc : Nat) : XIs := zx zi_119_0
theorem xi_ok119 (pc : Nat) : xi_ok cX4_freeGroup (xi_119 pc) = true := zq1 xi_w119
noncomputable def zi_120_0 : ZIs := [(0, ev_197), (1, ev_252), (2, ev_691), (5, ev_10), (6, ev_98), (7, ev_13), (8, ev_341), (11, ev_192), (12, ev_18), (13, ev_295), (14, ev_13), (15, ev_465), (18, ev_198), (19, ev_316), (20, ev_18), (21, ev_7)]
noncomputable def zi_120_1 : ZIs := [(22, ev_192), (23, ev_277), (24, ev_252), (25, ev_317), (26, ev_20), (27, ev_299), (28, ev_13), (29, ev_430), (32, ev_198), (33, ev_316), (34, ev_18), (35, ev_13), (36, ev_434), (39, ev_192), (40, ev_18), (41, ev_16)]
noncomputable def zi_120_2 : ZIs := [(42, ev_299), (43, ev_13), (44, ev_430), (47, ev_197), (48, ev_13), (49, ev_465), (52, ev_197), (53, ev_18), (54, ev_399), (57, ev_13), (58, ev_434), (61, ev_192), (62, ev_18), (63, ev_759), (66, ev_13), (67, ev_430)]
noncomputable def zi_120_3 : ZIs := [(70, ev_197), (71, ev_18), (72, ev_13), (73, ev_434), (76, ev_192), (77, ev_18), (78, ev_22), (79, ev_299), (80, ev_13), (81, ev_465), (84, ev_197), (85, ev_316), (86, ev_18), (87, ev_7), (88, ev_192), (89, ev_277)]
noncomputable def zi_120_4 : ZIs := [(90, ev_278), (91, ev_299), (92, ev_13), (93, ev_341), (96, ev_192), (97, ev_197), (98, ev_299), (99, ev_7), (100, ev_98)]
set_option maxRecDepth 100000 in
theorem xi_w120 : zall cX4_moveTo [zi_120_0, zi_120_1, zi_120_2, zi_120_3, zi_120_4] := zall_w _ _ (by decide +kernel)
noncomputable def xi_120 (pc : Nat) : XIs := cond (Nat.blt pc 42) (cond (Nat.blt pc 22) (zx zi_120_0) (zx zi_120_1)) (cond (Nat.blt pc 70) (zx zi_120_2) (cond (Nat.blt pc 90) (zx zi_120_3) (zx zi_120_4)))
theorem xi_ok120 (pc : Nat) : xi_ok cX4_moveTo (xi_120 pc) = true := xi_c (xi_c (zq1 xi_w120) (zq1 (zq2 xi_w120))) (xi_c (zq1 (zq2 (zq2 xi_w120))) (xi_c (zq1 (zq2 (zq2 (zq2 xi_w120)))) (zq1 (zq2 (zq2 (zq2 (zq2 xi_w120)))))))
noncomputable def zi_121_0 : ZIs := [(0, ev_13), (1, ev_251), (4, ev_13), (5, ev_760), (8, ev_1), (9, ev_761), (12, ev_762), (15, ev_13), (16, ev_760), (19, ev_1), (20, ev_761), (23, ev_256), (26, ev_13), (27, ev_763), (30, ev_255), (32, ev_657)]
noncomputable def zi_121_1 : ZIs := [(35, ev_13), (36, ev_33), (37, ev_255), (39, ev_258), (42, ev_260)]
set_option maxRecDepth 100000 in
theorem xi_w121 : zall cX5_init [zi_121_0, zi_121_1] := zall_w _ _ (by decide +kernel)
noncomputable def xi_121 (pc : Nat) : XIs := cond (Nat.blt pc 35) (zx zi_121_0) (zx zi_121_1)
theorem xi_ok121 (pc : Nat) : xi_ok cX5_init (xi_121 pc) = true := xi_c (zq1 xi_w121) (zq1 (zq2 xi_w121))
noncomputable def zi_122_0 : ZIs := [(0, ev_13), (1, ev_764), (4, ev_283), (7, ev_765), (10, ev_613), (13, ev_7), (14, ev_229), (17, ev_10), (18, ev_98)]
set_option maxRecDepth 100000 in
theorem xi_w122 : zall cX5_isFull [zi_122_0] := zall_w _ _ (by decide +kernel)
noncomputable def xi_122 (pc : Nat) : XIs := zx zi_122_0
theorem xi_ok122 (pc : Nat) : xi_ok cX5_isFull (xi_122 pc) = true := zq1 xi_w122
noncomputable def zi_123_0 : ZIs := [(0, ev_13), (1, ev_764), (4, ev_192), (5, ev_208), (8, ev_766), (11, ev_13), (12, ev_764), (15, ev_197), (16, ev_208), (19, ev_767), (22, ev_198), (23, ev_768), (26, ev_769), (29, ev_12), (31, ev_770), (34, ev_771)]
noncomputable def zi_123_1 : ZIs := [(37, ev_96), (39, ev_772), (42, ev_227), (45, ev_7), (46, ev_229), (49, ev_10), (50, ev_98)]
set_option maxRecDepth 100000 in
theorem xi_w123 : zall cX5_isGoodArc [zi_123_0, zi_123_1] := zall_w _ _ (by decide +kernel)
noncomputable def xi_123 (pc : Nat) : XIs := cond (Nat.blt pc 37) (zx zi_123_0) (zx zi_123_1)
theorem xi_ok123 (pc : Nat) : xi_ok cX5_isGoodArc (xi_123 pc) = true := xi_c (zq1 xi_w123) (zq1 (zq2 xi_w123))
noncomputable def zi_124_0 : ZIs := [(0, ev_13), (1, ev_10), (2, ev_13), (3, ev_764), (6, ev_692), (9, ev_192), (10, ev_10), (11, ev_215), (14, ev_13), (15, ev_764), (18, ev_692), (21, ev_7), (22, ev_16), (23, ev_98)]
set_option maxRecDepth 100000 in
theorem xi_w124 : zall cX5_addNode [zi_124_0] := zall_w _ _ (by decide +kernel)
noncomputable def xi_124 (pc : Nat) : XIs := zx zi_124_0
theorem xi_ok124 (pc : Nat) : xi_ok cX5_addNode (xi_124 pc) = true := zq1 xi_w124
noncomputable def zi_125_0 : ZIs := [(0, ev_13), (1, ev_764), (4, ev_773), (7, ev_28), (9, ev_101), (11, ev_252), (12, ev_774), (15, ev_775), (17, ev_98), (18, ev_13), (19, ev_776), (22, ev_275), (24, ev_13), (25, ev_675), (28, ev_276), (30, ev_7)]
noncomputable def zi_125_1 : ZIs := [(31, ev_299), (32, ev_13), (33, ev_675), (36, ev_276), (38, ev_7), (39, ev_22), (40, ev_101), (42, ev_299), (43, ev_13), (44, ev_675), (47, ev_276), (49, ev_30), (50, ev_22), (51, ev_192), (52, ev_299), (53, ev_13)]
noncomputable def zi_125_2 : ZIs := [(54, ev_675), (57, ev_276), (59, ev_31), (60, ev_22), (61, ev_197), (62, ev_299), (63, ev_13), (64, ev_675), (67, ev_276), (69, ev_32), (70, ev_22), (71, ev_198), (72, ev_299), (73, ev_13), (74, ev_675), (77, ev_276)]
noncomputable def zi_125_3 : ZIs := [(79, ev_33), (80, ev_22), (81, ev_12), (83, ev_299), (84, ev_13), (85, ev_675), (88, ev_276), (90, ev_15), (92, ev_22), (93, ev_96), (95, ev_299), (96, ev_13), (97, ev_13), (98, ev_764), (101, ev_777), (104, ev_101)]
noncomputable def zi_125_4 : ZIs := [(106, ev_98)]
set_option maxRecDepth 100000 in
theorem xi_w125 : zall cX5_addArc [zi_125_0, zi_125_1, zi_125_2, zi_125_3, zi_125_4] := zall_w _ _ (by decide +kernel)
noncomputable def xi_125 (pc : Nat) : XIs := cond (Nat.blt pc 54) (cond (Nat.blt pc 31) (zx zi_125_0) (zx zi_125_1)) (cond (Nat.blt pc 79) (zx zi_125_2) (cond (Nat.blt pc 106) (zx zi_125_3) (zx zi_125_4)))
theorem xi_ok125 (pc : Nat) : xi_ok cX5_addArc (xi_125 pc) = true := xi_c (xi_c (zq1 xi_w125) (zq1 (zq2 xi_w125))) (xi_c (zq1 (zq2 (zq2 xi_w125))) (xi_c (zq1 (zq2 (zq2 (zq2 xi_w125)))) (zq1 (zq2 (zq2 (zq2 (zq2 xi_w125)))))))
noncomputable def zi_126_0 : ZIs := [(0, ev_13), (1, ev_30), (2, ev_192), (3, ev_10), (4, ev_10), (5, ev_215), (8, ev_260)]
set_option maxRecDepth 100000 in
theorem xi_w126 : zall cX5_dropArc [zi_126_0] := zall_w _ _ (by decide +kernel)
noncomputable def xi_126 (pc : Nat) : XIs := zx zi_126_0
theorem xi_ok126 (pc : Nat) : xi_ok cX5_dropArc (xi_126 pc) = true := zq1 xi_w126
noncomputable def zi_127_0 : ZIs := [(0, ev_13), (1, ev_31), (2, ev_192), (3, ev_197), (4, ev_198), (5, ev_215), (8, ev_260)]
set_option maxRecDepth 100000 in
theorem xi_w127 : zall cX5_changeArc [zi_127_0] := zall_w _ _ (by decide +kernel)
noncomputable def xi_127 (pc : Nat) : XIs := zx zi_127_0
theorem xi_ok127 (pc : Nat) : xi_ok cX5_changeArc (xi_127 pc) = true := zq1 xi_w127
noncomputable def zi_128_0 : ZIs := [(0, ev_13), (1, ev_32), (2, ev_192), (3, ev_197), (4, ev_10), (5, ev_215), (8, ev_260)]
set_option maxRecDepth 100000 in
theorem xi_w128 : zall cX5_relabel [zi_128_0] := zall_w _ _ (by decide +kernel)
noncomputable def xi_128 (pc : Nat) : XIs := zx zi_128_0
theorem xi_ok128 (pc : Nat) : xi_ok cX5_relabel (xi_128 pc) = true := zq1 xi_w128
noncomputable def zi_129_0 : ZIs := [(0, ev_13), (1, ev_776), (4, ev_25), (6, ev_13), (7, ev_675), (10, ev_96), (12, ev_192), (13, ev_299), (14, ev_13), (15, ev_675), (18, ev_96), (20, ev_7), (21, ev_22), (22, ev_197), (23, ev_299), (24, ev_13)]
noncomputable def zi_129_1 : ZIs := [(25, ev_675), (28, ev_96), (30, ev_30), (31, ev_22), (32, ev_198), (33, ev_299), (34, ev_13), (35, ev_675), (38, ev_96), (40, ev_31), (41, ev_22), (42, ev_12), (44, ev_299), (45, ev_13), (46, ev_13), (47, ev_764)]
noncomputable def zi_129_2 : ZIs := [(50, ev_777), (53, ev_260)]
set_option maxRecDepth 100000 in
theorem xi_w129 : zall cX5_note [zi_129_0, zi_129_1, zi_129_2] := zall_w _ _ (by decide +kernel)
noncomputable def xi_129 (pc : Nat) : XIs := cond (Nat.blt pc 25) (zx zi_129_0) (cond (Nat.blt pc 50) (zx zi_129_1) (zx zi_129_2))
theorem xi_ok129 (pc : Nat) : xi_ok cX5_note (xi_129 pc) = true := xi_c (zq1 xi_w129) (xi_c (zq1 (zq2 xi_w129)) (zq1 (zq2 (zq2 xi_w129))))
noncomputable def zi_130_0 : ZIs := [(0, ev_13), (1, ev_764), (4, ev_283), (7, ev_468), (9, ev_355), (10, ev_685), (11, ev_192), (12, ev_468), (14, ev_22), (15, ev_13), (16, ev_675), (19, ev_14), (20, ev_778), (23, ev_13), (24, ev_13), (25, ev_675)]
noncomputable def zi_130_1 : ZIs := [(28, ev_192), (29, ev_468), (31, ev_22), (32, ev_30), (33, ev_13), (34, ev_675), (37, ev_14), (38, ev_355), (39, ev_779), (42, ev_780), (45, ev_781), (48, ev_782), (51, ev_657), (54, ev_192), (55, ev_98)]
set_option maxRecDepth 100000 in
theorem xi_w130 : zall cX5_openRow [zi_130_0, zi_130_1] := zall_w _ _ (by decide +kernel)
noncomputable def xi_130 (pc : Nat) : XIs := cond (Nat.blt pc 28) (zx zi_130_0) (zx zi_130_1)
theorem xi_ok130 (pc : Nat) : xi_ok cX5_openRow (xi_130 pc) = true := xi_c (zq1 xi_w130) (zq1 (zq2 xi_w130))
noncomputable def zi_131_0 : ZIs := [(0, ev_21), (1, ev_283), (4, ev_468), (6, ev_355), (7, ev_294), (8, ev_13), (9, ev_675), (12, ev_197), (13, ev_7), (14, ev_22), (15, ev_18), (16, ev_295), (17, ev_21), (18, ev_1), (19, ev_283), (22, ev_7)]
noncomputable def zi_131_1 : ZIs := [(23, ev_22), (24, ev_259), (27, ev_13), (28, ev_675), (31, ev_197), (32, ev_18)]
noncomputable def xi_131_2 : XIs := [(33, .tableswitch 101 0 3 #[31, 58, 68, 76], 31)]
set_option maxRecDepth 100000 in
theorem xi_ok131_2 : xi_ok cX5_apply xi_131_2 = true := by decide +kernel
noncomputable def zi_131_3 : ZIs := [(64, ev_21), (65, ev_717), (68, ev_198), (69, ev_13), (70, ev_675), (73, ev_197), (74, ev_30), (75, ev_22), (76, ev_18), (77, ev_299), (78, ev_21), (79, ev_1), (80, ev_692), (83, ev_7), (84, ev_22), (85, ev_664)]
noncomputable def zi_131_4 : ZIs := [(88, ev_783), (91, ev_13), (92, ev_21), (93, ev_197), (94, ev_198), (95, ev_784), (98, ev_785), (101, ev_21), (102, ev_198), (103, ev_786), (106, ev_787), (109, ev_13), (110, ev_21), (111, ev_198), (112, ev_13), (113, ev_675)]
noncomputable def zi_131_5 : ZIs := [(116, ev_197), (117, ev_30), (118, ev_22), (119, ev_18), (120, ev_13), (121, ev_675), (124, ev_197), (125, ev_31), (126, ev_22), (127, ev_18), (128, ev_234), (131, ev_788), (134, ev_21), (135, ev_717), (138, ev_198), (139, ev_13)]
noncomputable def zi_131_6 : ZIs := [(140, ev_675), (143, ev_197), (144, ev_30), (145, ev_22), (146, ev_18), (147, ev_299), (148, ev_260)]
set_option maxRecDepth 100000 in
theorem xi_w131 : zall cX5_apply [zi_131_0, zi_131_1, zi_131_3, zi_131_4, zi_131_5, zi_131_6] := zall_w _ _ (by decide +kernel)
noncomputable def xi_131 (pc : Nat) : XIs := cond (Nat.blt pc 64) (cond (Nat.blt pc 23) (zx zi_131_0) (cond (Nat.blt pc 33) (zx zi_131_1) (xi_131_2))) (cond (Nat.blt pc 116) (cond (Nat.blt pc 88) (zx zi_131_3) (zx zi_131_4)) (cond (Nat.blt pc 140) (zx zi_131_5) (zx zi_131_6)))
theorem xi_ok131 (pc : Nat) : xi_ok cX5_apply (xi_131 pc) = true := xi_c (xi_c (zq1 xi_w131) (xi_c (zq1 (zq2 xi_w131)) (xi_ok131_2))) (xi_c (xi_c (zq1 (zq2 (zq2 xi_w131))) (zq1 (zq2 (zq2 (zq2 xi_w131))))) (xi_c (zq1 (zq2 (zq2 (zq2 (zq2 xi_w131))))) (zq1 (zq2 (zq2 (zq2 (zq2 (zq2 xi_w131))))))))
noncomputable def zi_132_0 : ZIs := [(0, ev_21), (1, ev_789), (4, ev_198), (5, ev_13), (6, ev_675), (9, ev_197), (10, ev_30), (11, ev_22), (12, ev_18), (13, ev_299), (14, ev_21), (15, ev_790), (18, ev_198), (19, ev_13), (20, ev_675), (23, ev_197)]
noncomputable def zi_132_1 : ZIs := [(24, ev_31), (25, ev_22), (26, ev_18), (27, ev_299), (28, ev_21), (29, ev_791), (32, ev_198), (33, ev_13), (34, ev_675), (37, ev_197), (38, ev_32), (39, ev_22), (40, ev_18), (41, ev_299), (42, ev_21), (43, ev_729)]
noncomputable def zi_132_2 : ZIs := [(46, ev_198), (47, ev_13), (48, ev_675), (51, ev_197), (52, ev_33), (53, ev_22), (54, ev_18), (55, ev_299), (56, ev_21), (57, ev_792), (60, ev_198), (61, ev_13), (62, ev_675), (65, ev_197), (66, ev_15), (68, ev_22)]
noncomputable def zi_132_3 : ZIs := [(69, ev_18), (70, ev_299), (71, ev_21), (72, ev_1), (73, ev_793), (76, ev_7), (77, ev_22), (78, ev_794), (81, ev_21), (82, ev_21), (83, ev_795), (86, ev_198), (87, ev_7), (88, ev_22), (89, ev_781), (92, ev_796)]
noncomputable def zi_132_4 : ZIs := [(95, ev_260)]
set_option maxRecDepth 100000 in
theorem xi_w132 : zall cX5_applyArc [zi_132_0, zi_132_1, zi_132_2, zi_132_3, zi_132_4] := zall_w _ _ (by decide +kernel)
noncomputable def xi_132 (pc : Nat) : XIs := cond (Nat.blt pc 46) (cond (Nat.blt pc 24) (zx zi_132_0) (zx zi_132_1)) (cond (Nat.blt pc 69) (zx zi_132_2) (cond (Nat.blt pc 95) (zx zi_132_3) (zx zi_132_4)))
theorem xi_ok132 (pc : Nat) : xi_ok cX5_applyArc (xi_132 pc) = true := xi_c (xi_c (zq1 xi_w132) (zq1 (zq2 xi_w132))) (xi_c (zq1 (zq2 (zq2 xi_w132))) (xi_c (zq1 (zq2 (zq2 (zq2 xi_w132)))) (zq1 (zq2 (zq2 (zq2 (zq2 xi_w132)))))))
noncomputable def zi_133_0 : ZIs := [(0, ev_198), (1, ev_390), (4, ev_21), (5, ev_791), (8, ev_197), (9, ev_12), (11, ev_299), (12, ev_797), (15, ev_198), (16, ev_7), (17, ev_798), (20, ev_21), (21, ev_729), (24, ev_197), (25, ev_12), (27, ev_299)]
noncomputable def zi_133_1 : ZIs := [(28, ev_200), (31, ev_21), (32, ev_792), (35, ev_197), (36, ev_12), (38, ev_299), (39, ev_260)]
set_option maxRecDepth 100000 in
theorem xi_w133 : zall cX5_applyValue [zi_133_0, zi_133_1] := zall_w _ _ (by decide +kernel)
noncomputable def xi_133 (pc : Nat) : XIs := cond (Nat.blt pc 28) (zx zi_133_0) (zx zi_133_1)
theorem xi_ok133 (pc : Nat) : xi_ok cX5_applyValue (xi_133 pc) = true := xi_c (zq1 xi_w133) (zq1 (zq2 xi_w133))
noncomputable def zi_134_0 : ZIs := [(0, ev_197), (1, ev_21), (2, ev_283), (5, ev_656), (8, ev_21), (9, ev_799), (12, ev_21), (13, ev_283), (16, ev_295), (17, ev_198), (18, ev_197), (19, ev_800), (22, ev_13), (23, ev_21), (24, ev_777), (27, ev_300)]
noncomputable def zi_134_1 : ZIs := [(30, ev_801), (33, ev_260)]
set_option maxRecDepth 100000 in
theorem xi_w134 : zall cX5_replay [zi_134_0, zi_134_1] := zall_w _ _ (by decide +kernel)
noncomputable def xi_134 (pc : Nat) : XIs := cond (Nat.blt pc 30) (zx zi_134_0) (zx zi_134_1)
theorem xi_ok134 (pc : Nat) : xi_ok cX5_replay (xi_134 pc) = true := xi_c (zq1 xi_w134) (zq1 (zq2 xi_w134))
noncomputable def zi_135_0 : ZIs := [(0, ev_13), (1, ev_287), (4, ev_13), (5, ev_764), (8, ev_802), (11, ev_21), (12, ev_243), (15, ev_10), (16, ev_294), (17, ev_197), (18, ev_803), (21, ev_804), (24, ev_21), (25, ev_468), (27, ev_7), (28, ev_805)]
noncomputable def zi_135_1 : ZIs := [(31, ev_21), (32, ev_806), (35, ev_378), (38, ev_197), (39, ev_98), (40, ev_13), (41, ev_21), (42, ev_248), (45, ev_807), (48, ev_13), (49, ev_764), (52, ev_13), (53, ev_287), (56, ev_802), (59, ev_808), (61, ev_98)]
noncomputable def zi_135_2 : ZIs := [(62, ev_304), (65, ev_570), (68, ev_808), (70, ev_98)]
set_option maxRecDepth 100000 in
theorem xi_w135 : zall cX5_carryOut [zi_135_0, zi_135_1, zi_135_2] := zall_w _ _ (by decide +kernel)
noncomputable def xi_135 (pc : Nat) : XIs := cond (Nat.blt pc 31) (zx zi_135_0) (cond (Nat.blt pc 62) (zx zi_135_1) (zx zi_135_2))
theorem xi_ok135 (pc : Nat) : xi_ok cX5_carryOut (xi_135 pc) = true := xi_c (zq1 xi_w135) (xi_c (zq1 (zq2 xi_w135)) (zq1 (zq2 (zq2 xi_w135))))
noncomputable def zi_136_0 : ZIs := [(0, ev_21), (1, ev_809), (4, ev_294), (5, ev_21), (6, ev_806), (9, ev_7), (10, ev_810), (13, ev_21), (14, ev_811), (17, ev_229), (20, ev_252), (21, ev_295), (22, ev_198), (23, ev_812), (26, ev_207), (28, ev_203)]
noncomputable def zi_136_1 : ZIs := [(30, ev_813), (33, ev_385), (36, ev_21), (37, ev_30), (38, ev_31), (39, ev_814), (42, ev_98), (43, ev_10), (44, ev_25), (46, ev_96), (48, ev_203), (50, ev_607), (53, ev_815), (56, ev_96), (58, ev_13), (59, ev_341)]
noncomputable def zi_136_2 : ZIs := [(62, ev_14), (63, ev_816), (66, ev_21), (67, ev_468), (69, ev_7), (70, ev_805), (73, ev_203), (75, ev_96), (77, ev_609), (80, ev_817), (82, ev_818), (85, ev_7), (86, ev_229), (89, ev_30), (90, ev_28), (92, ev_21)]
noncomputable def zi_136_3 : ZIs := [(93, ev_806), (96, ev_101), (98, ev_819), (101, ev_21), (102, ev_30), (103, ev_31), (104, ev_814), (107, ev_98), (108, ev_13), (109, ev_341), (112, ev_96), (114, ev_21), (115, ev_811), (118, ev_299), (119, ev_343), (122, ev_820)]
noncomputable def zi_136_4 : ZIs := [(125, ev_21), (126, ev_468), (128, ev_7), (129, ev_805), (132, ev_21), (133, ev_379), (135, ev_821), (138, ev_381), (141, ev_21), (142, ev_30), (143, ev_31), (144, ev_814), (147, ev_98), (148, ev_13), (149, ev_198), (150, ev_44)]
noncomputable def zi_136_5 : ZIs := [(153, ev_399), (156, ev_21), (157, ev_32), (158, ev_197), (159, ev_47), (162, ev_227), (165, ev_7), (166, ev_229), (169, ev_10), (170, ev_98)]
set_option maxRecDepth 100000 in
theorem xi_w136 : zall cX5_readCommand [zi_136_0, zi_136_1, zi_136_2, zi_136_3, zi_136_4, zi_136_5] := zall_w _ _ (by decide +kernel)
noncomputable def xi_136 (pc : Nat) : XIs := cond (Nat.blt pc 93) (cond (Nat.blt pc 30) (zx zi_136_0) (cond (Nat.blt pc 62) (zx zi_136_1) (zx zi_136_2))) (cond (Nat.blt pc 125) (zx zi_136_3) (cond (Nat.blt pc 153) (zx zi_136_4) (zx zi_136_5)))
theorem xi_ok136 (pc : Nat) : xi_ok cX5_readCommand (xi_136 pc) = true := xi_c (xi_c (zq1 xi_w136) (xi_c (zq1 (zq2 xi_w136)) (zq1 (zq2 (zq2 xi_w136))))) (xi_c (zq1 (zq2 (zq2 (zq2 xi_w136)))) (xi_c (zq1 (zq2 (zq2 (zq2 (zq2 xi_w136))))) (zq1 (zq2 (zq2 (zq2 (zq2 (zq2 xi_w136))))))))
noncomputable def zi_137_0 : ZIs := [(0, ev_482)]
noncomputable def xi_137_1 : XIs := [(1, .lookupswitch 55 #[(0, 46), (13, 43), (19, 49), (22, 52)], 43)]
set_option maxRecDepth 100000 in
theorem xi_ok137_1 : xi_ok cX5_shapeOf xi_137_1 = true := by decide +kernel
noncomputable def zi_137_2 : ZIs := [(44, ev_822), (46, ev_823), (47, ev_824), (49, ev_823), (50, ev_825), (52, ev_823), (53, ev_826), (55, ev_823), (56, ev_827), (58, ev_823)]
set_option maxRecDepth 100000 in
theorem xi_w137 : zall cX5_shapeOf [zi_137_0, zi_137_2] := zall_w _ _ (by decide +kernel)
noncomputable def xi_137 (pc : Nat) : XIs := cond (Nat.blt pc 1) (zx zi_137_0) (cond (Nat.blt pc 44) (xi_137_1) (zx zi_137_2))
theorem xi_ok137 (pc : Nat) : xi_ok cX5_shapeOf (xi_137 pc) = true := xi_c (zq1 xi_w137) (xi_c (xi_ok137_1) (zq1 (zq2 xi_w137)))
noncomputable def zi_138_0 : ZIs := [(0, ev_13), (1, ev_828), (4, ev_104), (7, ev_10), (8, ev_98), (9, ev_192), (10, ev_655), (12, ev_829), (15, ev_13), (16, ev_764), (19, ev_692), (22, ev_176), (24, ev_686), (27, ev_13), (28, ev_13), (29, ev_341)]
noncomputable def zi_138_1 : ZIs := [(32, ev_10), (33, ev_18), (34, ev_830), (37, ev_831), (40, ev_7), (41, ev_229), (44, ev_10), (45, ev_98), (46, ev_192), (47, ev_832), (50, ev_13), (51, ev_13), (52, ev_341), (55, ev_10), (56, ev_18), (57, ev_13)]
noncomputable def zi_138_2 : ZIs := [(58, ev_341), (61, ev_7), (62, ev_18), (63, ev_13), (64, ev_341), (67, ev_30), (68, ev_18), (69, ev_13), (70, ev_341), (73, ev_31), (74, ev_18), (75, ev_13), (76, ev_341), (79, ev_32), (80, ev_18), (81, ev_67)]
noncomputable def zi_138_3 : ZIs := [(84, ev_833), (87, ev_13), (88, ev_13), (89, ev_341), (92, ev_10), (93, ev_18), (94, ev_13), (95, ev_341), (98, ev_7), (99, ev_18), (100, ev_13), (101, ev_341), (104, ev_30), (105, ev_18), (106, ev_13), (107, ev_341)]
noncomputable def zi_138_4 : ZIs := [(110, ev_31), (111, ev_18), (112, ev_13), (113, ev_341), (116, ev_32), (117, ev_18), (118, ev_70), (121, ev_775), (123, ev_681), (126, ev_7), (127, ev_229), (130, ev_10), (131, ev_98), (132, ev_13), (133, ev_764), (136, ev_13)]
noncomputable def zi_138_5 : ZIs := [(137, ev_341), (140, ev_10), (141, ev_18), (142, ev_73), (145, ev_378), (148, ev_10), (149, ev_98), (150, ev_192), (151, ev_834), (153, ev_727), (156, ev_13), (157, ev_13), (158, ev_341), (161, ev_10), (162, ev_18), (163, ev_76)]
noncomputable def zi_138_6 : ZIs := [(166, ev_7), (167, ev_98), (168, ev_13), (169, ev_341), (172, ev_7), (173, ev_18), (174, ev_768), (177, ev_378), (180, ev_10), (181, ev_98), (182, ev_13), (183, ev_13), (184, ev_341), (187, ev_10), (188, ev_18), (189, ev_10)]
noncomputable def zi_138_7 : ZIs := [(190, ev_13), (191, ev_341), (194, ev_7), (195, ev_18), (196, ev_835), (199, ev_7), (200, ev_98)]
set_option maxRecDepth 100000 in
theorem xi_w138 : zall cX5_doCommand [zi_138_0, zi_138_1, zi_138_2, zi_138_3, zi_138_4, zi_138_5, zi_138_6, zi_138_7] := zall_w _ _ (by decide +kernel)
noncomputable def xi_138 (pc : Nat) : XIs := cond (Nat.blt pc 110) (cond (Nat.blt pc 58) (cond (Nat.blt pc 32) (zx zi_138_0) (zx zi_138_1)) (cond (Nat.blt pc 84) (zx zi_138_2) (zx zi_138_3))) (cond (Nat.blt pc 166) (cond (Nat.blt pc 137) (zx zi_138_4) (zx zi_138_5)) (cond (Nat.blt pc 190) (zx zi_138_6) (zx zi_138_7)))
theorem xi_ok138 (pc : Nat) : xi_ok cX5_doCommand (xi_138 pc) = true := xi_c (xi_c (xi_c (zq1 xi_w138) (zq1 (zq2 xi_w138))) (xi_c (zq1 (zq2 (zq2 xi_w138))) (zq1 (zq2 (zq2 (zq2 xi_w138)))))) (xi_c (xi_c (zq1 (zq2 (zq2 (zq2 (zq2 xi_w138))))) (zq1 (zq2 (zq2 (zq2 (zq2 (zq2 xi_w138))))))) (xi_c (zq1 (zq2 (zq2 (zq2 (zq2 (zq2 (zq2 xi_w138))))))) (zq1 (zq2 (zq2 (zq2 (zq2 (zq2 (zq2 (zq2 xi_w138))))))))))
noncomputable def zi_139_0 : ZIs := [(0, ev_13), (1, ev_251), (4, ev_13), (5, ev_252), (6, ev_253), (9, ev_13), (10, ev_176), (12, ev_255), (14, ev_254), (17, ev_13), (18, ev_252), (19, ev_368), (22, ev_13), (23, ev_176), (25, ev_255), (27, ev_257)]
noncomputable def zi_139_1 : ZIs := [(30, ev_13), (31, ev_176), (33, ev_255), (35, ev_258), (38, ev_260)]
set_option maxRecDepth 100000 in
theorem xi_w139 : zall cX6_init [zi_139_0, zi_139_1] := zall_w _ _ (by decide +kernel)
noncomputable def xi_139 (pc : Nat) : XIs := cond (Nat.blt pc 30) (zx zi_139_0) (zx zi_139_1)
theorem xi_ok139 (pc : Nat) : xi_ok cX6_init (xi_139 pc) = true := xi_c (zq1 xi_w139) (zq1 (zq2 xi_w139))
noncomputable def zi_140_0 : ZIs := [(0, ev_21), (1, ev_206), (4, ev_21), (5, ev_696), (8, ev_7), (9, ev_197), (10, ev_277), (11, ev_252), (12, ev_768), (15, ev_21), (16, ev_575), (19, ev_7), (20, ev_197), (21, ev_277), (22, ev_252), (23, ev_768)]
noncomputable def zi_140_1 : ZIs := [(26, ev_20), (27, ev_836), (30, ev_98)]
set_option maxRecDepth 100000 in
theorem xi_w140 : zall cX6_strongPart [zi_140_0, zi_140_1] := zall_w _ _ (by decide +kernel)
noncomputable def xi_140 (pc : Nat) : XIs := cond (Nat.blt pc 26) (zx zi_140_0) (zx zi_140_1)
theorem xi_ok140 (pc : Nat) : xi_ok cX6_strongPart (xi_140 pc) = true := xi_c (zq1 xi_w140) (zq1 (zq2 xi_w140))
noncomputable def zi_141_0 : ZIs := [(0, ev_21), (1, ev_206), (4, ev_21), (5, ev_640), (8, ev_7), (9, ev_197), (10, ev_277), (11, ev_252), (12, ev_768), (15, ev_836), (18, ev_98)]
set_option maxRecDepth 100000 in
theorem xi_w141 : zall cX6_weakPart [zi_141_0] := zall_w _ _ (by decide +kernel)
noncomputable def xi_141 (pc : Nat) : XIs := zx zi_141_0
theorem xi_ok141 (pc : Nat) : xi_ok cX6_weakPart (xi_141 pc) = true := zq1 xi_w141
noncomputable def zi_142_0 : ZIs := [(0, ev_21), (1, ev_197), (2, ev_837), (5, ev_378), (8, ev_10), (9, ev_98), (10, ev_21), (11, ev_838), (14, ev_197), (15, ev_18), (16, ev_295), (17, ev_21), (18, ev_839), (21, ev_197), (22, ev_18), (23, ev_11)]
noncomputable def zi_142_1 : ZIs := [(25, ev_10), (26, ev_25), (28, ev_96), (30, ev_21), (31, ev_840), (34, ev_815), (37, ev_96), (39, ev_197), (40, ev_841), (43, ev_21), (44, ev_96), (46, ev_837), (49, ev_842), (52, ev_21), (53, ev_838), (56, ev_96)]
noncomputable def zi_142_2 : ZIs := [(58, ev_18), (59, ev_198), (60, ev_727), (63, ev_21), (64, ev_839), (67, ev_96), (69, ev_18), (70, ev_12), (72, ev_843), (75, ev_21), (76, ev_838), (79, ev_96), (81, ev_18), (82, ev_12), (84, ev_538), (87, ev_21)]
noncomputable def zi_142_3 : ZIs := [(88, ev_839), (91, ev_96), (93, ev_18), (94, ev_198), (95, ev_691), (98, ev_10), (99, ev_98), (100, ev_343), (103, ev_844), (106, ev_21), (107, ev_206), (110, ev_21), (111, ev_640), (114, ev_21), (115, ev_640), (118, ev_198)]
noncomputable def zi_142_4 : ZIs := [(119, ev_18), (120, ev_7), (121, ev_12), (123, ev_277), (124, ev_252), (125, ev_317), (126, ev_20), (127, ev_7), (128, ev_198), (129, ev_277), (130, ev_252), (131, ev_317), (132, ev_768), (135, ev_25), (137, ev_96), (139, ev_12)]
noncomputable def zi_142_5 : ZIs := [(141, ev_303), (142, ev_7), (143, ev_20), (144, ev_326), (147, ev_7), (148, ev_229), (151, ev_10), (152, ev_98)]
set_option maxRecDepth 100000 in
theorem xi_w142 : zall cX6_isBridge [zi_142_0, zi_142_1, zi_142_2, zi_142_3, zi_142_4, zi_142_5] := zall_w _ _ (by decide +kernel)
noncomputable def xi_142 (pc : Nat) : XIs := cond (Nat.blt pc 88) (cond (Nat.blt pc 25) (zx zi_142_0) (cond (Nat.blt pc 58) (zx zi_142_1) (zx zi_142_2))) (cond (Nat.blt pc 119) (zx zi_142_3) (cond (Nat.blt pc 141) (zx zi_142_4) (zx zi_142_5)))
theorem xi_ok142 (pc : Nat) : xi_ok cX6_isBridge (xi_142 pc) = true := xi_c (xi_c (zq1 xi_w142) (xi_c (zq1 (zq2 xi_w142)) (zq1 (zq2 (zq2 xi_w142))))) (xi_c (zq1 (zq2 (zq2 (zq2 xi_w142)))) (xi_c (zq1 (zq2 (zq2 (zq2 (zq2 xi_w142))))) (zq1 (zq2 (zq2 (zq2 (zq2 (zq2 xi_w142))))))))
noncomputable def zi_143_0 : ZIs := [(0, ev_21), (1, ev_206), (4, ev_21), (5, ev_640), (8, ev_197), (9, ev_18), (10, ev_295), (11, ev_21), (12, ev_640), (15, ev_198), (16, ev_198), (17, ev_310), (18, ev_20), (19, ev_7), (20, ev_197), (21, ev_277)]
noncomputable def zi_143_1 : ZIs := [(22, ev_252), (23, ev_317), (24, ev_768), (27, ev_11), (29, ev_198), (30, ev_12), (32, ev_252), (33, ev_317), (34, ev_20), (35, ev_227), (38, ev_7), (39, ev_229), (42, ev_10), (43, ev_98)]
set_option maxRecDepth 100000 in
theorem xi_w143 : zall cX6_isCut [zi_143_0, zi_143_1] := zall_w _ _ (by decide +kernel)
noncomputable def xi_143 (pc : Nat) : XIs := cond (Nat.blt pc 22) (zx zi_143_0) (zx zi_143_1)
theorem xi_ok143 (pc : Nat) : xi_ok cX6_isCut (xi_143 pc) = true := xi_c (zq1 xi_w143) (zq1 (zq2 xi_w143))
noncomputable def zi_144_0 : ZIs := [(0, ev_13), (1, ev_261), (4, ev_21), (5, ev_845), (8, ev_281), (11, ev_13), (12, ev_21), (13, ev_845), (16, ev_253), (19, ev_13), (20, ev_21), (21, ev_221), (24, ev_197), (25, ev_13), (26, ev_673), (29, ev_846)]
noncomputable def zi_144_1 : ZIs := [(32, ev_13), (33, ev_280), (36, ev_197), (37, ev_18), (38, ev_229), (41, ev_252), (42, ev_98)]
set_option maxRecDepth 100000 in
theorem xi_w144 : zall cX6_ordered [zi_144_0, zi_144_1] := zall_w _ _ (by decide +kernel)
noncomputable def xi_144 (pc : Nat) : XIs := cond (Nat.blt pc 32) (zx zi_144_0) (zx zi_144_1)
theorem xi_ok144 (pc : Nat) : xi_ok cX6_ordered (xi_144 pc) = true := xi_c (zq1 xi_w144) (zq1 (zq2 xi_w144))
noncomputable def zi_145_0 : ZIs := [(0, ev_21), (1, ev_206), (4, ev_21), (5, ev_225), (8, ev_294), (9, ev_10), (10, ev_295), (11, ev_198), (12, ev_21), (13, ev_847), (16, ev_848), (19, ev_21), (20, ev_197), (21, ev_849), (24, ev_11), (26, ev_12)]
noncomputable def zi_145_1 : ZIs := [(28, ev_252), (29, ev_410), (32, ev_13), (33, ev_10), (34, ev_670), (37, ev_260), (38, ev_13), (39, ev_280), (42, ev_198), (43, ev_12), (45, ev_299), (46, ev_197), (47, ev_7), (48, ev_12), (50, ev_277), (51, ev_252)]
noncomputable def zi_145_2 : ZIs := [(52, ev_317), (53, ev_20), (54, ev_294), (55, ev_300), (58, ev_850), (61, ev_13), (62, ev_21), (63, ev_847), (66, ev_670), (69, ev_260)]
set_option maxRecDepth 100000 in
theorem xi_w145 : zall cX6_makeOrder [zi_145_0, zi_145_1, zi_145_2] := zall_w _ _ (by decide +kernel)
noncomputable def xi_145 (pc : Nat) : XIs := cond (Nat.blt pc 28) (zx zi_145_0) (cond (Nat.blt pc 52) (zx zi_145_1) (zx zi_145_2))
theorem xi_ok145 (pc : Nat) : xi_ok cX6_makeOrder (xi_145 pc) = true := xi_c (zq1 xi_w145) (xi_c (zq1 (zq2 xi_w145)) (zq1 (zq2 (zq2 xi_w145))))
noncomputable def zi_146_0 : ZIs := [(0, ev_192), (1, ev_294), (2, ev_197), (3, ev_851), (6, ev_13), (7, ev_575), (10, ev_197), (11, ev_836), (14, ev_18), (15, ev_192), (16, ev_20), (17, ev_852), (20, ev_197), (21, ev_836), (24, ev_98), (25, ev_197)]
noncomputable def zi_146_1 : ZIs := [(26, ev_197), (27, ev_7), (28, ev_16), (29, ev_20), (30, ev_294), (31, ev_853), (34, ev_252), (35, ev_98)]
set_option maxRecDepth 100000 in
theorem xi_w146 : zall cX6_firstFree [zi_146_0, zi_146_1] := zall_w _ _ (by decide +kernel)
noncomputable def xi_146 (pc : Nat) : XIs := cond (Nat.blt pc 26) (zx zi_146_0) (zx zi_146_1)
theorem xi_ok146 (pc : Nat) : xi_ok cX6_firstFree (xi_146 pc) = true := xi_c (zq1 xi_w146) (zq1 (zq2 xi_w146))
noncomputable def zi_147_0 : ZIs := [(0, ev_13), (1, ev_440), (4, ev_21), (5, ev_845), (8, ev_281), (11, ev_13), (12, ev_21), (13, ev_845), (16, ev_368), (19, ev_13), (20, ev_21), (21, ev_395), (24, ev_13), (25, ev_362), (28, ev_197), (29, ev_18)]
noncomputable def zi_147_1 : ZIs := [(30, ev_98)]
set_option maxRecDepth 100000 in
theorem xi_w147 : zall cX6_coreOf [zi_147_0, zi_147_1] := zall_w _ _ (by decide +kernel)
noncomputable def xi_147 (pc : Nat) : XIs := cond (Nat.blt pc 30) (zx zi_147_0) (zx zi_147_1)
theorem xi_ok147 (pc : Nat) : xi_ok cX6_coreOf (xi_147 pc) = true := xi_c (zq1 xi_w147) (zq1 (zq2 xi_w147))
noncomputable def zi_148_0 : ZIs := [(0, ev_21), (1, ev_206), (4, ev_21), (5, ev_225), (8, ev_294), (9, ev_10), (10, ev_295), (11, ev_21), (12, ev_13), (13, ev_341), (16, ev_396), (19, ev_10), (20, ev_11), (22, ev_12), (24, ev_21), (25, ev_847)]
noncomputable def zi_148_1 : ZIs := [(28, ev_854), (31, ev_13), (32, ev_197), (33, ev_855), (36, ev_25), (38, ev_198), (39, ev_13), (40, ev_341), (43, ev_96), (45, ev_18), (46, ev_856), (49, ev_295), (50, ev_13), (51, ev_362), (54, ev_96), (56, ev_198)]
noncomputable def zi_148_2 : ZIs := [(57, ev_299), (58, ev_197), (59, ev_7), (60, ev_96), (62, ev_277), (63, ev_252), (64, ev_317), (65, ev_20), (66, ev_294), (67, ev_13), (68, ev_21), (69, ev_96), (71, ev_857), (74, ev_348), (77, ev_858), (80, ev_260)]
set_option maxRecDepth 100000 in
theorem xi_w148 : zall cX6_peel [zi_148_0, zi_148_1, zi_148_2] := zall_w _ _ (by decide +kernel)
noncomputable def xi_148 (pc : Nat) : XIs := cond (Nat.blt pc 28) (zx zi_148_0) (cond (Nat.blt pc 57) (zx zi_148_1) (zx zi_148_2))
theorem xi_ok148 (pc : Nat) : xi_ok cX6_peel (xi_148 pc) = true := xi_c (zq1 xi_w148) (xi_c (zq1 (zq2 xi_w148)) (zq1 (zq2 (zq2 xi_w148))))
noncomputable def zi_149_0 : ZIs := [(0, ev_192), (1, ev_836), (4, ev_294), (5, ev_192), (6, ev_295), (7, ev_198), (8, ev_859), (11, ev_13), (12, ev_341), (15, ev_198), (16, ev_836), (19, ev_18), (20, ev_13), (21, ev_341), (24, ev_197), (25, ev_18)]
noncomputable def zi_149_1 : ZIs := [(26, ev_860), (29, ev_198), (30, ev_836), (33, ev_294), (34, ev_198), (35, ev_198), (36, ev_7), (37, ev_16), (38, ev_20), (39, ev_295), (40, ev_861), (43, ev_197), (44, ev_98)]
set_option maxRecDepth 100000 in
theorem xi_w149 : zall cX6_loosest [zi_149_0, zi_149_1] := zall_w _ _ (by decide +kernel)
noncomputable def xi_149 (pc : Nat) : XIs := cond (Nat.blt pc 26) (zx zi_149_0) (zx zi_149_1)
theorem xi_ok149 (pc : Nat) : xi_ok cX6_loosest (xi_149 pc) = true := xi_c (zq1 xi_w149) (zq1 (zq2 xi_w149))
noncomputable def zi_150_0 : ZIs := [(0, ev_21), (1, ev_862), (4, ev_197), (5, ev_18), (6, ev_295), (7, ev_198), (8, ev_21), (9, ev_862), (12, ev_197), (13, ev_7), (14, ev_22), (15, ev_18), (16, ev_863), (19, ev_13), (20, ev_341), (23, ev_21)]
noncomputable def zi_150_1 : ZIs := [(24, ev_839), (27, ev_21), (28, ev_864), (31, ev_198), (32, ev_18), (33, ev_18), (34, ev_316), (35, ev_18), (36, ev_7), (37, ev_16), (38, ev_299), (39, ev_300), (42, ev_293), (45, ev_21), (46, ev_865), (49, ev_197)]
noncomputable def zi_150_2 : ZIs := [(50, ev_18), (51, ev_295), (52, ev_198), (53, ev_21), (54, ev_865), (57, ev_197), (58, ev_7), (59, ev_22), (60, ev_18), (61, ev_863), (64, ev_13), (65, ev_341), (68, ev_21), (69, ev_838), (72, ev_21), (73, ev_866)]
noncomputable def zi_150_3 : ZIs := [(76, ev_198), (77, ev_18), (78, ev_18), (79, ev_316), (80, ev_18), (81, ev_7), (82, ev_16), (83, ev_299), (84, ev_300), (87, ev_293), (90, ev_260)]
set_option maxRecDepth 100000 in
theorem xi_w150 : zall cX6_loosen [zi_150_0, zi_150_1, zi_150_2, zi_150_3] := zall_w _ _ (by decide +kernel)
noncomputable def xi_150 (pc : Nat) : XIs := cond (Nat.blt pc 50) (cond (Nat.blt pc 24) (zx zi_150_0) (zx zi_150_1)) (cond (Nat.blt pc 76) (zx zi_150_2) (zx zi_150_3))
theorem xi_ok150 (pc : Nat) : xi_ok cX6_loosen (xi_150 pc) = true := xi_c (xi_c (zq1 xi_w150) (zq1 (zq2 xi_w150))) (xi_c (zq1 (zq2 (zq2 xi_w150))) (zq1 (zq2 (zq2 (zq2 xi_w150)))))
noncomputable def zi_151_0 : ZIs := [(0, ev_21), (1, ev_206), (4, ev_230), (5, ev_517), (6, ev_10), (7, ev_11), (9, ev_12), (11, ev_21), (12, ev_847), (15, ev_615), (18, ev_21), (19, ev_640), (22, ev_12), (24, ev_18), (25, ev_25), (27, ev_96)]
noncomputable def zi_151_1 : ZIs := [(29, ev_867), (32, ev_489), (33, ev_21), (34, ev_640), (37, ev_12), (39, ev_18), (40, ev_21), (41, ev_640), (44, ev_96), (46, ev_836), (49, ev_18), (50, ev_20), (51, ev_868), (54, ev_102), (55, ev_457), (56, ev_517)]
noncomputable def zi_151_2 : ZIs := [(57, ev_96), (59, ev_96), (61, ev_7), (62, ev_16), (63, ev_20), (64, ev_25), (66, ev_719), (69, ev_348), (72, ev_869), (75, ev_489), (76, ev_870), (79, ev_490), (80, ev_481)]
set_option maxRecDepth 100000 in
theorem xi_w151 : zall cX6_triangles [zi_151_0, zi_151_1, zi_151_2] := zall_w _ _ (by decide +kernel)
noncomputable def xi_151 (pc : Nat) : XIs := cond (Nat.blt pc 29) (zx zi_151_0) (cond (Nat.blt pc 57) (zx zi_151_1) (zx zi_151_2))
theorem xi_ok151 (pc : Nat) : xi_ok cX6_triangles (xi_151 pc) = true := xi_c (zq1 xi_w151) (xi_c (zq1 (zq2 xi_w151)) (zq1 (zq2 (zq2 xi_w151))))
noncomputable def zi_152_0 : ZIs := [(0, ev_21), (1, ev_206), (4, ev_230), (5, ev_517), (6, ev_10), (7, ev_11), (9, ev_12), (11, ev_21), (12, ev_847), (15, ev_871), (18, ev_12), (20, ev_7), (21, ev_22), (22, ev_25), (24, ev_96), (26, ev_21)]
noncomputable def zi_152_1 : ZIs := [(27, ev_847), (30, ev_511), (33, ev_21), (34, ev_640), (37, ev_12), (39, ev_18), (40, ev_21), (41, ev_640), (44, ev_96), (46, ev_18), (47, ev_20), (48, ev_868), (51, ev_28), (53, ev_489), (54, ev_101), (56, ev_101)]
noncomputable def zi_152_2 : ZIs := [(58, ev_7), (59, ev_16), (60, ev_355), (61, ev_30), (62, ev_582), (63, ev_102), (64, ev_457), (65, ev_517), (66, ev_343), (69, ev_730), (72, ev_348), (75, ev_872), (78, ev_489), (79, ev_873), (82, ev_490), (83, ev_481)]
set_option maxRecDepth 100000 in
theorem xi_w152 : zall cX6_squares [zi_152_0, zi_152_1, zi_152_2] := zall_w _ _ (by decide +kernel)
noncomputable def xi_152 (pc : Nat) : XIs := cond (Nat.blt pc 27) (zx zi_152_0) (cond (Nat.blt pc 58) (zx zi_152_1) (zx zi_152_2))
theorem xi_ok152 (pc : Nat) : xi_ok cX6_squares (xi_152 pc) = true := xi_c (zq1 xi_w152) (xi_c (zq1 (zq2 xi_w152)) (zq1 (zq2 (zq2 xi_w152))))
noncomputable def zi_153_0 : ZIs := [(0, ev_13), (1, ev_251), (4, ev_13), (5, ev_228), (6, ev_253), (9, ev_13), (10, ev_228), (11, ev_254), (14, ev_13), (15, ev_391), (17, ev_8), (19, ev_256), (22, ev_13), (23, ev_874), (25, ev_8), (27, ev_257)]
noncomputable def zi_153_1 : ZIs := [(30, ev_13), (31, ev_875), (33, ev_255), (35, ev_258), (38, ev_13), (39, ev_875), (41, ev_8), (43, ev_370), (46, ev_13), (47, ev_176), (49, ev_8), (51, ev_371), (54, ev_13), (55, ev_176), (57, ev_8), (59, ev_372)]
noncomputable def zi_153_2 : ZIs := [(62, ev_13), (63, ev_176), (65, ev_8), (67, ev_704), (70, ev_260)]
set_option maxRecDepth 100000 in
theorem xi_w153 : zall cX7_init [zi_153_0, zi_153_1, zi_153_2] := zall_w _ _ (by decide +kernel)
noncomputable def xi_153 (pc : Nat) : XIs := cond (Nat.blt pc 30) (zx zi_153_0) (cond (Nat.blt pc 62) (zx zi_153_1) (zx zi_153_2))
theorem xi_ok153 (pc : Nat) : xi_ok cX7_init (xi_153 pc) = true := xi_c (zq1 xi_w153) (xi_c (zq1 (zq2 xi_w153)) (zq1 (zq2 (zq2 xi_w153))))
noncomputable def zi_154_0 : ZIs := [(0, ev_21), (1, ev_876), (4, ev_21), (5, ev_707), (8, ev_389), (10, ev_374), (13, ev_21), (14, ev_30), (15, ev_389), (17, ev_837), (20, ev_98), (21, ev_21), (22, ev_877), (25, ev_378), (28, ev_10), (29, ev_98)]
noncomputable def zi_154_1 : ZIs := [(30, ev_13), (31, ev_21), (32, ev_878), (35, ev_7), (36, ev_98)]
set_option maxRecDepth 100000 in
theorem xi_w154 : zall cX7_adopt [zi_154_0, zi_154_1] := zall_w _ _ (by decide +kernel)
noncomputable def xi_154 (pc : Nat) : XIs := cond (Nat.blt pc 30) (zx zi_154_0) (zx zi_154_1)
theorem xi_ok154 (pc : Nat) : xi_ok cX7_adopt (xi_154 pc) = true := xi_c (zq1 xi_w154) (zq1 (zq2 xi_w154))
noncomputable def zi_155_0 : ZIs := [(0, ev_10), (1, ev_685), (2, ev_10), (3, ev_294), (4, ev_10), (5, ev_295), (6, ev_198), (7, ev_13), (8, ev_707), (11, ev_879), (14, ev_13), (15, ev_880), (18, ev_198), (19, ev_881), (20, ev_11), (22, ev_12)]
noncomputable def zi_155_1 : ZIs := [(24, ev_197), (25, ev_192), (26, ev_882), (29, ev_25), (31, ev_96), (33, ev_252), (34, ev_409), (37, ev_13), (38, ev_96), (40, ev_198), (41, ev_837), (44, ev_98), (45, ev_12), (47, ev_412), (49, ev_774), (52, ev_688)]
noncomputable def zi_155_2 : ZIs := [(55, ev_12), (57, ev_419), (59, ev_774), (62, ev_702), (65, ev_12), (67, ev_419), (69, ev_409), (72, ev_12), (74, ev_284), (77, ev_227), (80, ev_7), (81, ev_229), (84, ev_10), (85, ev_294), (86, ev_300), (89, ev_883)]
noncomputable def zi_155_3 : ZIs := [(92, ev_192), (93, ev_771), (96, ev_13), (97, ev_30), (98, ev_13), (99, ev_707), (102, ev_837), (105, ev_227), (108, ev_7), (109, ev_229), (112, ev_10), (113, ev_98)]
set_option maxRecDepth 100000 in
theorem xi_w155 : zall cX7_isGood [zi_155_0, zi_155_1, zi_155_2, zi_155_3] := zall_w _ _ (by decide +kernel)
noncomputable def xi_155 (pc : Nat) : XIs := cond (Nat.blt pc 55) (cond (Nat.blt pc 24) (zx zi_155_0) (zx zi_155_1)) (cond (Nat.blt pc 92) (zx zi_155_2) (zx zi_155_3))
theorem xi_ok155 (pc : Nat) : xi_ok cX7_isGood (xi_155 pc) = true := xi_c (xi_c (zq1 xi_w155) (zq1 (zq2 xi_w155))) (xi_c (zq1 (zq2 (zq2 xi_w155))) (zq1 (zq2 (zq2 (zq2 xi_w155)))))
noncomputable def zi_156_0 : ZIs := [(0, ev_482)]
noncomputable def xi_156_1 : XIs := [(1, .lookupswitch 93 #[(40, 69), (41, 81), (42, 59), (43, 59), (63, 59), (124, 91)], 59)]
set_option maxRecDepth 100000 in
theorem xi_ok156_1 : xi_ok cX7_judge xi_156_1 = true := by decide +kernel
noncomputable def zi_156_2 : ZIs := [(60, ev_192), (61, ev_227), (64, ev_252), (65, ev_229), (68, ev_30), (69, ev_98), (70, ev_197), (71, ev_413), (73, ev_656), (76, ev_252), (77, ev_229), (80, ev_31), (81, ev_98), (82, ev_197), (83, ev_493), (86, ev_252)]
noncomputable def zi_156_3 : ZIs := [(87, ev_229), (90, ev_30), (91, ev_98), (92, ev_252), (93, ev_98), (94, ev_482), (95, ev_284), (98, ev_227), (101, ev_252), (102, ev_229), (105, ev_7), (106, ev_98)]
set_option maxRecDepth 100000 in
theorem xi_w156 : zall cX7_judge [zi_156_0, zi_156_2, zi_156_3] := zall_w _ _ (by decide +kernel)
noncomputable def xi_156 (pc : Nat) : XIs := cond (Nat.blt pc 60) (cond (Nat.blt pc 1) (zx zi_156_0) (xi_156_1)) (cond (Nat.blt pc 87) (zx zi_156_2) (zx zi_156_3))
theorem xi_ok156 (pc : Nat) : xi_ok cX7_judge (xi_156 pc) = true := xi_c (xi_c (zq1 xi_w156) (xi_ok156_1)) (xi_c (zq1 (zq2 xi_w156)) (zq1 (zq2 (zq2 xi_w156))))
noncomputable def zi_157_0 : ZIs := [(0, ev_482), (1, ev_884), (3, ev_742), (6, ev_482), (7, ev_422), (9, ev_414), (12, ev_482), (13, ev_885), (15, ev_886), (18, ev_7), (19, ev_229), (22, ev_10), (23, ev_98)]
set_option maxRecDepth 100000 in
theorem xi_w157 : zall cX7_isAtom [zi_157_0] := zall_w _ _ (by decide +kernel)
noncomputable def xi_157 (pc : Nat) : XIs := zx zi_157_0
theorem xi_ok157 (pc : Nat) : xi_ok cX7_isAtom (xi_157 pc) = true := zq1 xi_w157
noncomputable def zi_158_0 : ZIs := [(0, ev_13), (1, ev_287), (4, ev_230), (5, ev_887), (8, ev_13), (9, ev_362), (12, ev_230), (13, ev_887), (16, ev_13), (17, ev_228), (18, ev_253), (21, ev_13), (22, ev_228), (23, ev_21), (24, ev_707), (27, ev_177)]
noncomputable def zi_158_1 : ZIs := [(28, ev_254), (31, ev_13), (32, ev_465), (35, ev_10), (36, ev_230), (37, ev_194), (38, ev_10), (39, ev_294), (40, ev_10), (41, ev_295), (42, ev_198), (43, ev_21), (44, ev_707), (47, ev_888), (50, ev_21), (51, ev_880)]
noncomputable def zi_158_2 : ZIs := [(54, ev_198), (55, ev_881), (56, ev_11), (58, ev_198), (59, ev_25), (61, ev_12), (63, ev_412), (65, ev_889), (68, ev_197), (69, ev_413), (71, ev_346), (74, ev_304), (77, ev_13), (78, ev_341), (81, ev_197), (82, ev_198)]
noncomputable def zi_158_3 : ZIs := [(83, ev_299), (84, ev_13), (85, ev_465), (88, ev_197), (89, ev_230), (90, ev_194), (91, ev_890), (94, ev_12), (96, ev_419), (98, ev_891), (101, ev_197), (102, ev_892), (105, ev_13), (106, ev_341), (109, ev_197), (110, ev_18)]
noncomputable def zi_158_4 : ZIs := [(111, ev_25), (113, ev_13), (114, ev_13), (115, ev_465), (118, ev_197), (119, ev_100), (120, ev_228), (121, ev_198), (122, ev_177), (123, ev_231), (126, ev_893), (129, ev_13), (130, ev_12), (132, ev_198), (133, ev_197), (134, ev_395)]
noncomputable def zi_158_5 : ZIs := [(137, ev_198), (138, ev_7), (139, ev_22), (140, ev_21), (141, ev_707), (144, ev_686), (147, ev_13), (148, ev_21), (149, ev_880), (152, ev_198), (153, ev_7), (154, ev_22), (155, ev_881), (156, ev_96), (158, ev_198), (159, ev_7)]
noncomputable def zi_158_6 : ZIs := [(160, ev_22), (161, ev_291), (164, ev_300), (167, ev_894), (170, ev_13), (171, ev_13), (172, ev_465), (175, ev_10), (176, ev_100), (177, ev_13), (178, ev_280), (181, ev_231), (184, ev_13), (185, ev_21), (186, ev_707), (189, ev_855)]
noncomputable def zi_158_7 : ZIs := [(192, ev_260)]
set_option maxRecDepth 100000 in
theorem xi_w158 : zall cX7_build [zi_158_0, zi_158_1, zi_158_2, zi_158_3, zi_158_4, zi_158_5, zi_158_6, zi_158_7] := zall_w _ _ (by decide +kernel)
noncomputable def xi_158 (pc : Nat) : XIs := cond (Nat.blt pc 111) (cond (Nat.blt pc 54) (cond (Nat.blt pc 28) (zx zi_158_0) (zx zi_158_1)) (cond (Nat.blt pc 83) (zx zi_158_2) (zx zi_158_3))) (cond (Nat.blt pc 160) (cond (Nat.blt pc 137) (zx zi_158_4) (zx zi_158_5)) (cond (Nat.blt pc 192) (zx zi_158_6) (zx zi_158_7)))
theorem xi_ok158 (pc : Nat) : xi_ok cX7_build (xi_158 pc) = true := xi_c (xi_c (xi_c (zq1 xi_w158) (zq1 (zq2 xi_w158))) (xi_c (zq1 (zq2 (zq2 xi_w158))) (zq1 (zq2 (zq2 (zq2 xi_w158)))))) (xi_c (xi_c (zq1 (zq2 (zq2 (zq2 (zq2 xi_w158))))) (zq1 (zq2 (zq2 (zq2 (zq2 (zq2 xi_w158))))))) (xi_c (zq1 (zq2 (zq2 (zq2 (zq2 (zq2 (zq2 xi_w158))))))) (zq1 (zq2 (zq2 (zq2 (zq2 (zq2 (zq2 (zq2 xi_w158))))))))))
noncomputable def zi_159_0 : ZIs := [(0, ev_483), (1, ev_574), (3, ev_501), (5, ev_230), (6, ev_103), (7, ev_416), (10, ev_13), (11, ev_287), (14, ev_501), (16, ev_895), (19, ev_316), (20, ev_100), (21, ev_484), (22, ev_180), (23, ev_194), (24, ev_501)]
noncomputable def zi_159_1 : ZIs := [(26, ev_501), (28, ev_228), (29, ev_485), (30, ev_179), (31, ev_574), (33, ev_645), (36, ev_260)]
set_option maxRecDepth 100000 in
theorem xi_w159 : zall cX7_closeBars [zi_159_0, zi_159_1] := zall_w _ _ (by decide +kernel)
noncomputable def xi_159 (pc : Nat) : XIs := cond (Nat.blt pc 26) (zx zi_159_0) (zx zi_159_1)
theorem xi_ok159 (pc : Nat) : xi_ok cX7_closeBars (xi_159 pc) = true := xi_c (zq1 xi_w159) (zq1 (zq2 xi_w159))
noncomputable def zi_160_0 : ZIs := [(0, ev_228), (1, ev_197), (2, ev_7), (3, ev_22), (4, ev_177), (5, ev_442), (7, ev_192), (8, ev_884), (10, ev_896), (13, ev_10), (14, ev_28), (16, ev_101), (18, ev_874), (20, ev_315), (23, ev_13), (24, ev_362)]
noncomputable def zi_160_1 : ZIs := [(27, ev_101), (29, ev_316), (30, ev_100), (31, ev_228), (32, ev_197), (33, ev_177), (34, ev_180), (35, ev_194), (36, ev_320), (39, ev_711), (42, ev_897), (45, ev_192), (46, ev_284), (49, ev_333), (52, ev_13), (53, ev_362)]
noncomputable def zi_160_2 : ZIs := [(56, ev_192), (57, ev_422), (59, ev_16), (60, ev_316), (61, ev_100), (62, ev_228), (63, ev_197), (64, ev_177), (65, ev_180), (66, ev_194), (67, ev_898), (70, ev_192), (71, ev_899), (73, ev_900), (76, ev_13), (77, ev_287)]
noncomputable def zi_160_3 : ZIs := [(80, ev_197), (81, ev_316), (82, ev_100), (83, ev_247), (85, ev_180), (86, ev_194), (87, ev_901), (90, ev_13), (91, ev_465), (94, ev_198), (95, ev_316), (96, ev_100), (97, ev_228), (98, ev_197), (99, ev_177), (100, ev_180)]
noncomputable def zi_160_4 : ZIs := [(101, ev_194), (102, ev_198), (103, ev_807), (106, ev_13), (107, ev_1), (108, ev_261), (111, ev_247), (113, ev_180), (114, ev_253), (117, ev_902), (120, ev_13), (121, ev_287), (124, ev_13), (125, ev_341), (128, ev_198), (129, ev_18)]
noncomputable def zi_160_5 : ZIs := [(130, ev_316), (131, ev_100), (132, ev_247), (134, ev_180), (135, ev_194), (136, ev_260)]
set_option maxRecDepth 100000 in
theorem xi_w160 : zall cX7_layPlace [zi_160_0, zi_160_1, zi_160_2, zi_160_3, zi_160_4, zi_160_5] := zall_w _ _ (by decide +kernel)
noncomputable def xi_160 (pc : Nat) : XIs := cond (Nat.blt pc 80) (cond (Nat.blt pc 27) (zx zi_160_0) (cond (Nat.blt pc 56) (zx zi_160_1) (zx zi_160_2))) (cond (Nat.blt pc 101) (zx zi_160_3) (cond (Nat.blt pc 130) (zx zi_160_4) (zx zi_160_5)))
theorem xi_ok160 (pc : Nat) : xi_ok cX7_layPlace (xi_160 pc) = true := xi_c (xi_c (zq1 xi_w160) (xi_c (zq1 (zq2 xi_w160)) (zq1 (zq2 (zq2 xi_w160))))) (xi_c (zq1 (zq2 (zq2 (zq2 xi_w160)))) (xi_c (zq1 (zq2 (zq2 (zq2 (zq2 xi_w160))))) (zq1 (zq2 (zq2 (zq2 (zq2 (zq2 xi_w160))))))))
noncomputable def zi_161_0 : ZIs := [(0, ev_192), (1, ev_405), (3, ev_903), (6, ev_192), (7, ev_398), (9, ev_727), (12, ev_13), (13, ev_287), (16, ev_198), (17, ev_316), (18, ev_100), (19, ev_228), (20, ev_197), (21, ev_177), (22, ev_180), (23, ev_194)]
noncomputable def zi_161_1 : ZIs := [(24, ev_192), (25, ev_405), (27, ev_903), (30, ev_192), (31, ev_19), (33, ev_727), (36, ev_13), (37, ev_287), (40, ev_197), (41, ev_316), (42, ev_100), (43, ev_228), (44, ev_198), (45, ev_177), (46, ev_180), (47, ev_194)]
noncomputable def zi_161_2 : ZIs := [(48, ev_260)]
set_option maxRecDepth 100000 in
theorem xi_w161 : zall cX7_layRepeat [zi_161_0, zi_161_1, zi_161_2] := zall_w _ _ (by decide +kernel)
noncomputable def xi_161 (pc : Nat) : XIs := cond (Nat.blt pc 24) (zx zi_161_0) (cond (Nat.blt pc 48) (zx zi_161_1) (zx zi_161_2))
theorem xi_ok161 (pc : Nat) : xi_ok cX7_layRepeat (xi_161 pc) = true := xi_c (zq1 xi_w161) (xi_c (zq1 (zq2 xi_w161)) (zq1 (zq2 (zq2 xi_w161))))
noncomputable def zi_162_0 : ZIs := [(0, ev_10), (1, ev_294), (2, ev_197), (3, ev_192), (4, ev_904), (7, ev_13), (8, ev_287), (11, ev_197), (12, ev_316), (13, ev_100), (14, ev_228), (15, ev_197), (16, ev_177), (17, ev_180), (18, ev_194), (19, ev_304)]
noncomputable def zi_162_1 : ZIs := [(22, ev_758), (25, ev_10), (26, ev_294), (27, ev_197), (28, ev_192), (29, ev_905), (32, ev_10), (33, ev_295), (34, ev_198), (35, ev_192), (36, ev_906), (39, ev_13), (40, ev_287), (43, ev_198), (44, ev_100), (45, ev_197)]
noncomputable def zi_162_2 : ZIs := [(46, ev_907), (47, ev_228), (48, ev_179), (49, ev_230), (50, ev_103), (51, ev_393), (54, ev_13), (55, ev_287), (58, ev_198), (59, ev_316), (60, ev_100), (61, ev_13), (62, ev_287), (65, ev_197), (66, ev_100), (67, ev_180)]
noncomputable def zi_162_3 : ZIs := [(68, ev_194), (69, ev_300), (72, ev_583), (75, ev_304), (78, ev_908), (81, ev_13), (82, ev_280), (85, ev_517), (86, ev_10), (87, ev_11), (89, ev_12), (91, ev_874), (93, ev_622), (96, ev_489), (97, ev_13), (98, ev_362)]
noncomputable def zi_162_4 : ZIs := [(101, ev_12), (103, ev_100), (104, ev_180), (105, ev_517), (106, ev_348), (109, ev_758), (112, ev_10), (113, ev_11), (115, ev_12), (117, ev_192), (118, ev_909), (121, ev_13), (122, ev_287), (125, ev_12), (127, ev_316), (128, ev_100)]
noncomputable def zi_162_5 : ZIs := [(129, ev_489), (130, ev_179), (131, ev_194), (132, ev_348), (135, ev_758), (138, ev_230), (139, ev_442), (141, ev_13), (142, ev_261), (145, ev_58), (147, ev_460), (149, ev_230), (150, ev_103), (151, ev_767), (154, ev_247), (156, ev_13)]
noncomputable def zi_162_6 : ZIs := [(157, ev_287), (160, ev_460), (162, ev_895), (165, ev_100), (166, ev_180), (167, ev_442), (169, ev_460), (171, ev_460), (173, ev_228), (174, ev_485), (175, ev_179), (176, ev_58), (178, ev_610), (181, ev_13), (182, ev_247), (184, ev_253)]
noncomputable def zi_162_7 : ZIs := [(187, ev_260)]
set_option maxRecDepth 100000 in
theorem xi_w162 : zall cX7_close [zi_162_0, zi_162_1, zi_162_2, zi_162_3, zi_162_4, zi_162_5, zi_162_6, zi_162_7] := zall_w _ _ (by decide +kernel)
noncomputable def xi_162 (pc : Nat) : XIs := cond (Nat.blt pc 101) (cond (Nat.blt pc 46) (cond (Nat.blt pc 22) (zx zi_162_0) (zx zi_162_1)) (cond (Nat.blt pc 68) (zx zi_162_2) (zx zi_162_3))) (cond (Nat.blt pc 157) (cond (Nat.blt pc 129) (zx zi_162_4) (zx zi_162_5)) (cond (Nat.blt pc 187) (zx zi_162_6) (zx zi_162_7)))
theorem xi_ok162 (pc : Nat) : xi_ok cX7_close (xi_162 pc) = true := xi_c (xi_c (xi_c (zq1 xi_w162) (zq1 (zq2 xi_w162))) (xi_c (zq1 (zq2 (zq2 xi_w162))) (zq1 (zq2 (zq2 (zq2 xi_w162)))))) (xi_c (xi_c (zq1 (zq2 (zq2 (zq2 (zq2 xi_w162))))) (zq1 (zq2 (zq2 (zq2 (zq2 (zq2 xi_w162))))))) (xi_c (zq1 (zq2 (zq2 (zq2 (zq2 (zq2 (zq2 xi_w162))))))) (zq1 (zq2 (zq2 (zq2 (zq2 (zq2 (zq2 (zq2 xi_w162))))))))))
noncomputable def zi_163_0 : ZIs := [(0, ev_21), (1, ev_910), (4, ev_13), (5, ev_434), (8, ev_230), (9, ev_887), (12, ev_13), (13, ev_751), (16, ev_230), (17, ev_887), (20, ev_13), (21, ev_434), (24, ev_197), (25, ev_13), (26, ev_261), (29, ev_194)]
noncomputable def zi_163_1 : ZIs := [(30, ev_13), (31, ev_751), (34, ev_197), (35, ev_13), (36, ev_261), (39, ev_194), (40, ev_10), (41, ev_11), (43, ev_12), (45, ev_911), (48, ev_912), (51, ev_13), (52, ev_751), (55, ev_198), (56, ev_100), (57, ev_13)]
noncomputable def zi_163_2 : ZIs := [(58, ev_280), (61, ev_179), (62, ev_230), (63, ev_103), (64, ev_687), (67, ev_12), (69, ev_98), (70, ev_13), (71, ev_21), (72, ev_424), (75, ev_378), (78, ev_252), (79, ev_98), (80, ev_348), (83, ev_752), (86, ev_252)]
noncomputable def zi_163_3 : ZIs := [(87, ev_98)]
set_option maxRecDepth 100000 in
theorem xi_w163 : zall cX7_leastFit [zi_163_0, zi_163_1, zi_163_2, zi_163_3] := zall_w _ _ (by decide +kernel)
noncomputable def xi_163 (pc : Nat) : XIs := cond (Nat.blt pc 58) (cond (Nat.blt pc 30) (zx zi_163_0) (zx zi_163_1)) (cond (Nat.blt pc 87) (zx zi_163_2) (zx zi_163_3))
theorem xi_ok163 (pc : Nat) : xi_ok cX7_leastFit (xi_163 pc) = true := xi_c (xi_c (zq1 xi_w163) (zq1 (zq2 xi_w163))) (xi_c (zq1 (zq2 (zq2 xi_w163))) (zq1 (zq2 (zq2 (zq2 xi_w163)))))
noncomputable def zi_164_0 : ZIs := [(0, ev_10), (1, ev_294), (2, ev_13), (3, ev_430), (6, ev_230), (7, ev_887), (10, ev_10), (11, ev_295), (12, ev_198), (13, ev_21), (14, ev_793), (17, ev_913), (20, ev_21), (21, ev_795), (24, ev_198), (25, ev_18)]
noncomputable def zi_164_1 : ZIs := [(26, ev_11), (28, ev_12), (30, ev_21), (31, ev_795), (34, ev_198), (35, ev_7), (36, ev_22), (37, ev_18), (38, ev_914), (41, ev_13), (42, ev_434), (45, ev_198), (46, ev_100), (47, ev_230), (48, ev_103), (49, ev_915)]
noncomputable def zi_164_2 : ZIs := [(52, ev_21), (53, ev_916), (56, ev_12), (58, ev_18), (59, ev_25), (61, ev_21), (62, ev_917), (65, ev_96), (67, ev_18), (68, ev_28), (70, ev_13), (71, ev_13), (72, ev_434), (75, ev_198), (76, ev_100), (77, ev_13)]
noncomputable def zi_164_3 : ZIs := [(78, ev_362), (81, ev_21), (82, ev_918), (85, ev_96), (87, ev_18), (88, ev_100), (89, ev_179), (90, ev_919), (93, ev_13), (94, ev_751), (97, ev_101), (99, ev_100), (100, ev_920), (103, ev_520), (104, ev_179), (105, ev_921)]
noncomputable def zi_164_4 : ZIs := [(107, ev_13), (108, ev_430), (111, ev_101), (113, ev_316), (114, ev_100), (115, ev_922), (117, ev_180), (118, ev_194), (119, ev_13), (120, ev_751), (123, ev_101), (125, ev_316), (126, ev_100), (127, ev_922), (129, ev_180), (130, ev_194)]
noncomputable def zi_164_5 : ZIs := [(131, ev_197), (132, ev_922), (134, ev_230), (135, ev_103), (136, ev_227), (139, ev_7), (140, ev_229), (143, ev_10), (144, ev_278), (145, ev_294), (146, ev_348), (149, ev_606), (152, ev_300), (155, ev_923), (158, ev_13), (159, ev_430)]
noncomputable def zi_164_6 : ZIs := [(162, ev_10), (163, ev_13), (164, ev_434), (167, ev_10), (168, ev_176), (170, ev_363), (173, ev_197), (174, ev_98)]
set_option maxRecDepth 100000 in
theorem xi_w164 : zall cX7_step [zi_164_0, zi_164_1, zi_164_2, zi_164_3, zi_164_4, zi_164_5, zi_164_6] := zall_w _ _ (by decide +kernel)
noncomputable def xi_164 (pc : Nat) : XIs := cond (Nat.blt pc 78) (cond (Nat.blt pc 26) (zx zi_164_0) (cond (Nat.blt pc 52) (zx zi_164_1) (zx zi_164_2))) (cond (Nat.blt pc 131) (cond (Nat.blt pc 107) (zx zi_164_3) (zx zi_164_4)) (cond (Nat.blt pc 162) (zx zi_164_5) (zx zi_164_6)))
theorem xi_ok164 (pc : Nat) : xi_ok cX7_step (xi_164 pc) = true := xi_c (xi_c (zq1 xi_w164) (xi_c (zq1 (zq2 xi_w164)) (zq1 (zq2 (zq2 xi_w164))))) (xi_c (xi_c (zq1 (zq2 (zq2 (zq2 xi_w164)))) (zq1 (zq2 (zq2 (zq2 (zq2 xi_w164)))))) (xi_c (zq1 (zq2 (zq2 (zq2 (zq2 (zq2 xi_w164)))))) (zq1 (zq2 (zq2 (zq2 (zq2 (zq2 (zq2 xi_w164)))))))))
noncomputable def zi_165_0 : ZIs := [(0, ev_230), (1, ev_924), (2, ev_483), (3, ev_574), (5, ev_501), (7, ev_230), (8, ev_103), (9, ev_767), (12, ev_484), (13, ev_13), (14, ev_287), (17, ev_501), (19, ev_895), (22, ev_7), (23, ev_22), (24, ev_100)]
noncomputable def zi_165_1 : ZIs := [(25, ev_180), (26, ev_924), (27, ev_501), (29, ev_501), (31, ev_228), (32, ev_485), (33, ev_179), (34, ev_574), (36, ev_610), (39, ev_484), (40, ev_481)]
set_option maxRecDepth 100000 in
theorem xi_w165 : zall cX7_behind [zi_165_0, zi_165_1] := zall_w _ _ (by decide +kernel)
noncomputable def xi_165 (pc : Nat) : XIs := cond (Nat.blt pc 25) (zx zi_165_0) (zx zi_165_1)
theorem xi_ok165 (pc : Nat) : xi_ok cX7_behind (xi_165 pc) = true := xi_c (zq1 xi_w165) (zq1 (zq2 xi_w165))
noncomputable def zi_166_0 : ZIs := [(0, ev_13), (1, ev_251), (4, ev_13), (5, ev_803), (8, ev_925), (10, ev_253), (13, ev_13), (14, ev_252), (15, ev_254), (18, ev_13), (19, ev_252), (20, ev_368), (23, ev_13), (24, ev_926), (27, ev_925), (29, ev_257)]
noncomputable def zi_166_1 : ZIs := [(32, ev_260)]
set_option maxRecDepth 100000 in
theorem xi_w166 : zall cX8_init [zi_166_0, zi_166_1] := zall_w _ _ (by decide +kernel)
noncomputable def xi_166 (pc : Nat) : XIs := cond (Nat.blt pc 32) (zx zi_166_0) (zx zi_166_1)
theorem xi_ok166 (pc : Nat) : xi_ok cX8_init (xi_166 pc) = true := xi_c (zq1 xi_w166) (zq1 (zq2 xi_w166))
noncomputable def zi_167_0 : ZIs := [(0, ev_13), (1, ev_10), (2, ev_258), (5, ev_13), (6, ev_252), (7, ev_254), (10, ev_13), (11, ev_252), (12, ev_368), (15, ev_260)]
set_option maxRecDepth 100000 in
theorem xi_w167 : zall cX8_begin [zi_167_0] := zall_w _ _ (by decide +kernel)
noncomputable def xi_167 (pc : Nat) : XIs := zx zi_167_0
theorem xi_ok167 (pc : Nat) : xi_ok cX8_begin (xi_167 pc) = true := zq1 xi_w167
noncomputable def zi_168_0 : ZIs := [(0, ev_13), (1, ev_192), (2, ev_254), (5, ev_13), (6, ev_197), (7, ev_368), (10, ev_10), (11, ev_98)]
set_option maxRecDepth 100000 in
theorem xi_w168 : zall cX8_accuse [zi_168_0] := zall_w _ _ (by decide +kernel)
noncomputable def xi_168 (pc : Nat) : XIs := zx zi_168_0
theorem xi_ok168 (pc : Nat) : xi_ok cX8_accuse (xi_168 pc) = true := zq1 xi_w168
noncomputable def zi_169_0 : ZIs := [(0, ev_13), (1, ev_283), (4, ev_32), (5, ev_927), (8, ev_13), (9, ev_7), (10, ev_13), (11, ev_262), (14, ev_928), (17, ev_98), (18, ev_13), (19, ev_13), (20, ev_283), (23, ev_33), (24, ev_818), (27, ev_197)]
noncomputable def zi_169_1 : ZIs := [(28, ev_229), (31, ev_192), (32, ev_13), (33, ev_262), (36, ev_928), (39, ev_98)]
set_option maxRecDepth 100000 in
theorem xi_w169 : zall cX8_refuse [zi_169_0, zi_169_1] := zall_w _ _ (by decide +kernel)
noncomputable def xi_169 (pc : Nat) : XIs := cond (Nat.blt pc 28) (zx zi_169_0) (zx zi_169_1)
theorem xi_ok169 (pc : Nat) : xi_ok cX8_refuse (xi_169 pc) = true := xi_c (zq1 xi_w169) (zq1 (zq2 xi_w169))
noncomputable def zi_170_0 : ZIs := [(0, ev_13), (1, ev_283), (4, ev_31), (5, ev_727), (8, ev_13), (9, ev_751), (12, ev_192), (13, ev_818), (16, ev_7), (17, ev_229), (20, ev_10), (21, ev_98)]
set_option maxRecDepth 100000 in
theorem xi_w170 : zall cX8_isAt [zi_170_0] := zall_w _ _ (by decide +kernel)
noncomputable def xi_170 (pc : Nat) : XIs := zx zi_170_0
theorem xi_ok170 (pc : Nat) : xi_ok cX8_isAt (xi_170 pc) = true := zq1 xi_w170
noncomputable def zi_171_0 : ZIs := [(0, ev_13), (1, ev_341), (4, ev_13), (5, ev_705), (8, ev_929), (11, ev_13), (12, ev_261), (15, ev_13), (16, ev_341), (19, ev_881), (20, ev_176), (22, ev_538), (25, ev_13), (26, ev_1), (27, ev_341), (30, ev_7)]
noncomputable def zi_171_1 : ZIs := [(31, ev_22), (32, ev_258), (35, ev_293), (38, ev_13), (39, ev_13), (40, ev_341), (43, ev_530), (46, ev_13), (47, ev_10), (48, ev_259), (51, ev_13), (52, ev_341), (55, ev_13), (56, ev_705), (59, ev_271), (62, ev_260)]
noncomputable def zi_171_2 : ZIs := [(63, ev_13), (64, ev_261), (67, ev_13), (68, ev_341), (71, ev_881), (72, ev_295), (73, ev_197), (74, ev_634), (77, ev_198), (78, ev_400), (80, ev_818), (83, ev_7), (84, ev_229), (87, ev_10), (88, ev_11), (90, ev_13)]
noncomputable def zi_171_3 : ZIs := [(91, ev_12), (93, ev_649), (96, ev_13), (97, ev_341), (100, ev_7), (101, ev_22), (102, ev_212), (105, ev_13), (106, ev_341), (109, ev_930), (112, ev_931), (115, ev_13), (116, ev_12), (118, ev_192), (119, ev_215), (122, ev_260)]
noncomputable def zi_171_4 : ZIs := [(123, ev_13), (124, ev_1), (125, ev_341), (128, ev_7), (129, ev_22), (130, ev_258), (133, ev_198), (134, ev_422), (136, ev_932), (139, ev_198), (140, ev_885), (142, ev_933), (145, ev_13), (146, ev_7), (147, ev_259), (150, ev_13)]
noncomputable def zi_171_5 : ZIs := [(151, ev_198), (152, ev_422), (154, ev_16), (155, ev_704), (158, ev_260), (159, ev_13), (160, ev_198), (161, ev_197), (162, ev_934), (165, ev_227), (168, ev_31), (169, ev_229), (172, ev_32), (173, ev_259), (176, ev_13), (177, ev_198)]
noncomputable def zi_171_6 : ZIs := [(178, ev_704), (181, ev_260)]
set_option maxRecDepth 100000 in
theorem xi_w171 : zall cX8_next [zi_171_0, zi_171_1, zi_171_2, zi_171_3, zi_171_4, zi_171_5, zi_171_6] := zall_w _ _ (by decide +kernel)
noncomputable def xi_171 (pc : Nat) : XIs := cond (Nat.blt pc 91) (cond (Nat.blt pc 31) (zx zi_171_0) (cond (Nat.blt pc 63) (zx zi_171_1) (zx zi_171_2))) (cond (Nat.blt pc 151) (cond (Nat.blt pc 123) (zx zi_171_3) (zx zi_171_4)) (cond (Nat.blt pc 178) (zx zi_171_5) (zx zi_171_6)))
theorem xi_ok171 (pc : Nat) : xi_ok cX8_next (xi_171 pc) = true := xi_c (xi_c (zq1 xi_w171) (xi_c (zq1 (zq2 xi_w171)) (zq1 (zq2 (zq2 xi_w171))))) (xi_c (xi_c (zq1 (zq2 (zq2 (zq2 xi_w171)))) (zq1 (zq2 (zq2 (zq2 (zq2 xi_w171)))))) (xi_c (zq1 (zq2 (zq2 (zq2 (zq2 (zq2 xi_w171)))))) (zq1 (zq2 (zq2 (zq2 (zq2 (zq2 (zq2 xi_w171)))))))))
noncomputable def zi_172_0 : ZIs := [(0, ev_192), (1, ev_13), (2, ev_705), (5, ev_863), (8, ev_13), (9, ev_261), (12, ev_192), (13, ev_881), (14, ev_935), (16, ev_936), (19, ev_13), (20, ev_261), (23, ev_192), (24, ev_881), (25, ev_937), (27, ev_886)]
noncomputable def zi_172_1 : ZIs := [(30, ev_7), (31, ev_229), (34, ev_10), (35, ev_98)]
set_option maxRecDepth 100000 in
theorem xi_w172 : zall cX8_isDigit [zi_172_0, zi_172_1] := zall_w _ _ (by decide +kernel)
noncomputable def xi_172 (pc : Nat) : XIs := cond (Nat.blt pc 30) (zx zi_172_0) (zx zi_172_1)
theorem xi_ok172 (pc : Nat) : xi_ok cX8_isDigit (xi_172 pc) = true := xi_c (zq1 xi_w172) (zq1 (zq2 xi_w172))
noncomputable def zi_173_0 : ZIs := [(0, ev_10), (1, ev_295), (2, ev_10), (3, ev_11), (5, ev_13), (6, ev_192), (7, ev_649), (10, ev_13), (11, ev_341), (14, ev_7), (15, ev_22), (16, ev_212), (19, ev_13), (20, ev_341), (23, ev_258), (26, ev_13)]
noncomputable def zi_173_1 : ZIs := [(27, ev_341), (30, ev_13), (31, ev_705), (34, ev_938), (37, ev_13), (38, ev_13), (39, ev_341), (42, ev_930), (45, ev_939), (48, ev_300), (51, ev_198), (52, ev_197), (53, ev_940), (56, ev_12), (58, ev_413), (60, ev_355)]
noncomputable def zi_173_2 : ZIs := [(61, ev_13), (62, ev_261), (65, ev_13), (66, ev_341), (69, ev_881), (70, ev_935), (72, ev_16), (73, ev_22), (74, ev_11), (76, ev_13), (77, ev_1), (78, ev_341), (81, ev_7), (82, ev_22), (83, ev_258), (86, ev_619)]
noncomputable def zi_173_3 : ZIs := [(89, ev_13), (90, ev_192), (91, ev_347), (94, ev_12), (96, ev_310), (97, ev_638), (100, ev_12), (102, ev_704), (105, ev_13), (106, ev_198), (107, ev_197), (108, ev_941), (111, ev_33), (112, ev_229), (115, ev_30), (116, ev_259)]
noncomputable def zi_173_4 : ZIs := [(119, ev_260)]
set_option maxRecDepth 100000 in
theorem xi_w173 : zall cX8_readNumber [zi_173_0, zi_173_1, zi_173_2, zi_173_3, zi_173_4] := zall_w _ _ (by decide +kernel)
noncomputable def xi_173 (pc : Nat) : XIs := cond (Nat.blt pc 61) (cond (Nat.blt pc 27) (zx zi_173_0) (zx zi_173_1)) (cond (Nat.blt pc 89) (zx zi_173_2) (cond (Nat.blt pc 119) (zx zi_173_3) (zx zi_173_4)))
theorem xi_ok173 (pc : Nat) : xi_ok cX8_readNumber (xi_173 pc) = true := xi_c (xi_c (zq1 xi_w173) (zq1 (zq2 xi_w173))) (xi_c (zq1 (zq2 (zq2 xi_w173))) (xi_c (zq1 (zq2 (zq2 (zq2 xi_w173)))) (zq1 (zq2 (zq2 (zq2 (zq2 xi_w173)))))))
noncomputable def zi_174_0 : ZIs := [(0, ev_482), (1, ev_379), (3, ev_281), (6, ev_192), (7, ev_292), (10, ev_942), (12, ev_482), (13, ev_878), (16, ev_831), (19, ev_7), (20, ev_229), (23, ev_10), (24, ev_98)]
set_option maxRecDepth 100000 in
theorem xi_w174 : zall cX8_isSign [zi_174_0] := zall_w _ _ (by decide +kernel)
noncomputable def xi_174 (pc : Nat) : XIs := zx zi_174_0
theorem xi_ok174 (pc : Nat) : xi_ok cX8_isSign (xi_174 pc) = true := zq1 xi_w174
noncomputable def zi_175_0 : ZIs := [(0, ev_13), (1, ev_10), (2, ev_668), (5, ev_10), (6, ev_294), (7, ev_197), (8, ev_21), (9, ev_672), (12, ev_943), (15, ev_13), (16, ev_944), (18, ev_945), (21, ev_13), (22, ev_21), (23, ev_289), (26, ev_197)]
noncomputable def zi_175_1 : ZIs := [(27, ev_18), (28, ev_231), (31, ev_304), (34, ev_360), (37, ev_10), (38, ev_294), (39, ev_197), (40, ev_21), (41, ev_551), (44, ev_946), (47, ev_21), (48, ev_947), (51, ev_197), (52, ev_18), (53, ev_252), (54, ev_948)]
noncomputable def zi_175_2 : ZIs := [(57, ev_13), (58, ev_422), (60, ev_945), (63, ev_13), (64, ev_21), (65, ev_947), (68, ev_197), (69, ev_18), (70, ev_403), (73, ev_13), (74, ev_21), (75, ev_789), (78, ev_197), (79, ev_18), (80, ev_403), (83, ev_13)]
noncomputable def zi_175_3 : ZIs := [(84, ev_21), (85, ev_790), (88, ev_197), (89, ev_18), (90, ev_403), (93, ev_13), (94, ev_21), (95, ev_791), (98, ev_197), (99, ev_18), (100, ev_403), (103, ev_13), (104, ev_21), (105, ev_729), (108, ev_197), (109, ev_18)]
noncomputable def zi_175_4 : ZIs := [(110, ev_231), (113, ev_304), (116, ev_350), (119, ev_13), (120, ev_671), (123, ev_98)]
set_option maxRecDepth 100000 in
theorem xi_w175 : zall cX8_write [zi_175_0, zi_175_1, zi_175_2, zi_175_3, zi_175_4] := zall_w _ _ (by decide +kernel)
noncomputable def xi_175 (pc : Nat) : XIs := cond (Nat.blt pc 57) (cond (Nat.blt pc 27) (zx zi_175_0) (zx zi_175_1)) (cond (Nat.blt pc 84) (zx zi_175_2) (cond (Nat.blt pc 110) (zx zi_175_3) (zx zi_175_4)))
theorem xi_ok175 (pc : Nat) : xi_ok cX8_write (xi_175 pc) = true := xi_c (xi_c (zq1 xi_w175) (zq1 (zq2 xi_w175))) (xi_c (zq1 (zq2 (zq2 xi_w175))) (xi_c (zq1 (zq2 (zq2 (zq2 xi_w175)))) (zq1 (zq2 (zq2 (zq2 (zq2 xi_w175)))))))
noncomputable def zi_176_0 : ZIs := [(0, ev_13), (1, ev_176), (3, ev_945), (6, ev_13), (7, ev_422), (9, ev_192), (10, ev_22), (11, ev_423), (12, ev_945), (15, ev_13), (16, ev_379), (18, ev_945), (21, ev_260)]
set_option maxRecDepth 100000 in
theorem xi_w176 : zall cX8_endCommand [zi_176_0] := zall_w _ _ (by decide +kernel)
noncomputable def xi_176 (pc : Nat) : XIs := zx zi_176_0
theorem xi_ok176 (pc : Nat) : xi_ok cX8_endCommand (xi_176 pc) = true := zq1 xi_w176
noncomputable def zi_177_0 : ZIs := [(0, ev_13), (1, ev_671), (4, ev_13), (5, ev_362), (8, ev_14), (9, ev_346), (12, ev_13), (13, ev_362), (16, ev_13), (17, ev_671), (20, ev_192), (21, ev_949), (22, ev_13), (23, ev_1), (24, ev_671), (27, ev_7)]
noncomputable def zi_177_1 : ZIs := [(28, ev_22), (29, ev_668), (32, ev_260)]
set_option maxRecDepth 100000 in
theorem xi_w177 : zall cX8_put [zi_177_0, zi_177_1] := zall_w _ _ (by decide +kernel)
noncomputable def xi_177 (pc : Nat) : XIs := cond (Nat.blt pc 28) (zx zi_177_0) (zx zi_177_1)
theorem xi_ok177 (pc : Nat) : xi_ok cX8_put (xi_177 pc) = true := xi_c (zq1 xi_w177) (zq1 (zq2 xi_w177))
noncomputable def zi_178_0 : ZIs := [(0, ev_13), (1, ev_176), (3, ev_945), (6, ev_192), (7, ev_950), (10, ev_13), (11, ev_400), (13, ev_945), (16, ev_192), (17, ev_951), (20, ev_294), (21, ev_7), (22, ev_295), (23, ev_10), (24, ev_11), (26, ev_12)]
noncomputable def zi_178_1 : ZIs := [(28, ev_468), (30, ev_315), (33, ev_197), (34, ev_198), (35, ev_582), (36, ev_413), (38, ev_601), (41, ev_198), (42, ev_413), (44, ev_355), (45, ev_295), (46, ev_348), (49, ev_711), (52, ev_198), (53, ev_952), (56, ev_13)]
noncomputable def zi_178_2 : ZIs := [(57, ev_935), (59, ev_197), (60, ev_198), (61, ev_582), (62, ev_413), (64, ev_508), (65, ev_22), (66, ev_423), (67, ev_945), (70, ev_198), (71, ev_413), (73, ev_582), (74, ev_295), (75, ev_711), (78, ev_260)]
set_option maxRecDepth 100000 in
theorem xi_w178 : zall cX8_putNumber [zi_178_0, zi_178_1, zi_178_2] := zall_w _ _ (by decide +kernel)
noncomputable def xi_178 (pc : Nat) : XIs := cond (Nat.blt pc 28) (zx zi_178_0) (cond (Nat.blt pc 57) (zx zi_178_1) (zx zi_178_2))
theorem xi_ok178 (pc : Nat) : xi_ok cX8_putNumber (xi_178 pc) = true := xi_c (zq1 xi_w178) (xi_c (zq1 (zq2 xi_w178)) (zq1 (zq2 (zq2 xi_w178))))
noncomputable def zi_179_0 : ZIs := [(0, ev_13), (1, ev_251), (4, ev_13), (5, ev_529), (8, ev_255), (10, ev_253), (13, ev_13), (14, ev_529), (17, ev_255), (19, ev_254), (22, ev_13), (23, ev_529), (26, ev_8), (28, ev_256), (31, ev_13), (32, ev_176)]
noncomputable def zi_179_1 : ZIs := [(34, ev_8), (36, ev_257), (39, ev_13), (40, ev_176), (42, ev_255), (44, ev_258), (47, ev_13), (48, ev_176), (50, ev_255), (52, ev_259), (55, ev_13), (56, ev_176), (58, ev_255), (60, ev_530), (63, ev_13), (64, ev_176)]
noncomputable def zi_179_2 : ZIs := [(66, ev_255), (68, ev_531), (71, ev_13), (72, ev_252), (73, ev_532), (76, ev_13), (77, ev_528), (80, ev_8), (82, ev_953), (85, ev_260)]
set_option maxRecDepth 100000 in
theorem xi_w179 : zall cX9_init [zi_179_0, zi_179_1, zi_179_2] := zall_w _ _ (by decide +kernel)
noncomputable def xi_179 (pc : Nat) : XIs := cond (Nat.blt pc 34) (zx zi_179_0) (cond (Nat.blt pc 66) (zx zi_179_1) (zx zi_179_2))
theorem xi_ok179 (pc : Nat) : xi_ok cX9_init (xi_179 pc) = true := xi_c (zq1 xi_w179) (xi_c (zq1 (zq2 xi_w179)) (zq1 (zq2 (zq2 xi_w179))))
noncomputable def zi_180_0 : ZIs := [(0, ev_13), (1, ev_21), (2, ev_930), (5, ev_230), (6, ev_924), (7, ev_21), (8, ev_701), (11, ev_25), (13, ev_197), (14, ev_28), (16, ev_10), (17, ev_275), (19, ev_276), (21, ev_176), (23, ev_588), (26, ev_13)]
noncomputable def zi_180_1 : ZIs := [(27, ev_96), (29, ev_101), (31, ev_377), (34, ev_326), (37, ev_954), (40, ev_481), (41, ev_10), (42, ev_313), (44, ev_314), (46, ev_96), (48, ev_622), (51, ev_484), (52, ev_13), (53, ev_362), (56, ev_314), (58, ev_100)]
noncomputable def zi_180_2 : ZIs := [(59, ev_457), (60, ev_924), (61, ev_318), (64, ev_758), (67, ev_13), (68, ev_96), (70, ev_101), (72, ev_777), (75, ev_313), (77, ev_314), (79, ev_378), (82, ev_484), (83, ev_481), (84, ev_13), (85, ev_96), (87, ev_314)]
noncomputable def zi_180_3 : ZIs := [(89, ev_220), (92, ev_327), (94, ev_13), (95, ev_221), (98, ev_13), (99, ev_262), (102, ev_101), (104, ev_18), (105, ev_28), (107, ev_329), (109, ev_25), (111, ev_955), (114, ev_956), (117, ev_484), (118, ev_481)]
set_option maxRecDepth 100000 in
theorem xi_w180 : zall cX9_leastRooted [zi_180_0, zi_180_1, zi_180_2, zi_180_3] := zall_w _ _ (by decide +kernel)
noncomputable def xi_180 (pc : Nat) : XIs := cond (Nat.blt pc 59) (cond (Nat.blt pc 27) (zx zi_180_0) (zx zi_180_1)) (cond (Nat.blt pc 89) (zx zi_180_2) (zx zi_180_3))
theorem xi_ok180 (pc : Nat) : xi_ok cX9_leastRooted (xi_180 pc) = true := xi_c (xi_c (zq1 xi_w180) (zq1 (zq2 xi_w180))) (xi_c (zq1 (zq2 (zq2 xi_w180))) (zq1 (zq2 (zq2 (zq2 xi_w180)))))
noncomputable def zi_181_0 : ZIs := [(0, ev_13), (1, ev_10), (2, ev_957), (5, ev_10), (6, ev_294), (7, ev_197), (8, ev_21), (9, ev_958), (12, ev_449), (15, ev_21), (16, ev_197), (17, ev_959), (20, ev_353), (23, ev_13), (24, ev_261), (27, ev_13)]
noncomputable def zi_181_1 : ZIs := [(28, ev_960), (31, ev_21), (32, ev_307), (35, ev_197), (36, ev_18), (37, ev_299), (38, ev_13), (39, ev_280), (42, ev_13), (43, ev_960), (46, ev_21), (47, ev_961), (50, ev_197), (51, ev_18), (52, ev_299), (53, ev_13)]
noncomputable def zi_181_2 : ZIs := [(54, ev_287), (57, ev_13), (58, ev_960), (61, ev_21), (62, ev_962), (65, ev_197), (66, ev_18), (67, ev_102), (68, ev_194), (69, ev_13), (70, ev_1), (71, ev_960), (74, ev_7), (75, ev_22), (76, ev_957), (79, ev_304)]
noncomputable def zi_181_3 : ZIs := [(82, ev_844), (85, ev_260)]
set_option maxRecDepth 100000 in
theorem xi_w181 : zall cX9_copyArcs [zi_181_0, zi_181_1, zi_181_2, zi_181_3] := zall_w _ _ (by decide +kernel)
noncomputable def xi_181 (pc : Nat) : XIs := cond (Nat.blt pc 54) (cond (Nat.blt pc 28) (zx zi_181_0) (zx zi_181_1)) (cond (Nat.blt pc 82) (zx zi_181_2) (zx zi_181_3))
theorem xi_ok181 (pc : Nat) : xi_ok cX9_copyArcs (xi_181 pc) = true := xi_c (xi_c (zq1 xi_w181) (zq1 (zq2 xi_w181))) (xi_c (zq1 (zq2 (zq2 xi_w181))) (zq1 (zq2 (zq2 (zq2 xi_w181)))))
noncomputable def zi_182_0 : ZIs := [(0, ev_13), (1, ev_362), (4, ev_963), (7, ev_964), (10, ev_10), (11, ev_295), (12, ev_198), (13, ev_13), (14, ev_960), (17, ev_965), (20, ev_13), (21, ev_261), (24, ev_198), (25, ev_18), (26, ev_13), (27, ev_280)]
noncomputable def zi_182_1 : ZIs := [(30, ev_198), (31, ev_18), (32, ev_966), (35, ev_13), (36, ev_287), (39, ev_198), (40, ev_100), (41, ev_13), (42, ev_362), (45, ev_13), (46, ev_280), (49, ev_198), (50, ev_18), (51, ev_100), (52, ev_103), (53, ev_630)]
noncomputable def zi_182_2 : ZIs := [(56, ev_13), (57, ev_362), (60, ev_13), (61, ev_280), (64, ev_198), (65, ev_18), (66, ev_13), (67, ev_287), (70, ev_198), (71, ev_100), (72, ev_194), (73, ev_13), (74, ev_341), (77, ev_13), (78, ev_280), (81, ev_198)]
noncomputable def zi_182_3 : ZIs := [(82, ev_18), (83, ev_13), (84, ev_261), (87, ev_198), (88, ev_18), (89, ev_299), (90, ev_300), (93, ev_441), (96, ev_13), (97, ev_362), (100, ev_197), (101, ev_230), (102, ev_194), (103, ev_10), (104, ev_295), (105, ev_198)]
noncomputable def zi_182_4 : ZIs := [(106, ev_192), (107, ev_302), (110, ev_13), (111, ev_362), (114, ev_198), (115, ev_100), (116, ev_963), (119, ev_103), (120, ev_378), (123, ev_10), (124, ev_98), (125, ev_300), (128, ev_711), (131, ev_7), (132, ev_98)]
set_option maxRecDepth 100000 in
theorem xi_w182 : zall cX9_takeCheapest [zi_182_0, zi_182_1, zi_182_2, zi_182_3, zi_182_4] := zall_w _ _ (by decide +kernel)
noncomputable def xi_182 (pc : Nat) : XIs := cond (Nat.blt pc 56) (cond (Nat.blt pc 30) (zx zi_182_0) (zx zi_182_1)) (cond (Nat.blt pc 82) (zx zi_182_2) (cond (Nat.blt pc 106) (zx zi_182_3) (zx zi_182_4)))
theorem xi_ok182 (pc : Nat) : xi_ok cX9_takeCheapest (xi_182 pc) = true := xi_c (xi_c (zq1 xi_w182) (zq1 (zq2 xi_w182))) (xi_c (zq1 (zq2 (zq2 xi_w182))) (xi_c (zq1 (zq2 (zq2 (zq2 xi_w182)))) (zq1 (zq2 (zq2 (zq2 (zq2 xi_w182)))))))
noncomputable def zi_183_0 : ZIs := [(0, ev_10), (1, ev_295), (2, ev_13), (3, ev_262), (6, ev_252), (7, ev_967), (10, ev_13), (11, ev_283), (14, ev_252), (15, ev_967), (18, ev_10), (19, ev_11), (21, ev_12), (23, ev_192), (24, ev_968), (27, ev_12)]
noncomputable def zi_183_1 : ZIs := [(29, ev_25), (31, ev_10), (32, ev_28), (34, ev_101), (36, ev_192), (37, ev_969), (40, ev_96), (42, ev_197), (43, ev_970), (46, ev_13), (47, ev_283), (50, ev_96), (52, ev_18), (53, ev_252), (54, ev_971), (57, ev_13)]
noncomputable def zi_183_2 : ZIs := [(58, ev_283), (61, ev_96), (63, ev_12), (65, ev_299), (66, ev_13), (67, ev_341), (70, ev_96), (72, ev_18), (73, ev_25), (75, ev_320), (78, ev_972), (81, ev_96), (83, ev_197), (84, ev_973), (87, ev_13), (88, ev_283)]
noncomputable def zi_183_3 : ZIs := [(91, ev_96), (93, ev_18), (94, ev_12), (96, ev_974), (99, ev_13), (100, ev_262), (103, ev_96), (105, ev_18), (106, ev_252), (107, ev_975), (110, ev_10), (111, ev_28), (113, ev_101), (115, ev_192), (116, ev_737), (119, ev_13)]
noncomputable def zi_183_4 : ZIs := [(120, ev_262), (123, ev_96), (125, ev_18), (126, ev_252), (127, ev_976), (130, ev_13), (131, ev_262), (134, ev_96), (136, ev_198), (137, ev_299), (138, ev_13), (139, ev_341), (142, ev_96), (144, ev_18), (145, ev_25), (147, ev_320)]
noncomputable def zi_183_5 : ZIs := [(150, ev_301), (153, ev_300), (156, ev_348), (159, ev_977), (162, ev_198), (163, ev_98)]
set_option maxRecDepth 100000 in
theorem xi_w183 : zall cX9_nameRings [zi_183_0, zi_183_1, zi_183_2, zi_183_3, zi_183_4, zi_183_5] := zall_w _ _ (by decide +kernel)
noncomputable def xi_183 (pc : Nat) : XIs := cond (Nat.blt pc 91) (cond (Nat.blt pc 29) (zx zi_183_0) (cond (Nat.blt pc 58) (zx zi_183_1) (zx zi_183_2))) (cond (Nat.blt pc 120) (zx zi_183_3) (cond (Nat.blt pc 150) (zx zi_183_4) (zx zi_183_5)))
theorem xi_ok183 (pc : Nat) : xi_ok cX9_nameRings (xi_183 pc) = true := xi_c (xi_c (zq1 xi_w183) (xi_c (zq1 (zq2 xi_w183)) (zq1 (zq2 (zq2 xi_w183))))) (xi_c (zq1 (zq2 (zq2 (zq2 xi_w183)))) (xi_c (zq1 (zq2 (zq2 (zq2 (zq2 xi_w183))))) (zq1 (zq2 (zq2 (zq2 (zq2 (zq2 xi_w183))))))))
noncomputable def zi_184_0 : ZIs := [(0, ev_197), (1, ev_295), (2, ev_10), (3, ev_11), (5, ev_12), (7, ev_192), (8, ev_585), (11, ev_13), (12, ev_262), (15, ev_12), (17, ev_18), (18, ev_252), (19, ev_798), (22, ev_13), (23, ev_262), (26, ev_12)]
noncomputable def zi_184_1 : ZIs := [(28, ev_198), (29, ev_299), (30, ev_300), (33, ev_348), (36, ev_610), (39, ev_198), (40, ev_98)]
set_option maxRecDepth 100000 in
theorem xi_w184 : zall cX9_nameOthers [zi_184_0, zi_184_1] := zall_w _ _ (by decide +kernel)
noncomputable def xi_184 (pc : Nat) : XIs := cond (Nat.blt pc 28) (zx zi_184_0) (zx zi_184_1)
theorem xi_ok184 (pc : Nat) : xi_ok cX9_nameOthers (xi_184 pc) = true := xi_c (zq1 xi_w184) (zq1 (zq2 xi_w184))
noncomputable def zi_185_0 : ZIs := [(0, ev_10), (1, ev_685), (2, ev_192), (3, ev_13), (4, ev_960), (7, ev_505), (10, ev_13), (11, ev_280), (14, ev_192), (15, ev_18), (16, ev_294), (17, ev_13), (18, ev_261), (21, ev_192), (22, ev_18), (23, ev_295)]
noncomputable def zi_185_1 : ZIs := [(24, ev_198), (25, ev_197), (26, ev_978), (29, ev_13), (30, ev_287), (33, ev_192), (34, ev_316), (35, ev_100), (36, ev_13), (37, ev_362), (40, ev_197), (41, ev_100), (42, ev_485), (43, ev_194), (44, ev_13), (45, ev_261)]
noncomputable def zi_185_2 : ZIs := [(48, ev_192), (49, ev_13), (50, ev_262), (53, ev_198), (54, ev_18), (55, ev_299), (56, ev_13), (57, ev_280), (60, ev_192), (61, ev_13), (62, ev_262), (65, ev_197), (66, ev_18), (67, ev_299), (68, ev_688), (71, ev_510)]
noncomputable def zi_185_3 : ZIs := [(74, ev_260)]
set_option maxRecDepth 100000 in
theorem xi_w185 : zall cX9_shrinkRings [zi_185_0, zi_185_1, zi_185_2, zi_185_3] := zall_w _ _ (by decide +kernel)
noncomputable def xi_185 (pc : Nat) : XIs := cond (Nat.blt pc 48) (cond (Nat.blt pc 24) (zx zi_185_0) (zx zi_185_1)) (cond (Nat.blt pc 74) (zx zi_185_2) (zx zi_185_3))
theorem xi_ok185 (pc : Nat) : xi_ok cX9_shrinkRings (xi_185 pc) = true := xi_c (xi_c (zq1 xi_w185) (zq1 (zq2 xi_w185))) (xi_c (zq1 (zq2 (zq2 xi_w185))) (zq1 (zq2 (zq2 (zq2 xi_w185)))))
noncomputable def zi_186_0 : ZIs := [(0, ev_21), (1, ev_197), (2, ev_959), (5, ev_378), (8, ev_10), (9, ev_98), (10, ev_13), (11, ev_599), (14, ev_10), (15, ev_967), (18, ev_10), (19, ev_295), (20, ev_198), (21, ev_21), (22, ev_958), (25, ev_979)]
noncomputable def zi_186_1 : ZIs := [(28, ev_21), (29, ev_198), (30, ev_959), (33, ev_980), (36, ev_21), (37, ev_198), (38, ev_197), (39, ev_981), (42, ev_982), (45, ev_13), (46, ev_599), (49, ev_21), (50, ev_307), (53, ev_198), (54, ev_18), (55, ev_316)]
noncomputable def zi_186_2 : ZIs := [(56, ev_18), (57, ev_7), (58, ev_21), (59, ev_961), (62, ev_198), (63, ev_18), (64, ev_277), (65, ev_278), (66, ev_299), (67, ev_13), (68, ev_599), (71, ev_21), (72, ev_961), (75, ev_198), (76, ev_18), (77, ev_316)]
noncomputable def zi_186_3 : ZIs := [(78, ev_18), (79, ev_7), (80, ev_21), (81, ev_307), (84, ev_198), (85, ev_18), (86, ev_277), (87, ev_278), (88, ev_299), (89, ev_300), (92, ev_983), (95, ev_13), (96, ev_599), (99, ev_7), (100, ev_21), (101, ev_307)]
noncomputable def zi_186_4 : ZIs := [(104, ev_197), (105, ev_18), (106, ev_277), (107, ev_252), (108, ev_984), (111, ev_21), (112, ev_961), (115, ev_197), (116, ev_18), (117, ev_303), (118, ev_7), (119, ev_20), (120, ev_326), (123, ev_7), (124, ev_229), (127, ev_10)]
noncomputable def zi_186_5 : ZIs := [(128, ev_98)]
set_option maxRecDepth 100000 in
theorem xi_w186 : zall cX9_isSpanning [zi_186_0, zi_186_1, zi_186_2, zi_186_3, zi_186_4, zi_186_5] := zall_w _ _ (by decide +kernel)
noncomputable def xi_186 (pc : Nat) : XIs := cond (Nat.blt pc 78) (cond (Nat.blt pc 28) (zx zi_186_0) (cond (Nat.blt pc 56) (zx zi_186_1) (zx zi_186_2))) (cond (Nat.blt pc 104) (zx zi_186_3) (cond (Nat.blt pc 128) (zx zi_186_4) (zx zi_186_5)))
theorem xi_ok186 (pc : Nat) : xi_ok cX9_isSpanning (xi_186 pc) = true := xi_c (xi_c (zq1 xi_w186) (xi_c (zq1 (zq2 xi_w186)) (zq1 (zq2 (zq2 xi_w186))))) (xi_c (zq1 (zq2 (zq2 (zq2 xi_w186)))) (xi_c (zq1 (zq2 (zq2 (zq2 (zq2 xi_w186))))) (zq1 (zq2 (zq2 (zq2 (zq2 (zq2 xi_w186))))))))
noncomputable def zi_187_0 : ZIs := [(0, ev_13), (1, ev_962), (4, ev_192), (5, ev_18), (6, ev_13), (7, ev_962), (10, ev_197), (11, ev_18), (12, ev_932), (15, ev_13), (16, ev_962), (19, ev_192), (20, ev_18), (21, ev_13), (22, ev_962), (25, ev_197)]
noncomputable def zi_187_1 : ZIs := [(26, ev_18), (27, ev_690), (30, ev_192), (31, ev_197), (32, ev_656), (35, ev_7), (36, ev_229), (39, ev_10), (40, ev_98)]
set_option maxRecDepth 100000 in
theorem xi_w187 : zall cX9_isBefore [zi_187_0, zi_187_1] := zall_w _ _ (by decide +kernel)
noncomputable def xi_187 (pc : Nat) : XIs := cond (Nat.blt pc 26) (zx zi_187_0) (zx zi_187_1)
theorem xi_ok187 (pc : Nat) : xi_ok cX9_isBefore (xi_187 pc) = true := xi_c (zq1 xi_w187) (zq1 (zq2 xi_w187))
noncomputable def zi_188_0 : ZIs := [(0, ev_13), (1, ev_586), (4, ev_21), (5, ev_864), (8, ev_985), (11, ev_13), (12, ev_21), (13, ev_864), (16, ev_532), (19, ev_13), (20, ev_21), (21, ev_701), (24, ev_326), (27, ev_10), (28, ev_986), (31, ev_13)]
noncomputable def zi_188_1 : ZIs := [(32, ev_21), (33, ev_240), (36, ev_987), (39, ev_13), (40, ev_916), (43, ev_98)]
set_option maxRecDepth 100000 in
theorem xi_w188 : zall cX9_countSpanning [zi_188_0, zi_188_1] := zall_w _ _ (by decide +kernel)
noncomputable def xi_188 (pc : Nat) : XIs := cond (Nat.blt pc 32) (zx zi_188_0) (zx zi_188_1)
theorem xi_ok188 (pc : Nat) : xi_ok cX9_countSpanning (xi_188 pc) = true := xi_c (zq1 xi_w188) (zq1 (zq2 xi_w188))
noncomputable def zi_189_0 : ZIs := [(0, ev_13), (1, ev_705), (4, ev_230), (5, ev_964), (8, ev_10), (9, ev_294), (10, ev_197), (11, ev_21), (12, ev_958), (15, ev_988), (18, ev_21), (19, ev_197), (20, ev_959), (23, ev_915), (26, ev_13), (27, ev_705)]
noncomputable def zi_189_1 : ZIs := [(30, ev_21), (31, ev_307), (34, ev_197), (35, ev_18), (36, ev_176), (38, ev_355), (39, ev_21), (40, ev_307), (43, ev_197), (44, ev_18), (45, ev_22), (46, ev_316), (47, ev_100), (48, ev_228), (49, ev_457), (50, ev_194)]
noncomputable def zi_189_2 : ZIs := [(51, ev_13), (52, ev_705), (55, ev_21), (56, ev_961), (59, ev_197), (60, ev_18), (61, ev_176), (63, ev_355), (64, ev_21), (65, ev_961), (68, ev_197), (69, ev_18), (70, ev_22), (71, ev_316), (72, ev_100), (73, ev_228)]
noncomputable def zi_189_3 : ZIs := [(74, ev_457), (75, ev_194), (76, ev_13), (77, ev_705), (80, ev_21), (81, ev_307), (84, ev_197), (85, ev_18), (86, ev_176), (88, ev_355), (89, ev_21), (90, ev_961), (93, ev_197), (94, ev_18), (95, ev_22), (96, ev_316)]
noncomputable def zi_189_4 : ZIs := [(97, ev_100), (98, ev_228), (99, ev_485), (100, ev_194), (101, ev_13), (102, ev_705), (105, ev_21), (106, ev_961), (109, ev_197), (110, ev_18), (111, ev_176), (113, ev_355), (114, ev_21), (115, ev_307), (118, ev_197), (119, ev_18)]
noncomputable def zi_189_5 : ZIs := [(120, ev_22), (121, ev_316), (122, ev_100), (123, ev_228), (124, ev_485), (125, ev_194), (126, ev_304), (129, ev_989), (132, ev_10), (133, ev_294), (134, ev_197), (135, ev_13), (136, ev_705), (139, ev_14), (140, ev_990), (143, ev_13)]
noncomputable def zi_189_6 : ZIs := [(144, ev_705), (147, ev_197), (148, ev_13), (149, ev_705), (152, ev_197), (153, ev_100), (154, ev_573), (157, ev_736), (160, ev_194), (161, ev_304), (164, ev_645), (167, ev_21), (168, ev_701), (171, ev_7), (172, ev_16), (173, ev_294)]
noncomputable def zi_189_7 : ZIs := [(174, ev_228), (175, ev_924), (176, ev_10), (177, ev_25), (179, ev_96), (181, ev_197), (182, ev_863), (185, ev_484), (186, ev_230), (187, ev_103), (188, ev_769), (191, ev_484), (192, ev_13), (193, ev_96), (195, ev_197), (196, ev_245)]
noncomputable def zi_189_8 : ZIs := [(199, ev_492), (200, ev_573), (203, ev_527), (204, ev_924), (205, ev_343), (208, ev_853), (211, ev_484), (212, ev_991), (213, ev_98)]
set_option maxRecDepth 100000 in
theorem xi_w189 : zall cX9_countTrees [zi_189_0, zi_189_1, zi_189_2, zi_189_3, zi_189_4, zi_189_5, zi_189_6, zi_189_7, zi_189_8] := zall_w _ _ (by decide +kernel)
noncomputable def xi_189 (pc : Nat) : XIs := cond (Nat.blt pc 97) (cond (Nat.blt pc 51) (cond (Nat.blt pc 30) (zx zi_189_0) (zx zi_189_1)) (cond (Nat.blt pc 74) (zx zi_189_2) (zx zi_189_3))) (cond (Nat.blt pc 144) (cond (Nat.blt pc 120) (zx zi_189_4) (zx zi_189_5)) (cond (Nat.blt pc 174) (zx zi_189_6) (cond (Nat.blt pc 199) (zx zi_189_7) (zx zi_189_8))))
theorem xi_ok189 (pc : Nat) : xi_ok cX9_countTrees (xi_189 pc) = true := xi_c (xi_c (xi_c (zq1 xi_w189) (zq1 (zq2 xi_w189))) (xi_c (zq1 (zq2 (zq2 xi_w189))) (zq1 (zq2 (zq2 (zq2 xi_w189)))))) (xi_c (xi_c (zq1 (zq2 (zq2 (zq2 (zq2 xi_w189))))) (zq1 (zq2 (zq2 (zq2 (zq2 (zq2 xi_w189))))))) (xi_c (zq1 (zq2 (zq2 (zq2 (zq2 (zq2 (zq2 xi_w189))))))) (xi_c (zq1 (zq2 (zq2 (zq2 (zq2 (zq2 (zq2 (zq2 xi_w189)))))))) (zq1 (zq2 (zq2 (zq2 (zq2 (zq2 (zq2 (zq2 (zq2 xi_w189))))))))))))
noncomputable def zi_190_0 : ZIs := [(0, ev_192), (1, ev_295), (2, ev_198), (3, ev_197), (4, ev_943), (7, ev_13), (8, ev_705), (11, ev_198), (12, ev_176), (14, ev_355), (15, ev_192), (16, ev_22), (17, ev_100), (18, ev_230), (19, ev_103), (20, ev_992)]
noncomputable def zi_190_1 : ZIs := [(23, ev_300), (26, ev_305), (29, ev_198), (30, ev_197), (31, ev_993), (34, ev_230), (35, ev_481), (36, ev_198), (37, ev_192), (38, ev_903), (41, ev_13), (42, ev_198), (43, ev_192), (44, ev_994), (47, ev_13), (48, ev_705)]
noncomputable def zi_190_2 : ZIs := [(51, ev_192), (52, ev_176), (54, ev_355), (55, ev_192), (56, ev_22), (57, ev_100), (58, ev_442), (60, ev_247), (62, ev_995), (65, ev_996), (68, ev_58), (70, ev_192), (71, ev_7), (72, ev_22), (73, ev_313), (75, ev_314)]
noncomputable def zi_190_3 : ZIs := [(77, ev_197), (78, ev_997), (81, ev_573), (84, ev_13), (85, ev_705), (88, ev_314), (90, ev_176), (92, ev_355), (93, ev_192), (94, ev_22), (95, ev_100), (96, ev_485), (97, ev_460), (99, ev_492), (100, ev_573), (103, ev_527)]
noncomputable def zi_190_4 : ZIs := [(104, ev_998), (106, ev_192), (107, ev_451), (109, ev_453), (111, ev_197), (112, ev_816), (115, ev_999), (117, ev_230), (118, ev_103), (119, ev_1000), (122, ev_13), (123, ev_705), (126, ev_314), (128, ev_176), (130, ev_355), (131, ev_453)]
noncomputable def zi_190_5 : ZIs := [(133, ev_22), (134, ev_13), (135, ev_705), (138, ev_314), (140, ev_176), (142, ev_355), (143, ev_453), (145, ev_22), (146, ev_100), (147, ev_999), (149, ev_13), (150, ev_705), (153, ev_192), (154, ev_176), (156, ev_355), (157, ev_453)]
noncomputable def zi_190_6 : ZIs := [(159, ev_22), (160, ev_100), (161, ev_492), (162, ev_457), (163, ev_573), (166, ev_527), (167, ev_194), (168, ev_1001), (171, ev_279), (174, ev_318), (177, ev_650), (180, ev_198), (181, ev_192), (182, ev_540), (185, ev_247), (187, ev_195)]
noncomputable def zi_190_7 : ZIs := [(190, ev_573), (193, ev_247), (195, ev_485), (196, ev_481)]
set_option maxRecDepth 100000 in
theorem xi_w190 : zall cX9_pivot [zi_190_0, zi_190_1, zi_190_2, zi_190_3, zi_190_4, zi_190_5, zi_190_6, zi_190_7] := zall_w _ _ (by decide +kernel)
noncomputable def xi_190 (pc : Nat) : XIs := cond (Nat.blt pc 104) (cond (Nat.blt pc 51) (cond (Nat.blt pc 23) (zx zi_190_0) (zx zi_190_1)) (cond (Nat.blt pc 77) (zx zi_190_2) (zx zi_190_3))) (cond (Nat.blt pc 159) (cond (Nat.blt pc 133) (zx zi_190_4) (zx zi_190_5)) (cond (Nat.blt pc 190) (zx zi_190_6) (zx zi_190_7)))
theorem xi_ok190 (pc : Nat) : xi_ok cX9_pivot (xi_190 pc) = true := xi_c (xi_c (xi_c (zq1 xi_w190) (zq1 (zq2 xi_w190))) (xi_c (zq1 (zq2 (zq2 xi_w190))) (zq1 (zq2 (zq2 (zq2 xi_w190)))))) (xi_c (xi_c (zq1 (zq2 (zq2 (zq2 (zq2 xi_w190))))) (zq1 (zq2 (zq2 (zq2 (zq2 (zq2 xi_w190))))))) (xi_c (zq1 (zq2 (zq2 (zq2 (zq2 (zq2 (zq2 xi_w190))))))) (zq1 (zq2 (zq2 (zq2 (zq2 (zq2 (zq2 (zq2 xi_w190))))))))))
noncomputable def zi_191_0 : ZIs := [(0, ev_10), (1, ev_295), (2, ev_198), (3, ev_176), (5, ev_724), (8, ev_13), (9, ev_705), (12, ev_192), (13, ev_176), (15, ev_355), (16, ev_198), (17, ev_22), (18, ev_100), (19, ev_442), (21, ev_13), (22, ev_705)]
noncomputable def zi_191_1 : ZIs := [(25, ev_192), (26, ev_176), (28, ev_355), (29, ev_198), (30, ev_22), (31, ev_13), (32, ev_705), (35, ev_197), (36, ev_176), (38, ev_355), (39, ev_198), (40, ev_22), (41, ev_100), (42, ev_194), (43, ev_13), (44, ev_705)]
noncomputable def zi_191_2 : ZIs := [(47, ev_197), (48, ev_176), (50, ev_355), (51, ev_198), (52, ev_22), (53, ev_247), (55, ev_194), (56, ev_300), (59, ev_1002), (62, ev_260)]
set_option maxRecDepth 100000 in
theorem xi_w191 : zall cX9_swapRows [zi_191_0, zi_191_1, zi_191_2] := zall_w _ _ (by decide +kernel)
noncomputable def xi_191 (pc : Nat) : XIs := cond (Nat.blt pc 25) (zx zi_191_0) (cond (Nat.blt pc 47) (zx zi_191_1) (zx zi_191_2))
theorem xi_ok191 (pc : Nat) : xi_ok cX9_swapRows (xi_191 pc) = true := xi_c (zq1 xi_w191) (xi_c (zq1 (zq2 xi_w191)) (zq1 (zq2 (zq2 xi_w191))))
noncomputable def zi_192_0 : ZIs := [(0, ev_228), (1, ev_442), (3, ev_487), (4, ev_58), (6, ev_489), (7, ev_445), (9, ev_462), (11, ev_230), (12, ev_103), (13, ev_1003), (16, ev_462), (18, ev_228), (19, ev_179), (20, ev_230), (21, ev_103), (22, ev_1004)]
noncomputable def zi_192_1 : ZIs := [(25, ev_247), (27, ev_460), (29, ev_492), (30, ev_573), (33, ev_527), (34, ev_442), (36, ev_460), (38, ev_460), (40, ev_492), (41, ev_573), (44, ev_527), (45, ev_58), (47, ev_462), (49, ev_7), (50, ev_907), (51, ev_445)]
noncomputable def zi_192_2 : ZIs := [(53, ev_972), (56, ev_247), (58, ev_481)]
set_option maxRecDepth 100000 in
theorem xi_w192 : zall cX9_power [zi_192_0, zi_192_1, zi_192_2] := zall_w _ _ (by decide +kernel)
noncomputable def xi_192 (pc : Nat) : XIs := cond (Nat.blt pc 25) (zx zi_192_0) (cond (Nat.blt pc 53) (zx zi_192_1) (zx zi_192_2))
theorem xi_ok192 (pc : Nat) : xi_ok cX9_power (xi_192 pc) = true := xi_c (zq1 xi_w192) (xi_c (zq1 (zq2 xi_w192)) (zq1 (zq2 (zq2 xi_w192))))
noncomputable def zi_193_0 : ZIs := [(0, ev_13), (1, ev_251), (4, ev_13), (5, ev_252), (6, ev_253), (9, ev_13), (10, ev_176), (12, ev_8), (14, ev_254), (17, ev_13), (18, ev_176), (20, ev_255), (22, ev_368), (25, ev_13), (26, ev_176), (28, ev_255)]
noncomputable def zi_193_1 : ZIs := [(30, ev_1005), (33, ev_13), (34, ev_176), (36, ev_8), (38, ev_1006), (41, ev_13), (42, ev_176), (44, ev_255), (46, ev_370), (49, ev_13), (50, ev_252), (51, ev_371), (54, ev_13), (55, ev_1007), (58, ev_8), (60, ev_372)]
noncomputable def zi_193_2 : ZIs := [(63, ev_260)]
set_option maxRecDepth 100000 in
theorem xi_w193 : zall cX10_init [zi_193_0, zi_193_1, zi_193_2] := zall_w _ _ (by decide +kernel)
noncomputable def xi_193 (pc : Nat) : XIs := cond (Nat.blt pc 30) (zx zi_193_0) (cond (Nat.blt pc 63) (zx zi_193_1) (zx zi_193_2))
theorem xi_ok193 (pc : Nat) : xi_ok cX10_init (xi_193 pc) = true := xi_c (zq1 xi_w193) (xi_c (zq1 (zq2 xi_w193)) (zq1 (zq2 (zq2 xi_w193))))
end
section
noncomputable def zi_194_0 : ZIs := [(0, ev_13), (1, ev_21), (2, ev_198), (3, ev_211), (6, ev_13), (7, ev_266), (10, ev_197), (11, ev_303), (12, ev_7), (13, ev_20), (14, ev_227), (17, ev_1008), (20, ev_481), (21, ev_13), (22, ev_280), (25, ev_197)]
noncomputable def zi_194_1 : ZIs := [(26, ev_100), (27, ev_1009), (30, ev_103), (31, ev_992), (34, ev_709), (37, ev_439), (40, ev_13), (41, ev_280), (44, ev_197), (45, ev_100), (46, ev_1010), (49, ev_269), (52, ev_481)]
set_option maxRecDepth 100000 in
theorem xi_w194 : zall cX10_leastWeight [zi_194_0, zi_194_1] := zall_w _ _ (by decide +kernel)
noncomputable def xi_194 (pc : Nat) : XIs := cond (Nat.blt pc 26) (zx zi_194_0) (zx zi_194_1)
theorem xi_ok194 (pc : Nat) : xi_ok cX10_leastWeight (xi_194 pc) = true := xi_c (zq1 xi_w194) (zq1 (zq2 xi_w194))
noncomputable def zi_195_0 : ZIs := [(0, ev_13), (1, ev_21), (2, ev_198), (3, ev_211), (6, ev_13), (7, ev_266), (10, ev_197), (11, ev_303), (12, ev_7), (13, ev_20), (14, ev_1011), (17, ev_13), (18, ev_280), (21, ev_197), (22, ev_100), (23, ev_1009)]
noncomputable def zi_195_1 : ZIs := [(26, ev_103), (27, ev_1012), (30, ev_12), (32, ev_102), (33, ev_13), (34, ev_280), (37, ev_197), (38, ev_100), (39, ev_1010), (42, ev_274), (45, ev_103), (46, ev_1013), (49, ev_252), (50, ev_98), (51, ev_252), (52, ev_25)]
noncomputable def zi_195_2 : ZIs := [(54, ev_197), (55, ev_28), (57, ev_10), (58, ev_275), (60, ev_276), (62, ev_12), (64, ev_433), (67, ev_13), (68, ev_21), (69, ev_101), (71, ev_282), (74, ev_25), (76, ev_96), (78, ev_252), (79, ev_691), (82, ev_252)]
noncomputable def zi_195_3 : ZIs := [(83, ev_98), (84, ev_21), (85, ev_1014), (88, ev_96), (90, ev_18), (91, ev_28), (93, ev_955), (96, ev_1015), (99, ev_96), (101, ev_98)]
set_option maxRecDepth 100000 in
theorem xi_w195 : zall cX10_leastArc [zi_195_0, zi_195_1, zi_195_2, zi_195_3] := zall_w _ _ (by decide +kernel)
noncomputable def xi_195 (pc : Nat) : XIs := cond (Nat.blt pc 54) (cond (Nat.blt pc 26) (zx zi_195_0) (zx zi_195_1)) (cond (Nat.blt pc 83) (zx zi_195_2) (zx zi_195_3))
theorem xi_ok195 (pc : Nat) : xi_ok cX10_leastArc (xi_195 pc) = true := xi_c (xi_c (zq1 xi_w195) (zq1 (zq2 xi_w195))) (xi_c (zq1 (zq2 (zq2 xi_w195))) (zq1 (zq2 (zq2 (zq2 xi_w195)))))
noncomputable def zi_196_0 : ZIs := [(0, ev_21), (1, ev_1016), (4, ev_197), (5, ev_18), (6, ev_295), (7, ev_198), (8, ev_21), (9, ev_1016), (12, ev_197), (13, ev_7), (14, ev_22), (15, ev_18), (16, ev_1017), (19, ev_21), (20, ev_1018), (23, ev_198)]
noncomputable def zi_196_1 : ZIs := [(24, ev_18), (25, ev_11), (27, ev_13), (28, ev_280), (31, ev_21), (32, ev_1014), (35, ev_12), (37, ev_18), (38, ev_100), (39, ev_1009), (42, ev_103), (43, ev_859), (46, ev_21), (47, ev_12), (49, ev_1019), (52, ev_13)]
noncomputable def zi_196_2 : ZIs := [(53, ev_280), (56, ev_21), (57, ev_1014), (60, ev_12), (62, ev_18), (63, ev_100), (64, ev_457), (65, ev_13), (66, ev_280), (69, ev_197), (70, ev_100), (71, ev_103), (72, ev_351), (75, ev_12), (77, ev_98), (78, ev_300)]
noncomputable def zi_196_3 : ZIs := [(81, ev_1020), (84, ev_252), (85, ev_98)]
set_option maxRecDepth 100000 in
theorem xi_w196 : zall cX10_stepFrom [zi_196_0, zi_196_1, zi_196_2, zi_196_3] := zall_w _ _ (by decide +kernel)
noncomputable def xi_196 (pc : Nat) : XIs := cond (Nat.blt pc 53) (cond (Nat.blt pc 24) (zx zi_196_0) (zx zi_196_1)) (cond (Nat.blt pc 81) (zx zi_196_2) (zx zi_196_3))
theorem xi_ok196 (pc : Nat) : xi_ok cX10_stepFrom (xi_196 pc) = true := xi_c (xi_c (zq1 xi_w196) (zq1 (zq2 xi_w196))) (xi_c (zq1 (zq2 (zq2 xi_w196))) (zq1 (zq2 (zq2 (zq2 xi_w196)))))
noncomputable def zi_197_0 : ZIs := [(0, ev_13), (1, ev_718), (4, ev_192), (5, ev_18), (6, ev_102), (7, ev_1010), (10, ev_492), (11, ev_228), (12, ev_457), (13, ev_481)]
set_option maxRecDepth 100000 in
theorem xi_w197 : zall cX10_costOf [zi_197_0] := zall_w _ _ (by decide +kernel)
noncomputable def xi_197 (pc : Nat) : XIs := zx zi_197_0
theorem xi_ok197 (pc : Nat) : xi_ok cX10_costOf (xi_197 pc) = true := zq1 xi_w197
noncomputable def zi_198_0 : ZIs := [(0, ev_21), (1, ev_395), (4, ev_13), (5, ev_261), (8, ev_21), (9, ev_947), (12, ev_690), (15, ev_13), (16, ev_723), (19, ev_197), (20, ev_608), (23, ev_260), (24, ev_13), (25, ev_21), (26, ev_947), (29, ev_253)]
noncomputable def zi_198_1 : ZIs := [(32, ev_13), (33, ev_197), (34, ev_1021), (37, ev_13), (38, ev_280), (41, ev_1009), (44, ev_1022), (47, ev_13), (48, ev_280), (51, ev_197), (52, ev_230), (53, ev_194), (54, ev_7), (55, ev_197), (56, ev_277), (57, ev_295)]
noncomputable def zi_198_2 : ZIs := [(58, ev_10), (59, ev_11), (61, ev_12), (63, ev_21), (64, ev_791), (67, ev_686), (70, ev_198), (71, ev_417), (74, ev_13), (75, ev_21), (76, ev_198), (77, ev_238), (80, ev_295), (81, ev_348), (84, ev_711), (87, ev_13)]
noncomputable def zi_198_3 : ZIs := [(88, ev_198), (89, ev_326), (92, ev_10), (93, ev_788), (96, ev_21), (97, ev_792), (100, ev_13), (101, ev_21), (102, ev_198), (103, ev_238), (106, ev_252), (107, ev_569), (110, ev_663), (113, ev_260)]
set_option maxRecDepth 100000 in
theorem xi_w198 : zall cX10_measure [zi_198_0, zi_198_1, zi_198_2, zi_198_3] := zall_w _ _ (by decide +kernel)
noncomputable def xi_198 (pc : Nat) : XIs := cond (Nat.blt pc 58) (cond (Nat.blt pc 32) (zx zi_198_0) (zx zi_198_1)) (cond (Nat.blt pc 88) (zx zi_198_2) (zx zi_198_3))
theorem xi_ok198 (pc : Nat) : xi_ok cX10_measure (xi_198 pc) = true := xi_c (xi_c (zq1 xi_w198) (zq1 (zq2 xi_w198))) (xi_c (zq1 (zq2 (zq2 xi_w198))) (zq1 (zq2 (zq2 (zq2 xi_w198)))))
noncomputable def zi_199_0 : ZIs := [(0, ev_10), (1, ev_295), (2, ev_197), (3, ev_11), (5, ev_12), (7, ev_1023), (10, ev_12), (12, ev_1024), (15, ev_25), (17, ev_21), (18, ev_428), (21, ev_96), (23, ev_18), (24, ev_28), (26, ev_101), (28, ev_21)]
noncomputable def zi_199_1 : ZIs := [(29, ev_428), (32, ev_96), (34, ev_7), (35, ev_22), (36, ev_18), (37, ev_1025), (40, ev_21), (41, ev_1026), (44, ev_101), (46, ev_18), (47, ev_275), (49, ev_21), (50, ev_1027), (53, ev_276), (55, ev_18), (56, ev_313)]
noncomputable def zi_199_2 : ZIs := [(58, ev_21), (59, ev_276), (61, ev_1019), (64, ev_13), (65, ev_280), (68, ev_96), (70, ev_100), (71, ev_457), (72, ev_13), (73, ev_280), (76, ev_314), (78, ev_100), (79, ev_103), (80, ev_1028), (83, ev_13), (84, ev_280)]
noncomputable def zi_199_3 : ZIs := [(87, ev_314), (89, ev_21), (90, ev_276), (92, ev_1019), (95, ev_13), (96, ev_280), (99, ev_96), (101, ev_100), (102, ev_457), (103, ev_194), (104, ev_198), (105, ev_7), (106, ev_314), (108, ev_277), (109, ev_278), (110, ev_295)]
noncomputable def zi_199_4 : ZIs := [(111, ev_320), (114, ev_321), (117, ev_12), (119, ev_12), (121, ev_7), (122, ev_16), (123, ev_20), (124, ev_11), (126, ev_606), (129, ev_198), (130, ev_98)]
set_option maxRecDepth 100000 in
theorem xi_w199 : zall cX10_relax [zi_199_0, zi_199_1, zi_199_2, zi_199_3, zi_199_4] := zall_w _ _ (by decide +kernel)
noncomputable def xi_199 (pc : Nat) : XIs := cond (Nat.blt pc 58) (cond (Nat.blt pc 29) (zx zi_199_0) (zx zi_199_1)) (cond (Nat.blt pc 87) (zx zi_199_2) (cond (Nat.blt pc 111) (zx zi_199_3) (zx zi_199_4)))
theorem xi_ok199 (pc : Nat) : xi_ok cX10_relax (xi_199 pc) = true := xi_c (xi_c (zq1 xi_w199) (zq1 (zq2 xi_w199))) (xi_c (zq1 (zq2 (zq2 xi_w199))) (xi_c (zq1 (zq2 (zq2 (zq2 xi_w199)))) (zq1 (zq2 (zq2 (zq2 (zq2 xi_w199)))))))
noncomputable def zi_200_0 : ZIs := [(0, ev_21), (1, ev_395), (4, ev_13), (5, ev_440), (8, ev_252), (9, ev_1029), (12, ev_13), (13, ev_440), (16, ev_197), (17, ev_1030), (19, ev_299), (20, ev_21), (21, ev_994), (24, ev_11), (26, ev_10), (27, ev_25)]
noncomputable def zi_200_1 : ZIs := [(29, ev_96), (31, ev_21), (32, ev_791), (35, ev_1031), (38, ev_13), (39, ev_12), (41, ev_743), (44, ev_28), (46, ev_101), (48, ev_198), (49, ev_1032), (52, ev_13), (53, ev_440), (56, ev_101), (58, ev_18), (59, ev_252)]
noncomputable def zi_200_2 : ZIs := [(60, ev_810), (63, ev_13), (64, ev_440), (67, ev_198), (68, ev_18), (69, ev_98), (70, ev_12), (72, ev_7), (73, ev_101), (75, ev_277), (76, ev_252), (77, ev_317), (78, ev_20), (79, ev_11), (81, ev_21), (82, ev_1016)]
noncomputable def zi_200_3 : ZIs := [(85, ev_101), (87, ev_18), (88, ev_275), (90, ev_276), (92, ev_21), (93, ev_1016), (96, ev_101), (98, ev_7), (99, ev_22), (100, ev_18), (101, ev_816), (104, ev_21), (105, ev_1018), (108, ev_276), (110, ev_18), (111, ev_313)]
noncomputable def zi_200_4 : ZIs := [(113, ev_13), (114, ev_440), (117, ev_21), (118, ev_1014), (121, ev_314), (123, ev_18), (124, ev_13), (125, ev_440), (128, ev_21), (129, ev_1014), (132, ev_314), (134, ev_18), (135, ev_18), (136, ev_13), (137, ev_440), (140, ev_101)]
noncomputable def zi_200_5 : ZIs := [(142, ev_18), (143, ev_21), (144, ev_584), (147, ev_314), (149, ev_18), (150, ev_1033), (153, ev_1034), (156, ev_299), (157, ev_955), (160, ev_1035), (163, ev_343), (166, ev_1036), (169, ev_13), (170, ev_440), (173, ev_198), (174, ev_18)]
noncomputable def zi_200_6 : ZIs := [(175, ev_98)]
set_option maxRecDepth 100000 in
theorem xi_w200 : zall cX10_widest [zi_200_0, zi_200_1, zi_200_2, zi_200_3, zi_200_4, zi_200_5, zi_200_6] := zall_w _ _ (by decide +kernel)
noncomputable def xi_200 (pc : Nat) : XIs := cond (Nat.blt pc 85) (cond (Nat.blt pc 29) (zx zi_200_0) (cond (Nat.blt pc 60) (zx zi_200_1) (zx zi_200_2))) (cond (Nat.blt pc 142) (cond (Nat.blt pc 113) (zx zi_200_3) (zx zi_200_4)) (cond (Nat.blt pc 175) (zx zi_200_5) (zx zi_200_6)))
theorem xi_ok200 (pc : Nat) : xi_ok cX10_widest (xi_200 pc) = true := xi_c (xi_c (zq1 xi_w200) (xi_c (zq1 (zq2 xi_w200)) (zq1 (zq2 (zq2 xi_w200))))) (xi_c (xi_c (zq1 (zq2 (zq2 (zq2 xi_w200)))) (zq1 (zq2 (zq2 (zq2 (zq2 xi_w200)))))) (xi_c (zq1 (zq2 (zq2 (zq2 (zq2 (zq2 xi_w200)))))) (zq1 (zq2 (zq2 (zq2 (zq2 (zq2 (zq2 xi_w200)))))))))
noncomputable def zi_201_0 : ZIs := [(0, ev_192), (1, ev_1024), (4, ev_294), (5, ev_192), (6, ev_295), (7, ev_198), (8, ev_859), (11, ev_13), (12, ev_440), (15, ev_198), (16, ev_1024), (19, ev_18), (20, ev_13), (21, ev_440), (24, ev_197), (25, ev_18)]
noncomputable def zi_201_1 : ZIs := [(26, ev_270), (29, ev_198), (30, ev_1024), (33, ev_294), (34, ev_198), (35, ev_198), (36, ev_7), (37, ev_16), (38, ev_20), (39, ev_295), (40, ev_861), (43, ev_197), (44, ev_98)]
set_option maxRecDepth 100000 in
theorem xi_w201 : zall cX10_widestOf [zi_201_0, zi_201_1] := zall_w _ _ (by decide +kernel)
noncomputable def xi_201 (pc : Nat) : XIs := cond (Nat.blt pc 26) (zx zi_201_0) (zx zi_201_1)
theorem xi_ok201 (pc : Nat) : xi_ok cX10_widestOf (xi_201 pc) = true := xi_c (zq1 xi_w201) (zq1 (zq2 xi_w201))
noncomputable def zi_202_0 : ZIs := [(0, ev_13), (1, ev_21), (2, ev_197), (3, ev_1037), (6, ev_13), (7, ev_1038), (10, ev_198), (11, ev_18), (12, ev_98)]
set_option maxRecDepth 100000 in
theorem xi_w202 : zall cX10_fewestArcs [zi_202_0] := zall_w _ _ (by decide +kernel)
noncomputable def xi_202 (pc : Nat) : XIs := zx zi_202_0
theorem xi_ok202 (pc : Nat) : xi_ok cX10_fewestArcs (xi_202 pc) = true := zq1 xi_w202
noncomputable def zi_203_0 : ZIs := [(0, ev_13), (1, ev_21), (2, ev_197), (3, ev_1037), (6, ev_13), (7, ev_1038), (10, ev_198), (11, ev_18), (12, ev_25), (14, ev_13), (15, ev_1038), (18, ev_12), (20, ev_18), (21, ev_28), (23, ev_13), (24, ev_1039)]
noncomputable def zi_203_1 : ZIs := [(27, ev_12), (29, ev_100), (30, ev_921), (32, ev_96), (34, ev_252), (35, ev_903), (38, ev_101), (40, ev_252), (41, ev_691), (44, ev_10), (45, ev_98), (46, ev_12), (48, ev_197), (49, ev_819), (52, ev_13), (53, ev_21)]
noncomputable def zi_203_2 : ZIs := [(54, ev_12), (56, ev_1037), (59, ev_13), (60, ev_1038), (63, ev_198), (64, ev_18), (65, ev_252), (66, ev_900), (69, ev_101), (71, ev_13), (72, ev_1038), (75, ev_198), (76, ev_18), (77, ev_22), (78, ev_96), (80, ev_97)]
noncomputable def zi_203_3 : ZIs := [(83, ev_10), (84, ev_98), (85, ev_922), (87, ev_13), (88, ev_1039), (91, ev_198), (92, ev_100), (93, ev_492), (94, ev_1040), (97, ev_527), (98, ev_991), (99, ev_98)]
set_option maxRecDepth 100000 in
theorem xi_w203 : zall cX10_countBy [zi_203_0, zi_203_1, zi_203_2, zi_203_3] := zall_w _ _ (by decide +kernel)
noncomputable def xi_203 (pc : Nat) : XIs := cond (Nat.blt pc 54) (cond (Nat.blt pc 27) (zx zi_203_0) (zx zi_203_1)) (cond (Nat.blt pc 83) (zx zi_203_2) (zx zi_203_3))
theorem xi_ok203 (pc : Nat) : xi_ok cX10_countBy (xi_203 pc) = true := xi_c (xi_c (zq1 xi_w203) (zq1 (zq2 xi_w203))) (xi_c (zq1 (zq2 (zq2 xi_w203))) (zq1 (zq2 (zq2 (zq2 xi_w203)))))
noncomputable def zi_204_0 : ZIs := [(0, ev_21), (1, ev_395), (4, ev_13), (5, ev_1038), (8, ev_252), (9, ev_1029), (12, ev_13), (13, ev_1039), (16, ev_230), (17, ev_1022), (20, ev_13), (21, ev_1038), (24, ev_197), (25, ev_10), (26, ev_299), (27, ev_13)]
noncomputable def zi_204_1 : ZIs := [(28, ev_1039), (31, ev_197), (32, ev_228), (33, ev_194), (34, ev_13), (35, ev_465), (38, ev_10), (39, ev_197), (40, ev_299), (41, ev_7), (42, ev_295), (43, ev_10), (44, ev_11), (46, ev_12), (48, ev_198), (49, ev_1041)]
noncomputable def zi_204_2 : ZIs := [(52, ev_13), (53, ev_465), (56, ev_12), (58, ev_18), (59, ev_25), (61, ev_21), (62, ev_1016), (65, ev_96), (67, ev_18), (68, ev_28), (70, ev_101), (72, ev_21), (73, ev_1016), (76, ev_96), (78, ev_7), (79, ev_22)]
noncomputable def zi_204_3 : ZIs := [(80, ev_18), (81, ev_1042), (84, ev_21), (85, ev_1014), (88, ev_21), (89, ev_1018), (92, ev_101), (94, ev_18), (95, ev_18), (96, ev_275), (98, ev_13), (99, ev_1038), (102, ev_276), (104, ev_18), (105, ev_252), (106, ev_420)]
noncomputable def zi_204_4 : ZIs := [(109, ev_198), (110, ev_176), (112, ev_929), (115, ev_13), (116, ev_1038), (119, ev_276), (121, ev_13), (122, ev_1038), (125, ev_96), (127, ev_18), (128, ev_7), (129, ev_22), (130, ev_299), (131, ev_13), (132, ev_465), (135, ev_198)]
noncomputable def zi_204_5 : ZIs := [(136, ev_276), (138, ev_299), (139, ev_300), (142, ev_13), (143, ev_1038), (146, ev_276), (148, ev_18), (149, ev_13), (150, ev_1038), (153, ev_96), (155, ev_18), (156, ev_7), (157, ev_22), (158, ev_889), (161, ev_13), (162, ev_1039)]
noncomputable def zi_204_6 : ZIs := [(165, ev_276), (167, ev_13), (168, ev_1039), (171, ev_276), (173, ev_100), (174, ev_13), (175, ev_1039), (178, ev_96), (180, ev_100), (181, ev_457), (182, ev_1040), (185, ev_527), (186, ev_194), (187, ev_320), (190, ev_480), (193, ev_348)]
noncomputable def zi_204_7 : ZIs := [(196, ev_1043), (199, ev_260)]
set_option maxRecDepth 100000 in
theorem xi_w204 : zall cX10_spread [zi_204_0, zi_204_1, zi_204_2, zi_204_3, zi_204_4, zi_204_5, zi_204_6, zi_204_7] := zall_w _ _ (by decide +kernel)
noncomputable def xi_204 (pc : Nat) : XIs := cond (Nat.blt pc 109) (cond (Nat.blt pc 52) (cond (Nat.blt pc 28) (zx zi_204_0) (zx zi_204_1)) (cond (Nat.blt pc 80) (zx zi_204_2) (zx zi_204_3))) (cond (Nat.blt pc 165) (cond (Nat.blt pc 136) (zx zi_204_4) (zx zi_204_5)) (cond (Nat.blt pc 196) (zx zi_204_6) (zx zi_204_7)))
theorem xi_ok204 (pc : Nat) : xi_ok cX10_spread (xi_204 pc) = true := xi_c (xi_c (xi_c (zq1 xi_w204) (zq1 (zq2 xi_w204))) (xi_c (zq1 (zq2 (zq2 xi_w204))) (zq1 (zq2 (zq2 (zq2 xi_w204)))))) (xi_c (xi_c (zq1 (zq2 (zq2 (zq2 (zq2 xi_w204))))) (zq1 (zq2 (zq2 (zq2 (zq2 (zq2 xi_w204))))))) (xi_c (zq1 (zq2 (zq2 (zq2 (zq2 (zq2 (zq2 xi_w204))))))) (zq1 (zq2 (zq2 (zq2 (zq2 (zq2 (zq2 (zq2 xi_w204))))))))))
noncomputable def zi_205_0 : ZIs := [(0, ev_13), (1, ev_21), (2, ev_197), (3, ev_198), (4, ev_814), (7, ev_13), (8, ev_1044), (11, ev_1045), (14, ev_270), (17, ev_1046), (19, ev_212), (22, ev_13), (23, ev_1044), (26, ev_98)]
set_option maxRecDepth 100000 in
theorem xi_w205 : zall cX10_countShort [zi_205_0] := zall_w _ _ (by decide +kernel)
noncomputable def xi_205 (pc : Nat) : XIs := zx zi_205_0
theorem xi_ok205 (pc : Nat) : xi_ok cX10_countShort (xi_205 pc) = true := zq1 xi_w205
noncomputable def zi_206_0 : ZIs := [(0, ev_13), (1, ev_21), (2, ev_197), (3, ev_198), (4, ev_814), (7, ev_13), (8, ev_1044), (11, ev_1045), (14, ev_1047), (17, ev_12), (19, ev_13), (20, ev_1044), (23, ev_993), (26, ev_252), (27, ev_98), (28, ev_13)]
noncomputable def zi_206_1 : ZIs := [(29, ev_430), (32, ev_12), (34, ev_100), (35, ev_58), (37, ev_96), (39, ev_460), (41, ev_176), (43, ev_907), (44, ev_1048), (47, ev_179), (48, ev_991), (49, ev_993), (52, ev_252), (53, ev_98), (54, ev_460), (56, ev_1049)]
noncomputable def zi_206_2 : ZIs := [(58, ev_469), (60, ev_96), (62, ev_355), (63, ev_16), (64, ev_907), (65, ev_1050), (68, ev_179), (69, ev_991), (70, ev_98)]
set_option maxRecDepth 100000 in
theorem xi_w206 : zall cX10_arcOfShort [zi_206_0, zi_206_1, zi_206_2] := zall_w _ _ (by decide +kernel)
noncomputable def xi_206 (pc : Nat) : XIs := cond (Nat.blt pc 29) (zx zi_206_0) (cond (Nat.blt pc 58) (zx zi_206_1) (zx zi_206_2))
theorem xi_ok206 (pc : Nat) : xi_ok cX10_arcOfShort (xi_206 pc) = true := xi_c (zq1 xi_w206) (xi_c (zq1 (zq2 xi_w206)) (zq1 (zq2 (zq2 xi_w206))))
noncomputable def zi_207_0 : ZIs := [(0, ev_13), (1, ev_434), (4, ev_21), (5, ev_947), (8, ev_1051), (11, ev_13), (12, ev_1052), (15, ev_197), (16, ev_690), (19, ev_13), (20, ev_1053), (23, ev_198), (24, ev_608), (27, ev_260), (28, ev_21), (29, ev_395)]
noncomputable def zi_207_1 : ZIs := [(32, ev_13), (33, ev_21), (34, ev_947), (37, ev_371), (40, ev_13), (41, ev_197), (42, ev_1054), (45, ev_13), (46, ev_198), (47, ev_1055), (50, ev_13), (51, ev_10), (52, ev_1056), (55, ev_13), (56, ev_21), (57, ev_197)]
noncomputable def zi_207_2 : ZIs := [(58, ev_7), (59, ev_197), (60, ev_277), (61, ev_10), (62, ev_230), (63, ev_47), (66, ev_13), (67, ev_1044), (70, ev_1045), (73, ev_886), (76, ev_13), (77, ev_1057), (80, ev_260)]
set_option maxRecDepth 100000 in
theorem xi_w207 : zall cX10_collect [zi_207_0, zi_207_1, zi_207_2] := zall_w _ _ (by decide +kernel)
noncomputable def xi_207 (pc : Nat) : XIs := cond (Nat.blt pc 32) (zx zi_207_0) (cond (Nat.blt pc 58) (zx zi_207_1) (zx zi_207_2))
theorem xi_ok207 (pc : Nat) : xi_ok cX10_collect (xi_207 pc) = true := xi_c (zq1 xi_w207) (xi_c (zq1 (zq2 xi_w207)) (zq1 (zq2 (zq2 xi_w207))))
noncomputable def zi_208_0 : ZIs := [(0, ev_21), (1, ev_1016), (4, ev_197), (5, ev_18), (6, ev_275), (8, ev_276), (10, ev_21), (11, ev_1016), (14, ev_197), (15, ev_7), (16, ev_22), (17, ev_18), (18, ev_1058), (21, ev_13), (22, ev_1044), (25, ev_1045)]
noncomputable def zi_208_1 : ZIs := [(28, ev_1059), (31, ev_12), (33, ev_32), (34, ev_1041), (37, ev_21), (38, ev_1018), (41, ev_276), (43, ev_18), (44, ev_313), (46, ev_21), (47, ev_1014), (50, ev_314), (52, ev_18), (53, ev_327), (55, ev_501), (57, ev_21)]
noncomputable def zi_208_2 : ZIs := [(58, ev_718), (61, ev_314), (63, ev_18), (64, ev_102), (65, ev_1060), (67, ev_177), (68, ev_457), (69, ev_314), (71, ev_102), (72, ev_1049), (74, ev_469), (76, ev_12), (78, ev_355), (79, ev_16), (80, ev_177), (81, ev_457)]
noncomputable def zi_208_3 : ZIs := [(82, ev_1061), (84, ev_329), (86, ev_13), (87, ev_1053), (90, ev_1062), (93, ev_13), (94, ev_430), (97, ev_13), (98, ev_1044), (101, ev_1063), (103, ev_1064), (106, ev_457), (107, ev_12), (109, ev_7), (110, ev_22), (111, ev_102)]
noncomputable def zi_208_4 : ZIs := [(112, ev_176), (114, ev_177), (115, ev_457), (116, ev_194), (117, ev_13), (118, ev_1), (119, ev_1044), (122, ev_7), (123, ev_22), (124, ev_1056), (127, ev_1065), (130, ev_198), (131, ev_329), (133, ev_303), (134, ev_7), (135, ev_20)]
noncomputable def zi_208_5 : ZIs := [(136, ev_312), (139, ev_13), (140, ev_21), (141, ev_329), (143, ev_198), (144, ev_7), (145, ev_329), (147, ev_277), (148, ev_278), (149, ev_31), (150, ev_12), (152, ev_16), (153, ev_1066), (156, ev_1012), (159, ev_13), (160, ev_21)]
noncomputable def zi_208_6 : ZIs := [(161, ev_329), (163, ev_198), (164, ev_7), (165, ev_329), (167, ev_277), (168, ev_278), (169, ev_12), (171, ev_7), (172, ev_22), (173, ev_1063), (175, ev_47), (178, ev_955), (181, ev_1067), (184, ev_260)]
set_option maxRecDepth 100000 in
theorem xi_w208 : zall cX10_gather [zi_208_0, zi_208_1, zi_208_2, zi_208_3, zi_208_4, zi_208_5, zi_208_6] := zall_w _ _ (by decide +kernel)
noncomputable def xi_208 (pc : Nat) : XIs := cond (Nat.blt pc 82) (cond (Nat.blt pc 28) (zx zi_208_0) (cond (Nat.blt pc 58) (zx zi_208_1) (zx zi_208_2))) (cond (Nat.blt pc 136) (cond (Nat.blt pc 112) (zx zi_208_3) (zx zi_208_4)) (cond (Nat.blt pc 161) (zx zi_208_5) (zx zi_208_6)))
theorem xi_ok208 (pc : Nat) : xi_ok cX10_gather (xi_208 pc) = true := xi_c (xi_c (zq1 xi_w208) (xi_c (zq1 (zq2 xi_w208)) (zq1 (zq2 (zq2 xi_w208))))) (xi_c (xi_c (zq1 (zq2 (zq2 (zq2 xi_w208)))) (zq1 (zq2 (zq2 (zq2 (zq2 xi_w208)))))) (xi_c (zq1 (zq2 (zq2 (zq2 (zq2 (zq2 xi_w208)))))) (zq1 (zq2 (zq2 (zq2 (zq2 (zq2 (zq2 xi_w208)))))))))
noncomputable def zi_209_0 : ZIs := [(0, ev_21), (1, ev_792), (4, ev_13), (5, ev_1053), (8, ev_18), (9, ev_25), (11, ev_12), (13, ev_7), (14, ev_601), (17, ev_96), (19, ev_197), (20, ev_303), (21, ev_7), (22, ev_20), (23, ev_104), (26, ev_7)]
noncomputable def zi_209_1 : ZIs := [(27, ev_98), (28, ev_21), (29, ev_1068), (32, ev_197), (33, ev_18), (34, ev_198), (35, ev_252), (36, ev_317), (37, ev_20), (38, ev_28), (40, ev_12), (42, ev_30), (43, ev_414), (46, ev_101), (48, ev_96), (50, ev_20)]
noncomputable def zi_209_2 : ZIs := [(51, ev_104), (54, ev_7), (55, ev_98), (56, ev_101), (58, ev_275), (60, ev_12), (62, ev_31), (63, ev_1069), (66, ev_276), (68, ev_1070), (71, ev_21), (72, ev_1068), (75, ev_276), (77, ev_1024), (80, ev_18), (81, ev_198)]
noncomputable def zi_209_3 : ZIs := [(82, ev_252), (83, ev_317), (84, ev_20), (85, ev_96), (87, ev_20), (88, ev_104), (91, ev_7), (92, ev_98), (93, ev_276), (95, ev_276), (97, ev_7), (98, ev_16), (99, ev_20), (100, ev_275), (102, ev_515), (105, ev_10)]
noncomputable def zi_209_4 : ZIs := [(106, ev_98)]
set_option maxRecDepth 100000 in
theorem xi_w209 : zall cX10_leads [zi_209_0, zi_209_1, zi_209_2, zi_209_3, zi_209_4] := zall_w _ _ (by decide +kernel)
noncomputable def xi_209 (pc : Nat) : XIs := cond (Nat.blt pc 51) (cond (Nat.blt pc 27) (zx zi_209_0) (zx zi_209_1)) (cond (Nat.blt pc 82) (zx zi_209_2) (cond (Nat.blt pc 106) (zx zi_209_3) (zx zi_209_4)))
theorem xi_ok209 (pc : Nat) : xi_ok cX10_leads (xi_209 pc) = true := xi_c (xi_c (zq1 xi_w209) (zq1 (zq2 xi_w209))) (xi_c (zq1 (zq2 (zq2 xi_w209))) (xi_c (zq1 (zq2 (zq2 (zq2 xi_w209)))) (zq1 (zq2 (zq2 (zq2 (zq2 xi_w209)))))))
noncomputable def zi_210_0 : ZIs := [(0, ev_7), (1, ev_685), (2, ev_192), (3, ev_13), (4, ev_1044), (7, ev_31), (8, ev_582), (9, ev_846), (12, ev_31), (13, ev_192), (14, ev_355), (15, ev_7), (16, ev_22), (17, ev_685), (18, ev_1071), (21, ev_192)]
noncomputable def zi_210_1 : ZIs := [(22, ev_1072), (25, ev_192), (26, ev_294), (27, ev_197), (28, ev_13), (29, ev_1044), (32, ev_815), (35, ev_13), (36, ev_430), (39, ev_197), (40, ev_100), (41, ev_924), (42, ev_197), (43, ev_25), (45, ev_96), (47, ev_192)]
noncomputable def zi_210_2 : ZIs := [(48, ev_1069), (51, ev_13), (52, ev_430), (55, ev_96), (57, ev_192), (58, ev_16), (59, ev_100), (60, ev_484), (61, ev_103), (62, ev_604), (65, ev_13), (66, ev_430), (69, ev_96), (71, ev_13), (72, ev_430), (75, ev_96)]
noncomputable def zi_210_3 : ZIs := [(77, ev_192), (78, ev_16), (79, ev_100), (80, ev_194), (81, ev_96), (83, ev_192), (84, ev_16), (85, ev_25), (87, ev_515), (90, ev_13), (91, ev_430), (94, ev_96), (96, ev_484), (97, ev_194), (98, ev_304), (101, ev_1020)]
noncomputable def zi_210_4 : ZIs := [(104, ev_192), (105, ev_31), (106, ev_582), (107, ev_685), (108, ev_1073), (111, ev_260)]
set_option maxRecDepth 100000 in
theorem xi_w210 : zall cX10_sortKeys [zi_210_0, zi_210_1, zi_210_2, zi_210_3, zi_210_4] := zall_w _ _ (by decide +kernel)
noncomputable def xi_210 (pc : Nat) : XIs := cond (Nat.blt pc 48) (cond (Nat.blt pc 22) (zx zi_210_0) (zx zi_210_1)) (cond (Nat.blt pc 77) (zx zi_210_2) (cond (Nat.blt pc 104) (zx zi_210_3) (zx zi_210_4)))
theorem xi_ok210 (pc : Nat) : xi_ok cX10_sortKeys (xi_210 pc) = true := xi_c (xi_c (zq1 xi_w210) (zq1 (zq2 xi_w210))) (xi_c (zq1 (zq2 (zq2 xi_w210))) (xi_c (zq1 (zq2 (zq2 (zq2 xi_w210)))) (zq1 (zq2 (zq2 (zq2 (zq2 xi_w210)))))))
noncomputable def zi_211_0 : ZIs := [(0, ev_13), (1, ev_1074), (4, ev_13), (5, ev_1075), (8, ev_1), (9, ev_1076), (12, ev_1077), (15, ev_13), (16, ev_1078), (19, ev_1), (20, ev_1079), (23, ev_368), (26, ev_13), (27, ev_252), (28, ev_1005), (31, ev_13)]
noncomputable def zi_211_1 : ZIs := [(32, ev_1080), (35, ev_1), (36, ev_1081), (39, ev_660), (42, ev_13), (43, ev_1082), (46, ev_1), (47, ev_1083), (50, ev_532), (53, ev_13), (54, ev_1084), (57, ev_1), (58, ev_1085), (61, ev_1086), (64, ev_13), (65, ev_1087)]
noncomputable def zi_211_2 : ZIs := [(68, ev_1), (69, ev_1088), (72, ev_666), (75, ev_13), (76, ev_1089), (79, ev_1), (80, ev_1090), (83, ev_543), (86, ev_13), (87, ev_1091), (90, ev_1), (91, ev_1092), (94, ev_1093), (97, ev_13), (98, ev_1094), (101, ev_1)]
noncomputable def zi_211_3 : ZIs := [(102, ev_1095), (105, ev_1096), (108, ev_13), (109, ev_1097), (112, ev_1), (113, ev_1098), (116, ev_286), (119, ev_13), (120, ev_1099), (123, ev_1), (124, ev_1100), (127, ev_1101), (130, ev_260)]
set_option maxRecDepth 100000 in
theorem xi_w211 : zall cX11_init [zi_211_0, zi_211_1, zi_211_2, zi_211_3] := zall_w _ _ (by decide +kernel)
noncomputable def xi_211 (pc : Nat) : XIs := cond (Nat.blt pc 68) (cond (Nat.blt pc 32) (zx zi_211_0) (zx zi_211_1)) (cond (Nat.blt pc 102) (zx zi_211_2) (zx zi_211_3))
theorem xi_ok211 (pc : Nat) : xi_ok cX11_init (xi_211 pc) = true := xi_c (xi_c (zq1 xi_w211) (zq1 (zq2 xi_w211))) (xi_c (zq1 (zq2 (zq2 xi_w211))) (zq1 (zq2 (zq2 (zq2 xi_w211)))))
noncomputable def zi_212_0 : ZIs := [(0, ev_192), (1, ev_964), (4, ev_856), (7, ev_13), (8, ev_1102), (11, ev_415), (14, ev_1103), (17, ev_176), (19, ev_683), (22, ev_13), (23, ev_1102), (26, ev_424), (29, ev_326), (32, ev_7), (33, ev_229), (36, ev_10)]
noncomputable def zi_212_1 : ZIs := [(37, ev_569), (40, ev_13), (41, ev_1102), (44, ev_192), (45, ev_427), (48, ev_98)]
set_option maxRecDepth 100000 in
theorem xi_w212 : zall cX11_node [zi_212_0, zi_212_1] := zall_w _ _ (by decide +kernel)
noncomputable def xi_212 (pc : Nat) : XIs := cond (Nat.blt pc 37) (zx zi_212_0) (zx zi_212_1)
theorem xi_ok212 (pc : Nat) : xi_ok cX11_node (xi_212 pc) = true := xi_c (zq1 xi_w212) (zq1 (zq2 xi_w212))
noncomputable def zi_213_0 : ZIs := [(0, ev_13), (1, ev_1102), (4, ev_192), (5, ev_197), (6, ev_198), (7, ev_12), (9, ev_96), (11, ev_735), (14, ev_856), (17, ev_13), (18, ev_1102), (21, ev_424), (24, ev_326), (27, ev_7), (28, ev_229), (31, ev_10)]
noncomputable def zi_213_1 : ZIs := [(32, ev_569), (35, ev_13), (36, ev_1102), (39, ev_192), (40, ev_197), (41, ev_198), (42, ev_12), (44, ev_96), (46, ev_243), (49, ev_98)]
set_option maxRecDepth 100000 in
theorem xi_w213 : zall cX11_arc [zi_213_0, zi_213_1] := zall_w _ _ (by decide +kernel)
noncomputable def xi_213 (pc : Nat) : XIs := cond (Nat.blt pc 32) (zx zi_213_0) (zx zi_213_1)
theorem xi_ok213 (pc : Nat) : xi_ok cX11_arc (xi_213 pc) = true := xi_c (zq1 xi_w213) (zq1 (zq2 xi_w213))
noncomputable def zi_214_0 : ZIs := [(0, ev_13), (1, ev_1102), (4, ev_415), (7, ev_192), (8, ev_919), (11, ev_856), (14, ev_13), (15, ev_1102), (18, ev_424), (21, ev_326), (24, ev_7), (25, ev_229), (28, ev_10), (29, ev_569), (32, ev_13), (33, ev_1102)]
noncomputable def zi_214_1 : ZIs := [(36, ev_192), (37, ev_432), (40, ev_13), (41, ev_1102), (44, ev_415), (47, ev_738), (50, ev_98)]
set_option maxRecDepth 100000 in
theorem xi_w214 : zall cX11_take [zi_214_0, zi_214_1] := zall_w _ _ (by decide +kernel)
noncomputable def xi_214 (pc : Nat) : XIs := cond (Nat.blt pc 36) (zx zi_214_0) (zx zi_214_1)
theorem xi_ok214 (pc : Nat) : xi_ok cX11_take (xi_214 pc) = true := xi_c (zq1 xi_w214) (zq1 (zq2 xi_w214))
noncomputable def zi_215_0 : ZIs := [(0, ev_13), (1, ev_1102), (4, ev_415), (7, ev_192), (8, ev_919), (11, ev_771), (14, ev_197), (15, ev_198), (16, ev_1104), (19, ev_227), (22, ev_7), (23, ev_229), (26, ev_10), (27, ev_856), (30, ev_13), (31, ev_1102)]
noncomputable def zi_215_1 : ZIs := [(34, ev_424), (37, ev_326), (40, ev_7), (41, ev_229), (44, ev_10), (45, ev_569), (48, ev_13), (49, ev_1102), (52, ev_415), (55, ev_192), (56, ev_197), (57, ev_747), (60, ev_11), (62, ev_13), (63, ev_1102), (66, ev_192)]
noncomputable def zi_215_2 : ZIs := [(67, ev_197), (68, ev_198), (69, ev_1105), (72, ev_12), (74, ev_98)]
set_option maxRecDepth 100000 in
theorem xi_w215 : zall cX11_set [zi_215_0, zi_215_1, zi_215_2] := zall_w _ _ (by decide +kernel)
noncomputable def xi_215 (pc : Nat) : XIs := cond (Nat.blt pc 34) (zx zi_215_0) (cond (Nat.blt pc 67) (zx zi_215_1) (zx zi_215_2))
theorem xi_ok215 (pc : Nat) : xi_ok cX11_set (xi_215 pc) = true := xi_c (zq1 xi_w215) (xi_c (zq1 (zq2 xi_w215)) (zq1 (zq2 (zq2 xi_w215))))
noncomputable def zi_216_0 : ZIs := [(0, ev_13), (1, ev_1102), (4, ev_415), (7, ev_192), (8, ev_813), (11, ev_1004), (14, ev_197), (15, ev_964), (18, ev_227), (21, ev_7), (22, ev_229), (25, ev_10), (26, ev_856), (29, ev_13), (30, ev_1102), (33, ev_424)]
noncomputable def zi_216_1 : ZIs := [(36, ev_326), (39, ev_7), (40, ev_229), (43, ev_10), (44, ev_569), (47, ev_13), (48, ev_1102), (51, ev_415), (54, ev_452), (57, ev_192), (58, ev_18), (59, ev_295), (60, ev_13), (61, ev_1102), (64, ev_192), (65, ev_197)]
noncomputable def zi_216_2 : ZIs := [(66, ev_602), (69, ev_198), (70, ev_98)]
set_option maxRecDepth 100000 in
theorem xi_w216 : zall cX11_label [zi_216_0, zi_216_1, zi_216_2] := zall_w _ _ (by decide +kernel)
noncomputable def xi_216 (pc : Nat) : XIs := cond (Nat.blt pc 36) (zx zi_216_0) (cond (Nat.blt pc 66) (zx zi_216_1) (zx zi_216_2))
theorem xi_ok216 (pc : Nat) : xi_ok cX11_label (xi_216 pc) = true := xi_c (zq1 xi_w216) (xi_c (zq1 (zq2 xi_w216)) (zq1 (zq2 (zq2 xi_w216))))
noncomputable def zi_217_0 : ZIs := [(0, ev_192), (1, ev_252), (2, ev_1106), (5, ev_192), (6, ev_13), (7, ev_1102), (10, ev_415), (13, ev_738), (16, ev_886), (19, ev_7), (20, ev_229), (23, ev_10), (24, ev_856), (27, ev_13), (28, ev_192), (29, ev_1005)]
noncomputable def zi_217_1 : ZIs := [(32, ev_192), (33, ev_252), (34, ev_742), (37, ev_13), (38, ev_1102), (41, ev_13), (42, ev_440), (45, ev_192), (46, ev_1107), (49, ev_13), (50, ev_1108), (53, ev_738), (56, ev_98)]
set_option maxRecDepth 100000 in
theorem xi_w217 : zall cX11_view [zi_217_0, zi_217_1] := zall_w _ _ (by decide +kernel)
noncomputable def xi_217 (pc : Nat) : XIs := cond (Nat.blt pc 32) (zx zi_217_0) (zx zi_217_1)
theorem xi_ok217 (pc : Nat) : xi_ok cX11_view (xi_217 pc) = true := xi_c (zq1 xi_w217) (zq1 (zq2 xi_w217))
noncomputable def zi_218_0 : ZIs := [(0, ev_13), (1, ev_1102), (4, ev_415), (7, ev_738), (10, ev_98)]
set_option maxRecDepth 100000 in
theorem xi_w218 : zall cX11_version [zi_218_0] := zall_w _ _ (by decide +kernel)
noncomputable def xi_218 (pc : Nat) : XIs := zx zi_218_0
theorem xi_ok218 (pc : Nat) : xi_ok cX11_version (xi_218 pc) = true := zq1 xi_w218
noncomputable def zi_219_0 : ZIs := [(0, ev_192), (1, ev_1109), (4, ev_192), (5, ev_31), (6, ev_886), (9, ev_7), (10, ev_229), (13, ev_10), (14, ev_856), (17, ev_13), (18, ev_1108), (21, ev_6), (22, ev_192)]
noncomputable def xi_219_1 : XIs := [(23, .tableswitch 40 0 2 #[25, 30, 35], 25)]
set_option maxRecDepth 100000 in
theorem xi_ok219_1 : xi_ok cX11_size xi_219_1 = true := by decide +kernel
noncomputable def zi_219_2 : ZIs := [(48, ev_26), (49, ev_1103), (52, ev_98), (53, ev_26), (54, ev_1110), (57, ev_98), (58, ev_26), (59, ev_1111), (62, ev_98), (63, ev_26), (64, ev_1112), (67, ev_7), (68, ev_16), (69, ev_98)]
set_option maxRecDepth 100000 in
theorem xi_w219 : zall cX11_size [zi_219_0, zi_219_2] := zall_w _ _ (by decide +kernel)
noncomputable def xi_219 (pc : Nat) : XIs := cond (Nat.blt pc 23) (zx zi_219_0) (cond (Nat.blt pc 48) (xi_219_1) (zx zi_219_2))
theorem xi_ok219 (pc : Nat) : xi_ok cX11_size (xi_219 pc) = true := xi_c (zq1 xi_w219) (xi_c (xi_ok219_1) (zq1 (zq2 xi_w219)))
noncomputable def zi_220_0 : ZIs := [(0, ev_192), (1, ev_1113), (4, ev_192), (5, ev_529), (8, ev_1114), (11, ev_197), (12, ev_1109), (15, ev_197), (16, ev_32), (17, ev_886), (20, ev_7), (21, ev_229), (24, ev_10), (25, ev_856), (28, ev_13), (29, ev_1108)]
noncomputable def zi_220_1 : ZIs := [(32, ev_9), (33, ev_23), (34, ev_192), (35, ev_919), (38, ev_326), (41, ev_1115), (44, ev_481), (45, ev_197), (46, ev_1116), (49, ev_23), (50, ev_1117), (53, ev_192), (54, ev_18), (55, ev_102), (56, ev_481), (57, ev_197)]
noncomputable def zi_220_2 : ZIs := [(58, ev_7), (59, ev_927), (62, ev_23), (63, ev_1118), (66, ev_192), (67, ev_18), (68, ev_102), (69, ev_1119), (72, ev_23), (73, ev_192), (74, ev_197), (75, ev_30), (76, ev_16), (77, ev_747), (80, ev_102), (81, ev_481)]
set_option maxRecDepth 100000 in
theorem xi_w220 : zall cX11_told [zi_220_0, zi_220_1, zi_220_2] := zall_w _ _ (by decide +kernel)
noncomputable def xi_220 (pc : Nat) : XIs := cond (Nat.blt pc 32) (zx zi_220_0) (cond (Nat.blt pc 58) (zx zi_220_1) (zx zi_220_2))
theorem xi_ok220 (pc : Nat) : xi_ok cX11_told (xi_220 pc) = true := xi_c (zq1 xi_w220) (xi_c (zq1 (zq2 xi_w220)) (zq1 (zq2 (zq2 xi_w220))))
noncomputable def zi_221_0 : ZIs := [(0, ev_13), (1, ev_1108), (4, ev_6), (5, ev_26), (6, ev_192), (7, ev_813), (10, ev_856), (13, ev_26), (14, ev_452), (17, ev_192), (18, ev_18), (19, ev_98)]
set_option maxRecDepth 100000 in
theorem xi_w221 : zall cX11_labelOf [zi_221_0] := zall_w _ _ (by decide +kernel)
noncomputable def xi_221 (pc : Nat) : XIs := zx zi_221_0
theorem xi_ok221 (pc : Nat) : xi_ok cX11_labelOf (xi_221 pc) = true := zq1 xi_w221
noncomputable def zi_222_0 : ZIs := [(0, ev_13), (1, ev_1108), (4, ev_207), (6, ev_203), (8, ev_192), (9, ev_813), (12, ev_680), (15, ev_197), (16, ev_1120), (19, ev_197), (20, ev_7), (21, ev_1121), (24, ev_198), (25, ev_831), (28, ev_7), (29, ev_229)]
noncomputable def zi_222_1 : ZIs := [(32, ev_10), (33, ev_856), (36, ev_203), (38, ev_61), (41, ev_197), (42, ev_1122), (45, ev_198), (46, ev_203), (48, ev_192), (49, ev_64), (52, ev_364), (55, ev_203), (57, ev_1123), (60, ev_203), (62, ev_1124), (65, ev_192)]
noncomputable def zi_222_2 : ZIs := [(66, ev_18), (67, ev_198), (68, ev_22), (69, ev_18), (70, ev_229), (73, ev_252), (74, ev_98), (75, ev_198), (76, ev_203), (78, ev_192), (79, ev_1125), (82, ev_364), (85, ev_203), (87, ev_1126), (90, ev_203), (92, ev_1127)]
noncomputable def zi_222_3 : ZIs := [(95, ev_192), (96, ev_18), (97, ev_198), (98, ev_22), (99, ev_18), (100, ev_229), (103, ev_252), (104, ev_98)]
set_option maxRecDepth 100000 in
theorem xi_w222 : zall cX11_arcAt [zi_222_0, zi_222_1, zi_222_2, zi_222_3] := zall_w _ _ (by decide +kernel)
noncomputable def xi_222 (pc : Nat) : XIs := cond (Nat.blt pc 66) (cond (Nat.blt pc 32) (zx zi_222_0) (zx zi_222_1)) (cond (Nat.blt pc 95) (zx zi_222_2) (zx zi_222_3))
theorem xi_ok222 (pc : Nat) : xi_ok cX11_arcAt (xi_222 pc) = true := xi_c (xi_c (zq1 xi_w222) (zq1 (zq2 xi_w222))) (xi_c (zq1 (zq2 (zq2 xi_w222))) (zq1 (zq2 (zq2 (zq2 xi_w222)))))
noncomputable def zi_223_0 : ZIs := [(0, ev_192), (1, ev_176), (3, ev_414), (6, ev_192), (7, ev_1128), (9, ev_886), (12, ev_7), (13, ev_229), (16, ev_10), (17, ev_856), (20, ev_13), (21, ev_695), (24, ev_506), (27, ev_803), (30, ev_656), (33, ev_7)]
noncomputable def zi_223_1 : ZIs := [(34, ev_229), (37, ev_10), (38, ev_569), (41, ev_13), (42, ev_695), (45, ev_1129), (48, ev_13), (49, ev_695), (52, ev_506), (55, ev_192), (56, ev_423), (57, ev_949), (58, ev_13), (59, ev_695), (62, ev_1), (63, ev_506)]
noncomputable def zi_223_2 : ZIs := [(66, ev_7), (67, ev_22), (68, ev_1130), (71, ev_13), (72, ev_695), (75, ev_506), (78, ev_98)]
set_option maxRecDepth 100000 in
theorem xi_w223 : zall cX11_type [zi_223_0, zi_223_1, zi_223_2] := zall_w _ _ (by decide +kernel)
noncomputable def xi_223 (pc : Nat) : XIs := cond (Nat.blt pc 34) (zx zi_223_0) (cond (Nat.blt pc 66) (zx zi_223_1) (zx zi_223_2))
theorem xi_ok223 (pc : Nat) : xi_ok cX11_type (xi_223 pc) = true := xi_c (zq1 xi_w223) (xi_c (zq1 (zq2 xi_w223)) (zq1 (zq2 (zq2 xi_w223))))
noncomputable def zi_224_0 : ZIs := [(0, ev_13), (1, ev_695), (4, ev_506), (7, ev_685), (8, ev_13), (9, ev_695), (12, ev_10), (13, ev_1130), (16, ev_192), (17, ev_98)]
set_option maxRecDepth 100000 in
theorem xi_w224 : zall cX11_wipe [zi_224_0] := zall_w _ _ (by decide +kernel)
noncomputable def xi_224 (pc : Nat) : XIs := zx zi_224_0
theorem xi_ok224 (pc : Nat) : xi_ok cX11_wipe (xi_224 pc) = true := zq1 xi_w224
noncomputable def zi_225_0 : ZIs := [(0, ev_13), (1, ev_1102), (4, ev_13), (5, ev_695), (8, ev_1131), (11, ev_98)]
set_option maxRecDepth 100000 in
theorem xi_w225 : zall cX11_load [zi_225_0] := zall_w _ _ (by decide +kernel)
noncomputable def xi_225 (pc : Nat) : XIs := zx zi_225_0
theorem xi_ok225 (pc : Nat) : xi_ok cX11_load (xi_225 pc) = true := zq1 xi_w225
noncomputable def zi_226_0 : ZIs := [(0, ev_192), (1, ev_1109), (4, ev_192), (5, ev_7), (6, ev_886), (9, ev_7), (10, ev_229), (13, ev_10), (14, ev_856), (17, ev_192), (18, ev_1132), (21, ev_13), (22, ev_695), (25, ev_1133), (28, ev_633), (31, ev_13)]
noncomputable def zi_226_1 : ZIs := [(32, ev_695), (35, ev_1134), (38, ev_98)]
set_option maxRecDepth 100000 in
theorem xi_w226 : zall cX11_fault [zi_226_0, zi_226_1] := zall_w _ _ (by decide +kernel)
noncomputable def xi_226 (pc : Nat) : XIs := cond (Nat.blt pc 32) (zx zi_226_0) (zx zi_226_1)
theorem xi_ok226 (pc : Nat) : xi_ok cX11_fault (xi_226 pc) = true := xi_c (zq1 xi_w226) (zq1 (zq2 xi_w226))
noncomputable def zi_227_0 : ZIs := [(0, ev_13), (1, ev_695), (4, ev_13), (5, ev_1108), (8, ev_1135), (11, ev_98)]
set_option maxRecDepth 100000 in
theorem xi_w227 : zall cX11_print [zi_227_0] := zall_w _ _ (by decide +kernel)
noncomputable def xi_227 (pc : Nat) : XIs := zx zi_227_0
theorem xi_ok227 (pc : Nat) : xi_ok cX11_print (xi_227 pc) = true := zq1 xi_w227
noncomputable def zi_228_0 : ZIs := [(0, ev_192), (1, ev_1136), (4, ev_192), (5, ev_13), (6, ev_695), (9, ev_1137), (12, ev_656), (15, ev_7), (16, ev_229), (19, ev_10), (20, ev_856), (23, ev_13), (24, ev_695), (27, ev_1138), (30, ev_192), (31, ev_881)]
noncomputable def zi_228_1 : ZIs := [(32, ev_98)]
set_option maxRecDepth 100000 in
theorem xi_w228 : zall cX11_printed [zi_228_0, zi_228_1] := zall_w _ _ (by decide +kernel)
noncomputable def xi_228 (pc : Nat) : XIs := cond (Nat.blt pc 32) (zx zi_228_0) (zx zi_228_1)
theorem xi_ok228 (pc : Nat) : xi_ok cX11_printed (xi_228 pc) = true := xi_c (zq1 xi_w228) (zq1 (zq2 xi_w228))
noncomputable def zi_229_0 : ZIs := [(0, ev_13), (1, ev_1108), (4, ev_9), (5, ev_23), (6, ev_192), (7, ev_813), (10, ev_771), (13, ev_23), (14, ev_197), (15, ev_813), (18, ev_227), (21, ev_7), (22, ev_229), (25, ev_10), (26, ev_856), (29, ev_13)]
noncomputable def zi_229_1 : ZIs := [(30, ev_586), (33, ev_23), (34, ev_192), (35, ev_197), (36, ev_1139), (39, ev_481)]
set_option maxRecDepth 100000 in
theorem xi_w229 : zall cX11_distance [zi_229_0, zi_229_1] := zall_w _ _ (by decide +kernel)
noncomputable def xi_229 (pc : Nat) : XIs := cond (Nat.blt pc 30) (zx zi_229_0) (zx zi_229_1)
theorem xi_ok229 (pc : Nat) : xi_ok cX11_distance (xi_229 pc) = true := xi_c (zq1 xi_w229) (zq1 (zq2 xi_w229))
noncomputable def zi_230_0 : ZIs := [(0, ev_13), (1, ev_1108), (4, ev_207), (6, ev_203), (8, ev_192), (9, ev_813), (12, ev_680), (15, ev_203), (17, ev_197), (18, ev_813), (21, ev_931), (24, ev_198), (25, ev_831), (28, ev_7), (29, ev_229), (32, ev_10)]
noncomputable def zi_230_1 : ZIs := [(33, ev_856), (36, ev_13), (37, ev_586), (40, ev_203), (42, ev_192), (43, ev_197), (44, ev_198), (45, ev_116), (48, ev_98)]
set_option maxRecDepth 100000 in
theorem xi_w230 : zall cX11_way [zi_230_0, zi_230_1] := zall_w _ _ (by decide +kernel)
noncomputable def xi_230 (pc : Nat) : XIs := cond (Nat.blt pc 33) (zx zi_230_0) (zx zi_230_1)
theorem xi_ok230 (pc : Nat) : xi_ok cX11_way (xi_230 pc) = true := xi_c (zq1 xi_w230) (zq1 (zq2 xi_w230))
noncomputable def zi_231_0 : ZIs := [(0, ev_13), (1, ev_1108), (4, ev_9), (5, ev_23), (6, ev_192), (7, ev_813), (10, ev_771), (13, ev_23), (14, ev_197), (15, ev_813), (18, ev_227), (21, ev_7), (22, ev_229), (25, ev_10), (26, ev_856), (29, ev_13)]
noncomputable def zi_231_1 : ZIs := [(30, ev_586), (33, ev_23), (34, ev_192), (35, ev_197), (36, ev_1140), (39, ev_98)]
set_option maxRecDepth 100000 in
theorem xi_w231 : zall cX11_width [zi_231_0, zi_231_1] := zall_w _ _ (by decide +kernel)
noncomputable def xi_231 (pc : Nat) : XIs := cond (Nat.blt pc 30) (zx zi_231_0) (zx zi_231_1)
theorem xi_ok231 (pc : Nat) : xi_ok cX11_width (xi_231 pc) = true := xi_c (zq1 xi_w231) (zq1 (zq2 xi_w231))
noncomputable def zi_232_0 : ZIs := [(0, ev_13), (1, ev_1108), (4, ev_9), (5, ev_23), (6, ev_192), (7, ev_197), (8, ev_1141), (11, ev_856), (14, ev_13), (15, ev_586), (18, ev_23), (19, ev_192), (20, ev_197), (21, ev_1142), (24, ev_98)]
set_option maxRecDepth 100000 in
theorem xi_w232 : zall cX11_shorts [zi_232_0] := zall_w _ _ (by decide +kernel)
noncomputable def xi_232 (pc : Nat) : XIs := zx zi_232_0
theorem xi_ok232 (pc : Nat) : xi_ok cX11_shorts (xi_232 pc) = true := zq1 xi_w232
noncomputable def zi_233_0 : ZIs := [(0, ev_13), (1, ev_1108), (4, ev_205), (6, ev_222), (8, ev_192), (9, ev_197), (10, ev_1141), (13, ev_417), (16, ev_198), (17, ev_1109), (20, ev_12), (22, ev_831), (25, ev_7), (26, ev_229), (29, ev_10), (30, ev_856)]
noncomputable def zi_233_1 : ZIs := [(33, ev_13), (34, ev_586), (37, ev_222), (39, ev_192), (40, ev_197), (41, ev_198), (42, ev_12), (44, ev_1143), (47, ev_98)]
set_option maxRecDepth 100000 in
theorem xi_w233 : zall cX11_shortArc [zi_233_0, zi_233_1] := zall_w _ _ (by decide +kernel)
noncomputable def xi_233 (pc : Nat) : XIs := cond (Nat.blt pc 33) (zx zi_233_0) (zx zi_233_1)
theorem xi_ok233 (pc : Nat) : xi_ok cX11_shortArc (xi_233 pc) = true := xi_c (zq1 xi_w233) (zq1 (zq2 xi_w233))
noncomputable def zi_234_0 : ZIs := [(0, ev_13), (1, ev_1108), (4, ev_9), (5, ev_192), (6, ev_1144), (9, ev_192), (10, ev_7), (11, ev_1145), (14, ev_23), (15, ev_197), (16, ev_813), (19, ev_227), (22, ev_7), (23, ev_229), (26, ev_10), (27, ev_856)]
noncomputable def zi_234_1 : ZIs := [(30, ev_192), (31, ev_99), (34, ev_13), (35, ev_1146), (38, ev_23), (39, ev_197), (40, ev_134), (43, ev_1119), (46, ev_13), (47, ev_1146), (50, ev_23), (51, ev_197), (52, ev_1147), (55, ev_98)]
set_option maxRecDepth 100000 in
theorem xi_w234 : zall cX11_part [zi_234_0, zi_234_1] := zall_w _ _ (by decide +kernel)
noncomputable def xi_234 (pc : Nat) : XIs := cond (Nat.blt pc 30) (zx zi_234_0) (zx zi_234_1)
theorem xi_ok234 (pc : Nat) : xi_ok cX11_part (xi_234 pc) = true := xi_c (zq1 xi_w234) (zq1 (zq2 xi_w234))
noncomputable def zi_235_0 : ZIs := [(0, ev_13), (1, ev_1108), (4, ev_6), (5, ev_26), (6, ev_192), (7, ev_919), (10, ev_856), (13, ev_13), (14, ev_1146), (17, ev_26), (18, ev_192), (19, ev_1148), (22, ev_98)]
set_option maxRecDepth 100000 in
theorem xi_w235 : zall cX11_bridge [zi_235_0] := zall_w _ _ (by decide +kernel)
noncomputable def xi_235 (pc : Nat) : XIs := zx zi_235_0
theorem xi_ok235 (pc : Nat) : xi_ok cX11_bridge (xi_235 pc) = true := zq1 xi_w235
noncomputable def zi_236_0 : ZIs := [(0, ev_13), (1, ev_1108), (4, ev_6), (5, ev_26), (6, ev_192), (7, ev_813), (10, ev_856), (13, ev_13), (14, ev_1146), (17, ev_26), (18, ev_192), (19, ev_1149), (22, ev_98)]
set_option maxRecDepth 100000 in
theorem xi_w236 : zall cX11_cut [zi_236_0] := zall_w _ _ (by decide +kernel)
noncomputable def xi_236 (pc : Nat) : XIs := zx zi_236_0
theorem xi_ok236 (pc : Nat) : xi_ok cX11_cut (xi_236 pc) = true := zq1 xi_w236
noncomputable def zi_237_0 : ZIs := [(0, ev_192), (1, ev_831), (4, ev_7), (5, ev_229), (8, ev_10), (9, ev_856), (12, ev_13), (13, ev_1146), (16, ev_13), (17, ev_1108), (20, ev_192), (21, ev_1150), (24, ev_98)]
set_option maxRecDepth 100000 in
theorem xi_w237 : zall cX11_order [zi_237_0] := zall_w _ _ (by decide +kernel)
noncomputable def xi_237 (pc : Nat) : XIs := zx zi_237_0
theorem xi_ok237 (pc : Nat) : xi_ok cX11_order (xi_237 pc) = true := zq1 xi_w237
noncomputable def zi_238_0 : ZIs := [(0, ev_13), (1, ev_1108), (4, ev_6), (5, ev_26), (6, ev_192), (7, ev_813), (10, ev_856), (13, ev_13), (14, ev_1146), (17, ev_26), (18, ev_192), (19, ev_1151), (22, ev_98)]
set_option maxRecDepth 100000 in
theorem xi_w238 : zall cX11_core [zi_238_0] := zall_w _ _ (by decide +kernel)
noncomputable def xi_238 (pc : Nat) : XIs := zx zi_238_0
theorem xi_ok238 (pc : Nat) : xi_ok cX11_core (xi_238 pc) = true := zq1 xi_w238
noncomputable def zi_239_0 : ZIs := [(0, ev_192), (1, ev_831), (4, ev_7), (5, ev_229), (8, ev_10), (9, ev_856), (12, ev_13), (13, ev_694), (16, ev_13), (17, ev_1108), (20, ev_1152), (23, ev_294), (24, ev_192), (25, ev_197), (26, ev_157), (29, ev_993)]
noncomputable def zi_239_1 : ZIs := [(32, ev_252), (33, ev_98), (34, ev_10), (35, ev_295), (36, ev_198), (37, ev_192), (38, ev_1153), (41, ev_197), (42, ev_197), (43, ev_7), (44, ev_16), (45, ev_20), (46, ev_294), (47, ev_300), (50, ev_1154), (53, ev_197)]
noncomputable def zi_239_2 : ZIs := [(54, ev_1155), (57, ev_98)]
set_option maxRecDepth 100000 in
theorem xi_w239 : zall cX11_clique [zi_239_0, zi_239_1, zi_239_2] := zall_w _ _ (by decide +kernel)
noncomputable def xi_239 (pc : Nat) : XIs := cond (Nat.blt pc 32) (zx zi_239_0) (cond (Nat.blt pc 54) (zx zi_239_1) (zx zi_239_2))
theorem xi_ok239 (pc : Nat) : xi_ok cX11_clique (xi_239 pc) = true := xi_c (zq1 xi_w239) (xi_c (zq1 (zq2 xi_w239)) (zq1 (zq2 (zq2 xi_w239))))
noncomputable def zi_240_0 : ZIs := [(0, ev_13), (1, ev_1108), (4, ev_6), (5, ev_26), (6, ev_192), (7, ev_813), (10, ev_856), (13, ev_13), (14, ev_694), (17, ev_26), (18, ev_192), (19, ev_1156), (22, ev_98)]
set_option maxRecDepth 100000 in
theorem xi_w240 : zall cX11_colour [zi_240_0] := zall_w _ _ (by decide +kernel)
noncomputable def xi_240 (pc : Nat) : XIs := zx zi_240_0
theorem xi_ok240 (pc : Nat) : xi_ok cX11_colour (xi_240 pc) = true := zq1 xi_w240
noncomputable def zi_241_0 : ZIs := [(0, ev_13), (1, ev_1108), (4, ev_9), (5, ev_23), (6, ev_192), (7, ev_197), (8, ev_1141), (11, ev_856), (14, ev_13), (15, ev_539), (18, ev_23), (19, ev_192), (20, ev_197), (21, ev_167), (24, ev_481)]
set_option maxRecDepth 100000 in
theorem xi_w241 : zall cX11_flow [zi_241_0] := zall_w _ _ (by decide +kernel)
noncomputable def xi_241 (pc : Nat) : XIs := zx zi_241_0
theorem xi_ok241 (pc : Nat) : xi_ok cX11_flow (xi_241 pc) = true := zq1 xi_w241
noncomputable def zi_242_0 : ZIs := [(0, ev_13), (1, ev_1108), (4, ev_207), (6, ev_203), (8, ev_192), (9, ev_197), (10, ev_1141), (13, ev_417), (16, ev_203), (18, ev_198), (19, ev_813), (22, ev_227), (25, ev_7), (26, ev_229), (29, ev_10), (30, ev_856)]
noncomputable def zi_242_1 : ZIs := [(33, ev_13), (34, ev_539), (37, ev_203), (39, ev_192), (40, ev_197), (41, ev_167), (44, ev_161), (45, ev_13), (46, ev_539), (49, ev_1157), (52, ev_198), (53, ev_303), (54, ev_7), (55, ev_20), (56, ev_227), (59, ev_7)]
noncomputable def zi_242_2 : ZIs := [(60, ev_229), (63, ev_10), (64, ev_98)]
set_option maxRecDepth 100000 in
theorem xi_w242 : zall cX11_side [zi_242_0, zi_242_1, zi_242_2] := zall_w _ _ (by decide +kernel)
noncomputable def xi_242 (pc : Nat) : XIs := cond (Nat.blt pc 33) (zx zi_242_0) (cond (Nat.blt pc 60) (zx zi_242_1) (zx zi_242_2))
theorem xi_ok242 (pc : Nat) : xi_ok cX11_side (xi_242 pc) = true := xi_c (zq1 xi_w242) (xi_c (zq1 (zq2 xi_w242)) (zq1 (zq2 (zq2 xi_w242))))
noncomputable def zi_243_0 : ZIs := [(0, ev_13), (1, ev_1108), (4, ev_207), (6, ev_203), (8, ev_192), (9, ev_197), (10, ev_1141), (13, ev_393), (16, ev_198), (17, ev_1158), (20, ev_198), (21, ev_1159), (24, ev_886), (27, ev_7), (28, ev_229), (31, ev_10)]
noncomputable def zi_243_1 : ZIs := [(32, ev_856), (35, ev_13), (36, ev_539), (39, ev_203), (41, ev_192), (42, ev_197), (43, ev_198), (44, ev_173), (47, ev_481)]
set_option maxRecDepth 100000 in
theorem xi_w243 : zall cX11_cost [zi_243_0, zi_243_1] := zall_w _ _ (by decide +kernel)
noncomputable def xi_243 (pc : Nat) : XIs := cond (Nat.blt pc 32) (zx zi_243_0) (zx zi_243_1)
theorem xi_ok243 (pc : Nat) : xi_ok cX11_cost (xi_243 pc) = true := xi_c (zq1 xi_w243) (zq1 (zq2 xi_w243))
noncomputable def zi_244_0 : ZIs := [(0, ev_192), (1, ev_1109), (4, ev_192), (5, ev_7), (6, ev_886), (9, ev_7), (10, ev_229), (13, ev_10), (14, ev_856), (17, ev_13), (18, ev_539), (21, ev_13), (22, ev_1108), (25, ev_1160), (28, ev_192), (29, ev_390)]
noncomputable def zi_244_1 : ZIs := [(32, ev_13), (33, ev_539), (36, ev_1161), (39, ev_102), (40, ev_633), (43, ev_13), (44, ev_539), (47, ev_1162), (50, ev_481)]
set_option maxRecDepth 100000 in
theorem xi_w244 : zall cX11_pairing [zi_244_0, zi_244_1] := zall_w _ _ (by decide +kernel)
noncomputable def xi_244 (pc : Nat) : XIs := cond (Nat.blt pc 32) (zx zi_244_0) (zx zi_244_1)
theorem xi_ok244 (pc : Nat) : xi_ok cX11_pairing (xi_244 pc) = true := xi_c (zq1 xi_w244) (zq1 (zq2 xi_w244))
noncomputable def zi_245_0 : ZIs := [(0, ev_13), (1, ev_1108), (4, ev_6), (5, ev_26), (6, ev_192), (7, ev_813), (10, ev_856), (13, ev_13), (14, ev_1163), (17, ev_26), (18, ev_192), (19, ev_188), (22, ev_481)]
set_option maxRecDepth 100000 in
theorem xi_w245 : zall cX11_tree [zi_245_0] := zall_w _ _ (by decide +kernel)
noncomputable def xi_245 (pc : Nat) : XIs := zx zi_245_0
theorem xi_ok245 (pc : Nat) : xi_ok cX11_tree (xi_245 pc) = true := zq1 xi_w245
noncomputable def zi_246_0 : ZIs := [(0, ev_13), (1, ev_1108), (4, ev_6), (5, ev_26), (6, ev_192), (7, ev_919), (10, ev_856), (13, ev_13), (14, ev_1163), (17, ev_26), (18, ev_192), (19, ev_1164), (22, ev_98)]
set_option maxRecDepth 100000 in
theorem xi_w246 : zall cX11_span [zi_246_0] := zall_w _ _ (by decide +kernel)
noncomputable def xi_246 (pc : Nat) : XIs := zx zi_246_0
theorem xi_ok246 (pc : Nat) : xi_ok cX11_span (xi_246 pc) = true := zq1 xi_w246
noncomputable def zi_247_0 : ZIs := [(0, ev_13), (1, ev_1163), (4, ev_13), (5, ev_1108), (8, ev_1165), (11, ev_98)]
set_option maxRecDepth 100000 in
theorem xi_w247 : zall cX11_trees [zi_247_0] := zall_w _ _ (by decide +kernel)
noncomputable def xi_247 (pc : Nat) : XIs := zx zi_247_0
theorem xi_ok247 (pc : Nat) : xi_ok cX11_trees (xi_247 pc) = true := zq1 xi_w247
noncomputable def zi_248_0 : ZIs := [(0, ev_13), (1, ev_1108), (4, ev_9), (5, ev_23), (6, ev_192), (7, ev_813), (10, ev_1166), (13, ev_197), (14, ev_1167), (17, ev_197), (18, ev_412), (20, ev_886), (23, ev_7), (24, ev_229), (27, ev_10), (28, ev_856)]
noncomputable def zi_248_1 : ZIs := [(31, ev_13), (32, ev_958), (35, ev_23), (36, ev_192), (37, ev_197), (38, ev_1168), (41, ev_481)]
set_option maxRecDepth 100000 in
theorem xi_w248 : zall cX11_rank [zi_248_0, zi_248_1] := zall_w _ _ (by decide +kernel)
noncomputable def xi_248 (pc : Nat) : XIs := cond (Nat.blt pc 31) (zx zi_248_0) (zx zi_248_1)
theorem xi_ok248 (pc : Nat) : xi_ok cX11_rank (xi_248 pc) = true := xi_c (zq1 xi_w248) (zq1 (zq2 xi_w248))
noncomputable def zi_249_0 : ZIs := [(0, ev_13), (1, ev_1108), (4, ev_205), (6, ev_222), (8, ev_192), (9, ev_813), (12, ev_859), (15, ev_222), (17, ev_197), (18, ev_813), (21, ev_1169), (24, ev_198), (25, ev_1170), (28, ev_198), (29, ev_30), (30, ev_933)]
noncomputable def zi_249_1 : ZIs := [(33, ev_222), (35, ev_12), (37, ev_813), (40, ev_227), (43, ev_7), (44, ev_229), (47, ev_10), (48, ev_856), (51, ev_198), (52, ev_99), (55, ev_13), (56, ev_586), (59, ev_222), (61, ev_192), (62, ev_197), (63, ev_1171)]
noncomputable def zi_249_2 : ZIs := [(66, ev_98), (67, ev_198), (68, ev_7), (69, ev_755), (72, ev_13), (73, ev_586), (76, ev_222), (78, ev_192), (79, ev_197), (80, ev_192), (81, ev_1172), (84, ev_759), (87, ev_13), (88, ev_586), (91, ev_222), (93, ev_192)]
noncomputable def zi_249_3 : ZIs := [(94, ev_197), (95, ev_12), (97, ev_1172), (100, ev_98)]
set_option maxRecDepth 100000 in
theorem xi_w249 : zall cX11_shortest [zi_249_0, zi_249_1, zi_249_2, zi_249_3] := zall_w _ _ (by decide +kernel)
noncomputable def xi_249 (pc : Nat) : XIs := cond (Nat.blt pc 66) (cond (Nat.blt pc 33) (zx zi_249_0) (zx zi_249_1)) (cond (Nat.blt pc 94) (zx zi_249_2) (zx zi_249_3))
theorem xi_ok249 (pc : Nat) : xi_ok cX11_shortest (xi_249 pc) = true := xi_c (xi_c (zq1 xi_w249) (zq1 (zq2 xi_w249))) (xi_c (zq1 (zq2 (zq2 xi_w249))) (zq1 (zq2 (zq2 (zq2 xi_w249)))))
noncomputable def zi_250_0 : ZIs := [(0, ev_13), (1, ev_1108), (4, ev_6), (5, ev_26), (6, ev_192), (7, ev_813), (10, ev_856), (13, ev_13), (14, ev_958), (17, ev_26), (18, ev_192), (19, ev_1173), (22, ev_98)]
set_option maxRecDepth 100000 in
theorem xi_w250 : zall cX11_group [zi_250_0] := zall_w _ _ (by decide +kernel)
noncomputable def xi_250 (pc : Nat) : XIs := zx zi_250_0
theorem xi_ok250 (pc : Nat) : xi_ok cX11_group (xi_250 pc) = true := zq1 xi_w250
noncomputable def zi_251_0 : ZIs := [(0, ev_13), (1, ev_958), (4, ev_13), (5, ev_1108), (8, ev_1174), (11, ev_481)]
set_option maxRecDepth 100000 in
theorem xi_w251 : zall cX11_gain [zi_251_0] := zall_w _ _ (by decide +kernel)
noncomputable def xi_251 (pc : Nat) : XIs := zx zi_251_0
theorem xi_ok251 (pc : Nat) : xi_ok cX11_gain (xi_251 pc) = true := zq1 xi_w251
noncomputable def zi_252_0 : ZIs := [(0, ev_192), (1, ev_1109), (4, ev_192), (5, ev_7), (6, ev_886), (9, ev_7), (10, ev_229), (13, ev_10), (14, ev_856), (17, ev_192), (18, ev_807), (21, ev_13), (22, ev_1146), (25, ev_13), (26, ev_1108), (29, ev_1175)]
noncomputable def zi_252_1 : ZIs := [(32, ev_1176), (35, ev_13), (36, ev_1146), (39, ev_13), (40, ev_1108), (43, ev_1177), (46, ev_481)]
set_option maxRecDepth 100000 in
theorem xi_w252 : zall cX11_figures [zi_252_0, zi_252_1] := zall_w _ _ (by decide +kernel)
noncomputable def xi_252 (pc : Nat) : XIs := cond (Nat.blt pc 32) (zx zi_252_0) (zx zi_252_1)
theorem xi_ok252 (pc : Nat) : xi_ok cX11_figures (xi_252 pc) = true := xi_c (zq1 xi_w252) (zq1 (zq2 xi_w252))
noncomputable def zi_253_0 : ZIs := [(0, ev_13), (1, ev_307), (4, ev_13), (5, ev_695), (8, ev_1178), (11, ev_227), (14, ev_10), (15, ev_638), (18, ev_808), (20, ev_98)]
set_option maxRecDepth 100000 in
theorem xi_w253 : zall cX11_pattern [zi_253_0] := zall_w _ _ (by decide +kernel)
noncomputable def xi_253 (pc : Nat) : XIs := zx zi_253_0
theorem xi_ok253 (pc : Nat) : xi_ok cX11_pattern (xi_253 pc) = true := zq1 xi_w253
noncomputable def zi_254_0 : ZIs := [(0, ev_13), (1, ev_1108), (4, ev_9), (5, ev_23), (6, ev_192), (7, ev_813), (10, ev_771), (13, ev_23), (14, ev_197), (15, ev_813), (18, ev_227), (21, ev_7), (22, ev_229), (25, ev_10), (26, ev_856), (29, ev_13)]
noncomputable def zi_254_1 : ZIs := [(30, ev_307), (33, ev_23), (34, ev_192), (35, ev_197), (36, ev_1179), (39, ev_98)]
set_option maxRecDepth 100000 in
theorem xi_w254 : zall cX11_fits [zi_254_0, zi_254_1] := zall_w _ _ (by decide +kernel)
noncomputable def xi_254 (pc : Nat) : XIs := cond (Nat.blt pc 30) (zx zi_254_0) (zx zi_254_1)
theorem xi_ok254 (pc : Nat) : xi_ok cX11_fits (xi_254 pc) = true := xi_c (zq1 xi_w254) (zq1 (zq2 xi_w254))
noncomputable def zi_255_0 : ZIs := [(0, ev_13), (1, ev_1180), (4, ev_13), (5, ev_695), (8, ev_1181), (11, ev_227), (14, ev_10), (15, ev_638), (18, ev_808), (20, ev_98)]
set_option maxRecDepth 100000 in
theorem xi_w255 : zall cX11_program [zi_255_0] := zall_w _ _ (by decide +kernel)
noncomputable def xi_255 (pc : Nat) : XIs := zx zi_255_0
theorem xi_ok255 (pc : Nat) : xi_ok cX11_program (xi_255 pc) = true := zq1 xi_w255
noncomputable def zi_256_0 : ZIs := [(0, ev_192), (1, ev_1182), (4, ev_192), (5, ev_1183), (8, ev_1184), (11, ev_197), (12, ev_7), (13, ev_1185), (16, ev_197), (17, ev_32), (18, ev_933), (21, ev_198), (22, ev_1167), (25, ev_198), (26, ev_1186), (28, ev_886)]
noncomputable def zi_256_1 : ZIs := [(31, ev_7), (32, ev_229), (35, ev_10), (36, ev_856), (39, ev_13), (40, ev_1108), (43, ev_224), (45, ev_13), (46, ev_1180), (49, ev_196), (51, ev_192), (52, ev_1187), (55, ev_275), (57, ev_13), (58, ev_1180), (61, ev_196)]
noncomputable def zi_256_2 : ZIs := [(63, ev_276), (65, ev_197), (66, ev_198), (67, ev_247), (69, ev_1188), (72, ev_276), (74, ev_98)]
set_option maxRecDepth 100000 in
theorem xi_w256 : zall cX11_run [zi_256_0, zi_256_1, zi_256_2] := zall_w _ _ (by decide +kernel)
noncomputable def xi_256 (pc : Nat) : XIs := cond (Nat.blt pc 31) (zx zi_256_0) (cond (Nat.blt pc 63) (zx zi_256_1) (zx zi_256_2))
theorem xi_ok256 (pc : Nat) : xi_ok cX11_run (xi_256 pc) = true := xi_c (zq1 xi_w256) (xi_c (zq1 (zq2 xi_w256)) (zq1 (zq2 (zq2 xi_w256))))
noncomputable def zi_257_0 : ZIs := [(0, ev_192), (1, ev_1136), (4, ev_192), (5, ev_13), (6, ev_1180), (9, ev_1189), (12, ev_656), (15, ev_7), (16, ev_229), (19, ev_10), (20, ev_856), (23, ev_13), (24, ev_1180), (27, ev_1190), (30, ev_192), (31, ev_100)]
noncomputable def zi_257_1 : ZIs := [(32, ev_481)]
set_option maxRecDepth 100000 in
theorem xi_w257 : zall cX11_state [zi_257_0, zi_257_1] := zall_w _ _ (by decide +kernel)
noncomputable def xi_257 (pc : Nat) : XIs := cond (Nat.blt pc 32) (zx zi_257_0) (zx zi_257_1)
theorem xi_ok257 (pc : Nat) : xi_ok cX11_state (xi_257 pc) = true := xi_c (zq1 xi_w257) (zq1 (zq2 xi_w257))
noncomputable def zi_258_0 : ZIs := [(0, ev_192), (1, ev_1109), (4, ev_192), (5, ev_30), (6, ev_886), (9, ev_7), (10, ev_229), (13, ev_10), (14, ev_856), (17, ev_192), (18, ev_1116), (21, ev_13), (22, ev_1180), (25, ev_1191), (28, ev_98), (29, ev_192)]
noncomputable def zi_258_1 : ZIs := [(30, ev_7), (31, ev_927), (34, ev_13), (35, ev_1180), (38, ev_1192), (41, ev_633), (44, ev_13), (45, ev_1180), (48, ev_1193), (51, ev_98)]
set_option maxRecDepth 100000 in
theorem xi_w258 : zall cX11_letters [zi_258_0, zi_258_1] := zall_w _ _ (by decide +kernel)
noncomputable def xi_258 (pc : Nat) : XIs := cond (Nat.blt pc 30) (zx zi_258_0) (zx zi_258_1)
theorem xi_ok258 (pc : Nat) : xi_ok cX11_letters (xi_258 pc) = true := xi_c (zq1 xi_w258) (zq1 (zq2 xi_w258))
noncomputable def zi_259_0 : ZIs := [(0, ev_13), (1, ev_1038), (4, ev_252), (5, ev_927), (8, ev_13), (9, ev_1102), (12, ev_415), (15, ev_212), (18, ev_13), (19, ev_440), (22, ev_823)]
set_option maxRecDepth 100000 in
theorem xi_w259 : zall cX11_graph [zi_259_0] := zall_w _ _ (by decide +kernel)
noncomputable def xi_259 (pc : Nat) : XIs := zx zi_259_0
theorem xi_ok259 (pc : Nat) : xi_ok cX11_graph (xi_259 pc) = true := zq1 xi_w259
noncomputable def zi_260_0 : ZIs := [(0, ev_482), (1, ev_1167), (4, ev_482), (5, ev_874), (7, ev_656), (10, ev_7), (11, ev_229), (14, ev_10), (15, ev_98)]
set_option maxRecDepth 100000 in
theorem xi_w260 : zall cX11_isLetter [zi_260_0] := zall_w _ _ (by decide +kernel)
noncomputable def xi_260 (pc : Nat) : XIs := zx zi_260_0
theorem xi_ok260 (pc : Nat) : xi_ok cX11_isLetter (xi_260 pc) = true := zq1 xi_w260
noncomputable def zi_261_0 : ZIs := [(0, ev_482), (1, ev_1194), (4, ev_601), (7, ev_482), (8, ev_1195), (11, ev_886), (14, ev_7), (15, ev_229), (18, ev_10), (19, ev_98)]
set_option maxRecDepth 100000 in
theorem xi_w261 : zall cX11_isWeight [zi_261_0] := zall_w _ _ (by decide +kernel)
noncomputable def xi_261 (pc : Nat) : XIs := zx zi_261_0
theorem xi_ok261 (pc : Nat) : xi_ok cX11_isWeight (xi_261 pc) = true := zq1 xi_w261
noncomputable def zi_262_0 : ZIs := [(0, ev_482), (1, ev_1158), (4, ev_482), (5, ev_1195), (8, ev_886), (11, ev_7), (12, ev_229), (15, ev_10), (16, ev_98)]
set_option maxRecDepth 100000 in
theorem xi_w262 : zall cX11_isRoom [zi_262_0] := zall_w _ _ (by decide +kernel)
noncomputable def xi_262 (pc : Nat) : XIs := zx zi_262_0
theorem xi_ok262 (pc : Nat) : xi_ok cX11_isRoom (xi_262 pc) = true := zq1 xi_w262
noncomputable def zi_263_0 : ZIs := [(0, ev_482), (1, ev_852), (4, ev_192), (5, ev_1196), (8, ev_98), (9, ev_482), (10, ev_7), (11, ev_540), (14, ev_192), (15, ev_1197), (18, ev_98), (19, ev_482), (20, ev_30), (21, ev_798), (24, ev_192), (25, ev_964)]
noncomputable def zi_263_1 : ZIs := [(28, ev_227), (31, ev_7), (32, ev_229), (35, ev_10), (36, ev_98)]
set_option maxRecDepth 100000 in
theorem xi_w263 : zall cX11_isGoodValue [zi_263_0, zi_263_1] := zall_w _ _ (by decide +kernel)
noncomputable def xi_263 (pc : Nat) : XIs := cond (Nat.blt pc 28) (zx zi_263_0) (zx zi_263_1)
theorem xi_ok263 (pc : Nat) : xi_ok cX11_isGoodValue (xi_263 pc) = true := xi_c (zq1 xi_w263) (zq1 (zq2 xi_w263))
noncomputable def zi_264_0 : ZIs := [(0, ev_482), (1, ev_482), (2, ev_310), (3, ev_20), (4, ev_7), (5, ev_16), (6, ev_157), (9, ev_98)]
set_option maxRecDepth 100000 in
theorem xi_w264 : zall cX11_lowest [zi_264_0] := zall_w _ _ (by decide +kernel)
noncomputable def xi_264 (pc : Nat) : XIs := zx zi_264_0
theorem xi_ok264 (pc : Nat) : xi_ok cX11_lowest (xi_264 pc) = true := zq1 xi_w264
noncomputable def zi_265_0 : ZIs := [(0, ev_487), (1, ev_487), (2, ev_476), (3, ev_179), (4, ev_228), (5, ev_485), (6, ev_1198), (9, ev_98)]
set_option maxRecDepth 100000 in
theorem xi_w265 : zall cX11_lowestOfLong [zi_265_0] := zall_w _ _ (by decide +kernel)
noncomputable def xi_265 (pc : Nat) : XIs := zx zi_265_0
theorem xi_ok265 (pc : Nat) : xi_ok cX11_lowestOfLong (xi_265 pc) = true := zq1 xi_w265
noncomputable def zi_266_0 : ZIs := [(0, ev_192), (1, ev_295), (2, ev_192), (3, ev_11), (5, ev_10), (6, ev_25), (8, ev_96), (10, ev_176), (12, ev_1199), (15, ev_12), (17, ev_1200), (20, ev_13), (21, ev_12), (23, ev_1155), (26, ev_18), (27, ev_197)]
noncomputable def zi_266_1 : ZIs := [(28, ev_20), (29, ev_198), (30, ev_252), (31, ev_317), (32, ev_20), (33, ev_28), (35, ev_12), (37, ev_12), (39, ev_7), (40, ev_16), (41, ev_20), (42, ev_11), (44, ev_12), (46, ev_101), (48, ev_278), (49, ev_11)]
noncomputable def zi_266_2 : ZIs := [(51, ev_198), (52, ev_101), (54, ev_278), (55, ev_295), (56, ev_343), (59, ev_908), (62, ev_198), (63, ev_98)]
set_option maxRecDepth 100000 in
theorem xi_w266 : zall cX11_flood [zi_266_0, zi_266_1, zi_266_2] := zall_w _ _ (by decide +kernel)
noncomputable def xi_266 (pc : Nat) : XIs := cond (Nat.blt pc 28) (zx zi_266_0) (cond (Nat.blt pc 51) (zx zi_266_1) (zx zi_266_2))
theorem xi_ok266 (pc : Nat) : xi_ok cX11_flood (xi_266 pc) = true := xi_c (zq1 xi_w266) (xi_c (zq1 (zq2 xi_w266)) (zq1 (zq2 (zq2 xi_w266))))
noncomputable def zi_267_0 : ZIs := [(0, ev_13), (1, ev_1074), (4, ev_13), (5, ev_31), (6, ev_255), (8, ev_1201), (11, ev_13), (12, ev_1202), (14, ev_255), (16, ev_1203), (19, ev_13), (20, ev_1204), (23, ev_1205), (25, ev_1206), (28, ev_13), (29, ev_1204)]
noncomputable def zi_267_1 : ZIs := [(32, ev_255), (34, ev_1207), (37, ev_13), (38, ev_1204), (41, ev_255), (43, ev_1005), (46, ev_13), (47, ev_1204), (50, ev_255), (52, ev_1006), (55, ev_13), (56, ev_1204), (59, ev_255), (61, ev_370), (64, ev_13), (65, ev_1204)]
noncomputable def zi_267_2 : ZIs := [(68, ev_255), (70, ev_371), (73, ev_13), (74, ev_765), (77, ev_255), (79, ev_372), (82, ev_13), (83, ev_765), (86, ev_255), (88, ev_704), (91, ev_13), (92, ev_765), (95, ev_255), (97, ev_953), (100, ev_13), (101, ev_765)]
noncomputable def zi_267_3 : ZIs := [(104, ev_255), (106, ev_1086), (109, ev_13), (110, ev_765), (113, ev_255), (115, ev_535), (118, ev_13), (119, ev_765), (122, ev_255), (124, ev_376), (127, ev_13), (128, ev_765), (131, ev_255), (133, ev_1208), (136, ev_13), (137, ev_252)]
noncomputable def zi_267_4 : ZIs := [(138, ev_1209), (141, ev_13), (142, ev_803), (145, ev_255), (147, ev_1210), (150, ev_13), (151, ev_1211), (154, ev_255), (156, ev_1212), (159, ev_13), (160, ev_1213), (163, ev_255), (165, ev_1214), (168, ev_13), (169, ev_1215), (172, ev_255)]
noncomputable def zi_267_5 : ZIs := [(174, ev_957), (177, ev_13), (178, ev_176), (180, ev_255), (182, ev_1096), (185, ev_13), (186, ev_176), (188, ev_8), (190, ev_1216), (193, ev_13), (194, ev_176), (196, ev_255), (198, ev_286), (201, ev_13), (202, ev_765), (205, ev_255)]
noncomputable def zi_267_6 : ZIs := [(207, ev_1217), (210, ev_13), (211, ev_176), (213, ev_255), (215, ev_1218), (218, ev_13), (219, ev_1219), (222, ev_255), (224, ev_1220), (227, ev_13), (228, ev_1007), (231, ev_8), (233, ev_1221), (236, ev_13), (237, ev_1007), (240, ev_255)]
noncomputable def zi_267_7 : ZIs := [(242, ev_1222), (245, ev_13), (246, ev_1007), (249, ev_255), (251, ev_1223), (254, ev_13), (255, ev_176), (257, ev_255), (259, ev_1224), (262, ev_13), (263, ev_525), (265, ev_255), (267, ev_1225), (270, ev_13), (271, ev_525), (273, ev_255)]
noncomputable def zi_267_8 : ZIs := [(275, ev_1226), (278, ev_13), (279, ev_176), (281, ev_255), (283, ev_1227), (286, ev_13), (287, ev_176), (289, ev_255), (291, ev_1228), (294, ev_13), (295, ev_176), (297, ev_255), (299, ev_1229), (302, ev_13), (303, ev_525), (305, ev_255)]
noncomputable def zi_267_9 : ZIs := [(307, ev_1230), (310, ev_13), (311, ev_525), (313, ev_255), (315, ev_1231), (318, ev_13), (319, ev_525), (321, ev_255), (323, ev_1232), (326, ev_13), (327, ev_529), (330, ev_8), (332, ev_1233), (335, ev_13), (336, ev_1234), (338, ev_255)]
noncomputable def zi_267_10 : ZIs := [(340, ev_1235), (343, ev_13), (344, ev_1234), (346, ev_8), (348, ev_1236), (351, ev_13), (352, ev_176), (354, ev_8), (356, ev_587), (359, ev_13), (360, ev_176), (362, ev_255), (364, ev_1237), (367, ev_13), (368, ev_528), (371, ev_8)]
noncomputable def zi_267_11 : ZIs := [(373, ev_1238), (376, ev_13), (377, ev_529), (380, ev_255), (382, ev_1239), (385, ev_13), (386, ev_529), (389, ev_255), (391, ev_1240), (394, ev_13), (395, ev_529), (398, ev_8), (400, ev_1241), (403, ev_13), (404, ev_176), (406, ev_8)]
noncomputable def zi_267_12 : ZIs := [(408, ev_1242), (411, ev_13), (412, ev_176), (414, ev_255), (416, ev_1243), (419, ev_13), (420, ev_176), (422, ev_255), (424, ev_1244), (427, ev_13), (428, ev_176), (430, ev_255), (432, ev_1245), (435, ev_13), (436, ev_176), (438, ev_255)]
noncomputable def zi_267_13 : ZIs := [(440, ev_1246), (443, ev_13), (444, ev_528), (447, ev_8), (449, ev_1247), (452, ev_13), (453, ev_176), (455, ev_8), (457, ev_1248), (460, ev_13), (461, ev_176), (463, ev_8), (465, ev_1249), (468, ev_13), (469, ev_176), (471, ev_255)]
noncomputable def zi_267_14 : ZIs := [(473, ev_1250), (476, ev_13), (477, ev_176), (479, ev_255), (481, ev_1251), (484, ev_13), (485, ev_176), (487, ev_8), (489, ev_1252), (492, ev_13), (493, ev_176), (495, ev_255), (497, ev_1253), (500, ev_13), (501, ev_176), (503, ev_8)]
noncomputable def zi_267_15 : ZIs := [(505, ev_1254), (508, ev_13), (509, ev_176), (511, ev_255), (513, ev_1255), (516, ev_13), (517, ev_176), (519, ev_255), (521, ev_1256), (524, ev_13), (525, ev_528), (528, ev_255), (530, ev_1257), (533, ev_13), (534, ev_389), (536, ev_255)]
noncomputable def zi_267_16 : ZIs := [(538, ev_1258), (541, ev_13), (542, ev_389), (544, ev_8), (546, ev_1259), (549, ev_13), (550, ev_7), (551, ev_1260), (554, ev_13), (555, ev_389), (557, ev_255), (559, ev_1261), (562, ev_13), (563, ev_389), (565, ev_8), (567, ev_1262)]
noncomputable def zi_267_17 : ZIs := [(570, ev_13), (571, ev_1263), (573, ev_1205), (575, ev_1264), (578, ev_13), (579, ev_1263), (581, ev_1205), (583, ev_1265), (586, ev_13), (587, ev_1263), (589, ev_8), (591, ev_1266), (594, ev_13), (595, ev_1263), (597, ev_8), (599, ev_1267)]
noncomputable def zi_267_18 : ZIs := [(602, ev_13), (603, ev_1263), (605, ev_1205), (607, ev_1268), (610, ev_13), (611, ev_1263), (613, ev_8), (615, ev_1269), (618, ev_13), (619, ev_1263), (621, ev_8), (623, ev_1270), (626, ev_13), (627, ev_1045), (630, ev_255), (632, ev_1271)]
noncomputable def zi_267_19 : ZIs := [(635, ev_13), (636, ev_1272), (639, ev_255), (641, ev_1273), (644, ev_13), (645, ev_1272), (648, ev_255), (650, ev_1274), (653, ev_13), (654, ev_31), (655, ev_255), (657, ev_1275), (660, ev_13), (661, ev_1272), (664, ev_255), (666, ev_1276)]
noncomputable def zi_267_20 : ZIs := [(669, ev_13), (670, ev_1272), (673, ev_255), (675, ev_1277), (678, ev_13), (679, ev_31), (680, ev_255), (682, ev_1278), (685, ev_13), (686, ev_1183), (689, ev_255), (691, ev_1279), (694, ev_13), (695, ev_176), (697, ev_8), (699, ev_1280)]
noncomputable def zi_267_21 : ZIs := [(702, ev_13), (703, ev_176), (705, ev_8), (707, ev_1281), (710, ev_13), (711, ev_1183), (714, ev_8), (716, ev_1282), (719, ev_13), (720, ev_369), (722, ev_8), (724, ev_1283), (727, ev_13), (728, ev_1284), (731, ev_260)]
set_option maxRecDepth 100000 in
theorem xi_w267 : zall cX12_init [zi_267_0, zi_267_1, zi_267_2, zi_267_3, zi_267_4, zi_267_5, zi_267_6, zi_267_7, zi_267_8, zi_267_9, zi_267_10, zi_267_11, zi_267_12, zi_267_13, zi_267_14, zi_267_15, zi_267_16, zi_267_17, zi_267_18, zi_267_19, zi_267_20, zi_267_21] := zall_w _ _ (by decide +kernel)
noncomputable def xi_267 (pc : Nat) : XIs := cond (Nat.blt pc 373) (cond (Nat.blt pc 174) (cond (Nat.blt pc 68) (cond (Nat.blt pc 32) (zx zi_267_0) (zx zi_267_1)) (cond (Nat.blt pc 104) (zx zi_267_2) (cond (Nat.blt pc 138) (zx zi_267_3) (zx zi_267_4)))) (cond (Nat.blt pc 275) (cond (Nat.blt pc 207) (zx zi_267_5) (cond (Nat.blt pc 242) (zx zi_267_6) (zx zi_267_7))) (cond (Nat.blt pc 307) (zx zi_267_8) (cond (Nat.blt pc 340) (zx zi_267_9) (zx zi_267_10))))) (cond (Nat.blt pc 538) (cond (Nat.blt pc 440) (cond (Nat.blt pc 408) (zx zi_267_11) (zx zi_267_12)) (cond (Nat.blt pc 473) (zx zi_267_13) (cond (Nat.blt pc 505) (zx zi_267_14) (zx zi_267_15)))) (cond (Nat.blt pc 635) (cond (Nat.blt pc 570) (zx zi_267_16) (cond (Nat.blt pc 602) (zx zi_267_17) (zx zi_267_18))) (cond (Nat.blt pc 669) (zx zi_267_19) (cond (Nat.blt pc 702) (zx zi_267_20) (zx zi_267_21)))))
theorem xi_ok267 (pc : Nat) : xi_ok cX12_init (xi_267 pc) = true := xi_c (xi_c (xi_c (xi_c (zq1 xi_w267) (zq1 (zq2 xi_w267))) (xi_c (zq1 (zq2 (zq2 xi_w267))) (xi_c (zq1 (zq2 (zq2 (zq2 xi_w267)))) (zq1 (zq2 (zq2 (zq2 (zq2 xi_w267)))))))) (xi_c (xi_c (zq1 (zq2 (zq2 (zq2 (zq2 (zq2 xi_w267)))))) (xi_c (zq1 (zq2 (zq2 (zq2 (zq2 (zq2 (zq2 xi_w267))))))) (zq1 (zq2 (zq2 (zq2 (zq2 (zq2 (zq2 (zq2 xi_w267)))))))))) (xi_c (zq1 (zq2 (zq2 (zq2 (zq2 (zq2 (zq2 (zq2 (zq2 xi_w267))))))))) (xi_c (zq1 (zq2 (zq2 (zq2 (zq2 (zq2 (zq2 (zq2 (zq2 (zq2 xi_w267)))))))))) (zq1 (zq2 (zq2 (zq2 (zq2 (zq2 (zq2 (zq2 (zq2 (zq2 (zq2 xi_w267))))))))))))))) (xi_c (xi_c (xi_c (zq1 (zq2 (zq2 (zq2 (zq2 (zq2 (zq2 (zq2 (zq2 (zq2 (zq2 (zq2 xi_w267)))))))))))) (zq1 (zq2 (zq2 (zq2 (zq2 (zq2 (zq2 (zq2 (zq2 (zq2 (zq2 (zq2 (zq2 xi_w267)))))))))))))) (xi_c (zq1 (zq2 (zq2 (zq2 (zq2 (zq2 (zq2 (zq2 (zq2 (zq2 (zq2 (zq2 (zq2 (zq2 xi_w267)))))))))))))) (xi_c (zq1 (zq2 (zq2 (zq2 (zq2 (zq2 (zq2 (zq2 (zq2 (zq2 (zq2 (zq2 (zq2 (zq2 (zq2 xi_w267))))))))))))))) (zq1 (zq2 (zq2 (zq2 (zq2 (zq2 (zq2 (zq2 (zq2 (zq2 (zq2 (zq2 (zq2 (zq2 (zq2 (zq2 xi_w267))))))))))))))))))) (xi_c (xi_c (zq1 (zq2 (zq2 (zq2 (zq2 (zq2 (zq2 (zq2 (zq2 (zq2 (zq2 (zq2 (zq2 (zq2 (zq2 (zq2 (zq2 xi_w267))))))))))))))))) (xi_c (zq1 (zq2 (zq2 (zq2 (zq2 (zq2 (zq2 (zq2 (zq2 (zq2 (zq2 (zq2 (zq2 (zq2 (zq2 (zq2 (zq2 (zq2 xi_w267)))))))))))))))))) (zq1 (zq2 (zq2 (zq2 (zq2 (zq2 (zq2 (zq2 (zq2 (zq2 (zq2 (zq2 (zq2 (zq2 (zq2 (zq2 (zq2 (zq2 (zq2 xi_w267))))))))))))))))))))) (xi_c (zq1 (zq2 (zq2 (zq2 (zq2 (zq2 (zq2 (zq2 (zq2 (zq2 (zq2 (zq2 (zq2 (zq2 (zq2 (zq2 (zq2 (zq2 (zq2 (zq2 xi_w267)))))))))))))))))))) (xi_c (zq1 (zq2 (zq2 (zq2 (zq2 (zq2 (zq2 (zq2 (zq2 (zq2 (zq2 (zq2 (zq2 (zq2 (zq2 (zq2 (zq2 (zq2 (zq2 (zq2 (zq2 xi_w267))))))))))))))))))))) (zq1 (zq2 (zq2 (zq2 (zq2 (zq2 (zq2 (zq2 (zq2 (zq2 (zq2 (zq2 (zq2 (zq2 (zq2 (zq2 (zq2 (zq2 (zq2 (zq2 (zq2 (zq2 xi_w267))))))))))))))))))))))))))
noncomputable def zi_268_0 : ZIs := [(0, ev_13), (1, ev_1285), (4, ev_98)]
set_option maxRecDepth 100000 in
theorem xi_w268 : zall cX12_thrown [zi_268_0] := zall_w _ _ (by decide +kernel)
noncomputable def xi_268 (pc : Nat) : XIs := zx zi_268_0
theorem xi_ok268 (pc : Nat) : xi_ok cX12_thrown (xi_268 pc) = true := zq1 xi_w268
noncomputable def zi_269_0 : ZIs := [(0, ev_487), (1, ev_489), (2, ev_103), (3, ev_1158), (6, ev_487), (7, ev_247), (9, ev_103), (10, ev_491), (13, ev_7), (14, ev_229), (17, ev_10), (18, ev_98)]
set_option maxRecDepth 100000 in
theorem xi_w269 : zall cX12_in [zi_269_0] := zall_w _ _ (by decide +kernel)
noncomputable def xi_269 (pc : Nat) : XIs := zx zi_269_0
theorem xi_ok269 (pc : Nat) : xi_ok cX12_in (xi_269 pc) = true := zq1 xi_w269
noncomputable def zi_270_0 : ZIs := [(0, ev_13), (1, ev_192), (2, ev_326), (5, ev_7), (6, ev_1119), (9, ev_197), (10, ev_326), (13, ev_30), (14, ev_229), (17, ev_10), (18, ev_1286), (21, ev_13), (22, ev_1285), (25, ev_493), (28, ev_7), (29, ev_229)]
noncomputable def zi_270_1 : ZIs := [(32, ev_10), (33, ev_98)]
set_option maxRecDepth 100000 in
theorem xi_w270 : zall cX12_fails [zi_270_0, zi_270_1] := zall_w _ _ (by decide +kernel)
noncomputable def xi_270 (pc : Nat) : XIs := cond (Nat.blt pc 32) (zx zi_270_0) (zx zi_270_1)
theorem xi_ok270 (pc : Nat) : xi_ok cX12_fails (xi_270 pc) = true := xi_c (zq1 xi_w270) (zq1 (zq2 xi_w270))
noncomputable def zi_271_0 : ZIs := [(0, ev_13), (1, ev_192), (2, ev_7), (3, ev_1287), (6, ev_98)]
set_option maxRecDepth 100000 in
theorem xi_w271 : zall cX12_wrongArgument [zi_271_0] := zall_w _ _ (by decide +kernel)
noncomputable def xi_271 (pc : Nat) : XIs := zx zi_271_0
theorem xi_ok271 (pc : Nat) : xi_ok cX12_wrongArgument (xi_271 pc) = true := zq1 xi_w271
noncomputable def zi_272_0 : ZIs := [(0, ev_192), (1, ev_678), (4, ev_192), (5, ev_13), (6, ev_1288), (9, ev_656), (12, ev_7), (13, ev_229), (16, ev_10), (17, ev_98)]
set_option maxRecDepth 100000 in
theorem xi_w272 : zall cX12_isNode [zi_272_0] := zall_w _ _ (by decide +kernel)
noncomputable def xi_272 (pc : Nat) : XIs := zx zi_272_0
theorem xi_ok272 (pc : Nat) : xi_ok cX12_isNode (xi_272 pc) = true := zq1 xi_w272
noncomputable def zi_273_0 : ZIs := [(0, ev_192), (1, ev_1289), (4, ev_192), (5, ev_529), (8, ev_364), (11, ev_13), (12, ev_1290), (15, ev_13), (16, ev_1291), (19, ev_192), (20, ev_22), (21, ev_1292), (22, ev_227), (25, ev_7), (26, ev_229), (29, ev_10)]
noncomputable def zi_273_1 : ZIs := [(30, ev_98)]
set_option maxRecDepth 100000 in
theorem xi_w273 : zall cX12_isArc [zi_273_0, zi_273_1] := zall_w _ _ (by decide +kernel)
noncomputable def xi_273 (pc : Nat) : XIs := cond (Nat.blt pc 30) (zx zi_273_0) (zx zi_273_1)
theorem xi_ok273 (pc : Nat) : xi_ok cX12_isArc (xi_273 pc) = true := xi_c (zq1 xi_w273) (zq1 (zq2 xi_w273))
noncomputable def zi_274_0 : ZIs := [(0, ev_13), (1, ev_430), (4, ev_13), (5, ev_1293), (8, ev_192), (9, ev_299), (10, ev_13), (11, ev_751), (14, ev_13), (15, ev_1293), (18, ev_197), (19, ev_299), (20, ev_13), (21, ev_705), (24, ev_13), (25, ev_1293)]
noncomputable def zi_274_1 : ZIs := [(28, ev_198), (29, ev_299), (30, ev_13), (31, ev_1146), (34, ev_13), (35, ev_1293), (38, ev_12), (40, ev_299), (41, ev_13), (42, ev_640), (45, ev_13), (46, ev_1293), (49, ev_96), (51, ev_299), (52, ev_13), (53, ev_383)]
noncomputable def zi_274_2 : ZIs := [(56, ev_13), (57, ev_1293), (60, ev_101), (62, ev_299), (63, ev_13), (64, ev_1294), (67, ev_13), (68, ev_1293), (71, ev_276), (73, ev_299), (74, ev_13), (75, ev_13), (76, ev_1293), (79, ev_10), (80, ev_1295), (83, ev_13)]
noncomputable def zi_274_3 : ZIs := [(84, ev_1), (85, ev_1293), (88, ev_7), (89, ev_22), (90, ev_1296), (93, ev_13), (94, ev_1297), (97, ev_260)]
set_option maxRecDepth 100000 in
theorem xi_w274 : zall cX12_make [zi_274_0, zi_274_1, zi_274_2, zi_274_3] := zall_w _ _ (by decide +kernel)
noncomputable def xi_274 (pc : Nat) : XIs := cond (Nat.blt pc 56) (cond (Nat.blt pc 28) (zx zi_274_0) (zx zi_274_1)) (cond (Nat.blt pc 84) (zx zi_274_2) (zx zi_274_3))
theorem xi_ok274 (pc : Nat) : xi_ok cX12_make (xi_274 pc) = true := xi_c (xi_c (zq1 xi_w274) (zq1 (zq2 xi_w274))) (xi_c (zq1 (zq2 (zq2 xi_w274))) (zq1 (zq2 (zq2 (zq2 xi_w274)))))
noncomputable def zi_275_0 : ZIs := [(0, ev_529), (3, ev_197), (4, ev_355), (5, ev_13), (6, ev_751), (9, ev_192), (10, ev_18), (11, ev_22), (12, ev_295), (13, ev_13), (14, ev_430), (17, ev_192), (18, ev_18)]
noncomputable def xi_275_1 : XIs := [(19, .tableswitch 208 0 3 #[29, 64, 134, 144], 29)]
set_option maxRecDepth 100000 in
theorem xi_ok275_1 : xi_ok cX12_apply xi_275_1 = true := by decide +kernel
noncomputable def zi_275_2 : ZIs := [(48, ev_13), (49, ev_1298), (52, ev_176), (54, ev_197), (55, ev_355), (56, ev_13), (57, ev_1299), (60, ev_197), (61, ev_18), (62, ev_22), (63, ev_13), (64, ev_751), (67, ev_192), (68, ev_18), (69, ev_299), (70, ev_13)]
noncomputable def zi_275_3 : ZIs := [(71, ev_1299), (74, ev_197), (75, ev_316), (76, ev_18), (77, ev_7), (78, ev_22), (79, ev_299), (80, ev_1300), (83, ev_13), (84, ev_1290), (87, ev_198), (88, ev_7), (89, ev_1301), (90, ev_13), (91, ev_1302), (94, ev_198)]
noncomputable def zi_275_4 : ZIs := [(95, ev_13), (96, ev_705), (99, ev_192), (100, ev_18), (101, ev_299), (102, ev_13), (103, ev_1038), (106, ev_198), (107, ev_13), (108, ev_1146), (111, ev_192), (112, ev_18), (113, ev_299), (114, ev_13), (115, ev_1039), (118, ev_198)]
noncomputable def zi_275_5 : ZIs := [(119, ev_13), (120, ev_640), (123, ev_192), (124, ev_18), (125, ev_299), (126, ev_13), (127, ev_465), (130, ev_198), (131, ev_13), (132, ev_383), (135, ev_192), (136, ev_18), (137, ev_299), (138, ev_13), (139, ev_434), (142, ev_198)]
noncomputable def zi_275_6 : ZIs := [(143, ev_13), (144, ev_1294), (147, ev_192), (148, ev_18), (149, ev_299), (150, ev_1303), (153, ev_13), (154, ev_1290), (157, ev_198), (158, ev_10), (159, ev_1301), (160, ev_1304), (163, ev_13), (164, ev_705), (167, ev_192), (168, ev_18)]
noncomputable def zi_275_7 : ZIs := [(169, ev_1305), (172, ev_13), (173, ev_1039), (176, ev_198), (177, ev_13), (178, ev_1146), (181, ev_192), (182, ev_18), (183, ev_299), (184, ev_1306), (187, ev_13), (188, ev_705), (191, ev_192), (192, ev_18), (193, ev_7), (194, ev_755)]
noncomputable def zi_275_8 : ZIs := [(197, ev_13), (198, ev_465), (201, ev_198), (202, ev_13), (203, ev_1146), (206, ev_192), (207, ev_18), (208, ev_299), (209, ev_1307), (212, ev_13), (213, ev_434), (216, ev_198), (217, ev_13), (218, ev_1146), (221, ev_192), (222, ev_18)]
noncomputable def zi_275_9 : ZIs := [(223, ev_299), (224, ev_1308), (227, ev_13), (228, ev_1298), (231, ev_176), (233, ev_197), (234, ev_355), (235, ev_13), (236, ev_751), (239, ev_192), (240, ev_18), (241, ev_22), (242, ev_13), (243, ev_705), (246, ev_192), (247, ev_18)]
noncomputable def zi_275_10 : ZIs := [(248, ev_299), (249, ev_260)]
set_option maxRecDepth 100000 in
theorem xi_w275 : zall cX12_apply [zi_275_0, zi_275_2, zi_275_3, zi_275_4, zi_275_5, zi_275_6, zi_275_7, zi_275_8, zi_275_9, zi_275_10] := zall_w _ _ (by decide +kernel)
noncomputable def xi_275 (pc : Nat) : XIs := cond (Nat.blt pc 119) (cond (Nat.blt pc 48) (cond (Nat.blt pc 19) (zx zi_275_0) (xi_275_1)) (cond (Nat.blt pc 71) (zx zi_275_2) (cond (Nat.blt pc 95) (zx zi_275_3) (zx zi_275_4)))) (cond (Nat.blt pc 197) (cond (Nat.blt pc 143) (zx zi_275_5) (cond (Nat.blt pc 169) (zx zi_275_6) (zx zi_275_7))) (cond (Nat.blt pc 223) (zx zi_275_8) (cond (Nat.blt pc 248) (zx zi_275_9) (zx zi_275_10))))
theorem xi_ok275 (pc : Nat) : xi_ok cX12_apply (xi_275 pc) = true := xi_c (xi_c (xi_c (zq1 xi_w275) (xi_ok275_1)) (xi_c (zq1 (zq2 xi_w275)) (xi_c (zq1 (zq2 (zq2 xi_w275))) (zq1 (zq2 (zq2 (zq2 xi_w275))))))) (xi_c (xi_c (zq1 (zq2 (zq2 (zq2 (zq2 xi_w275))))) (xi_c (zq1 (zq2 (zq2 (zq2 (zq2 (zq2 xi_w275)))))) (zq1 (zq2 (zq2 (zq2 (zq2 (zq2 (zq2 xi_w275))))))))) (xi_c (zq1 (zq2 (zq2 (zq2 (zq2 (zq2 (zq2 (zq2 xi_w275)))))))) (xi_c (zq1 (zq2 (zq2 (zq2 (zq2 (zq2 (zq2 (zq2 (zq2 xi_w275))))))))) (zq1 (zq2 (zq2 (zq2 (zq2 (zq2 (zq2 (zq2 (zq2 (zq2 xi_w275)))))))))))))
noncomputable def zi_276_0 : ZIs := [(0, ev_13), (1, ev_13), (2, ev_1309), (5, ev_486), (8, ev_10), (9, ev_229), (12, ev_7), (13, ev_1310), (16, ev_13), (17, ev_529), (20, ev_13), (21, ev_1161), (24, ev_355), (25, ev_1311), (28, ev_13), (29, ev_13)]
noncomputable def zi_276_1 : ZIs := [(30, ev_1299), (33, ev_13), (34, ev_1161), (37, ev_18), (38, ev_1312), (41, ev_260)]
set_option maxRecDepth 100000 in
theorem xi_w276 : zall cX12_look [zi_276_0, zi_276_1] := zall_w _ _ (by decide +kernel)
noncomputable def xi_276 (pc : Nat) : XIs := cond (Nat.blt pc 30) (zx zi_276_0) (zx zi_276_1)
theorem xi_ok276 (pc : Nat) : xi_ok cX12_look (xi_276 pc) = true := xi_c (zq1 xi_w276) (zq1 (zq2 xi_w276))
noncomputable def zi_277_0 : ZIs := [(0, ev_192), (1, ev_1313), (4, ev_192), (5, ev_13), (6, ev_1299), (9, ev_10), (10, ev_18), (11, ev_656), (14, ev_7), (15, ev_229), (18, ev_10), (19, ev_98)]
set_option maxRecDepth 100000 in
theorem xi_w277 : zall cX12_isNewNode [zi_277_0] := zall_w _ _ (by decide +kernel)
noncomputable def xi_277 (pc : Nat) : XIs := zx zi_277_0
theorem xi_ok277 (pc : Nat) : xi_ok cX12_isNewNode (xi_277 pc) = true := zq1 xi_w277
noncomputable def zi_278_0 : ZIs := [(0, ev_192), (1, ev_1113), (4, ev_192), (5, ev_529), (8, ev_1114), (11, ev_13), (12, ev_1290), (15, ev_192), (16, ev_1292), (17, ev_227), (20, ev_7), (21, ev_229), (24, ev_10), (25, ev_98)]
set_option maxRecDepth 100000 in
theorem xi_w278 : zall cX12_isNewArc [zi_278_0] := zall_w _ _ (by decide +kernel)
noncomputable def xi_278 (pc : Nat) : XIs := zx zi_278_0
theorem xi_ok278 (pc : Nat) : xi_ok cX12_isNewArc (xi_278 pc) = true := zq1 xi_w278
noncomputable def zi_279_0 : ZIs := [(0, ev_482), (1, ev_102), (2, ev_1314), (5, ev_1315), (8, ev_1316), (11, ev_98)]
set_option maxRecDepth 100000 in
theorem xi_w279 : zall cX12_isWeight [zi_279_0] := zall_w _ _ (by decide +kernel)
noncomputable def xi_279 (pc : Nat) : XIs := zx zi_279_0
theorem xi_ok279 (pc : Nat) : xi_ok cX12_isWeight (xi_279 pc) = true := zq1 xi_w279
noncomputable def zi_280_0 : ZIs := [(0, ev_10), (1, ev_294), (2, ev_197), (3, ev_529), (6, ev_302), (9, ev_13), (10, ev_1290), (13, ev_529), (16, ev_192), (17, ev_355), (18, ev_197), (19, ev_22), (20, ev_1292), (21, ev_347), (24, ev_304), (27, ev_319)]
noncomputable def zi_280_1 : ZIs := [(30, ev_197), (31, ev_98)]
set_option maxRecDepth 100000 in
theorem xi_w280 : zall cX12_freePlace [zi_280_0, zi_280_1] := zall_w _ _ (by decide +kernel)
noncomputable def xi_280 (pc : Nat) : XIs := cond (Nat.blt pc 30) (zx zi_280_0) (zx zi_280_1)
theorem xi_ok280 (pc : Nat) : xi_ok cX12_freePlace (xi_280 pc) = true := xi_c (zq1 xi_w280) (zq1 (zq2 xi_w280))
noncomputable def zi_281_0 : ZIs := [(0, ev_13), (1, ev_192), (2, ev_102), (3, ev_230), (4, ev_1317), (7, ev_1316), (10, ev_13), (11, ev_1299), (14, ev_10), (15, ev_18), (16, ev_176), (18, ev_683), (21, ev_13), (22, ev_1293), (25, ev_765), (28, ev_656)]
noncomputable def zi_281_1 : ZIs := [(31, ev_7), (32, ev_229), (35, ev_10), (36, ev_1287), (39, ev_104), (42, ev_10), (43, ev_98), (44, ev_13), (45, ev_10), (46, ev_192), (47, ev_10), (48, ev_10), (49, ev_10), (50, ev_10), (51, ev_10), (52, ev_1318)]
noncomputable def zi_281_2 : ZIs := [(55, ev_13), (56, ev_1299), (59, ev_10), (60, ev_18), (61, ev_7), (62, ev_16), (63, ev_98)]
set_option maxRecDepth 100000 in
theorem xi_w281 : zall cX12_node [zi_281_0, zi_281_1, zi_281_2] := zall_w _ _ (by decide +kernel)
noncomputable def xi_281 (pc : Nat) : XIs := cond (Nat.blt pc 31) (zx zi_281_0) (cond (Nat.blt pc 55) (zx zi_281_1) (zx zi_281_2))
theorem xi_ok281 (pc : Nat) : xi_ok cX12_node (xi_281 pc) = true := xi_c (zq1 xi_w281) (xi_c (zq1 (zq2 xi_w281)) (zq1 (zq2 (zq2 xi_w281))))
noncomputable def zi_282_0 : ZIs := [(0, ev_13), (1, ev_13), (2, ev_192), (3, ev_1168), (6, ev_1319), (9, ev_13), (10, ev_197), (11, ev_1168), (14, ev_867), (17, ev_198), (18, ev_1320), (21, ev_1321), (24, ev_12), (26, ev_102), (27, ev_230), (28, ev_1315)]
noncomputable def zi_282_1 : ZIs := [(31, ev_1316), (34, ev_680), (37, ev_96), (39, ev_102), (40, ev_230), (41, ev_1317), (44, ev_1316), (47, ev_227), (50, ev_7), (51, ev_229), (54, ev_10), (55, ev_13), (56, ev_1293), (59, ev_765), (62, ev_656), (65, ev_7)]
noncomputable def zi_282_2 : ZIs := [(66, ev_229), (69, ev_10), (70, ev_1287), (73, ev_104), (76, ev_10), (77, ev_98), (78, ev_13), (79, ev_10), (80, ev_1322), (83, ev_28), (85, ev_101), (87, ev_529), (90, ev_774), (93, ev_775), (95, ev_98), (96, ev_13)]
noncomputable def zi_282_3 : ZIs := [(97, ev_7), (98, ev_101), (100, ev_192), (101, ev_197), (102, ev_198), (103, ev_12), (105, ev_96), (107, ev_1318), (110, ev_101), (112, ev_98)]
set_option maxRecDepth 100000 in
theorem xi_w282 : zall cX12_arc [zi_282_0, zi_282_1, zi_282_2, zi_282_3] := zall_w _ _ (by decide +kernel)
noncomputable def xi_282 (pc : Nat) : XIs := cond (Nat.blt pc 66) (cond (Nat.blt pc 31) (zx zi_282_0) (zx zi_282_1)) (cond (Nat.blt pc 97) (zx zi_282_2) (zx zi_282_3))
theorem xi_ok282 (pc : Nat) : xi_ok cX12_arc (xi_282 pc) = true := xi_c (xi_c (zq1 xi_w282) (zq1 (zq2 xi_w282))) (xi_c (zq1 (zq2 (zq2 xi_w282))) (zq1 (zq2 (zq2 (zq2 xi_w282)))))
noncomputable def zi_283_0 : ZIs := [(0, ev_13), (1, ev_13), (2, ev_192), (3, ev_1323), (6, ev_13), (7, ev_1293), (10, ev_765), (13, ev_656), (16, ev_7), (17, ev_229), (20, ev_10), (21, ev_1287), (24, ev_104), (27, ev_10), (28, ev_98), (29, ev_13)]
noncomputable def zi_283_1 : ZIs := [(30, ev_30), (31, ev_192), (32, ev_10), (33, ev_10), (34, ev_10), (35, ev_10), (36, ev_10), (37, ev_1318), (40, ev_13), (41, ev_1293), (44, ev_98)]
set_option maxRecDepth 100000 in
theorem xi_w283 : zall cX12_take [zi_283_0, zi_283_1] := zall_w _ _ (by decide +kernel)
noncomputable def xi_283 (pc : Nat) : XIs := cond (Nat.blt pc 30) (zx zi_283_0) (zx zi_283_1)
theorem xi_ok283 (pc : Nat) : xi_ok cX12_take (xi_283 pc) = true := xi_c (zq1 xi_w283) (zq1 (zq2 xi_w283))
noncomputable def zi_284_0 : ZIs := [(0, ev_197), (1, ev_381), (4, ev_198), (5, ev_1320), (8, ev_787), (11, ev_197), (12, ev_7), (13, ev_727), (16, ev_198), (17, ev_102), (18, ev_230), (19, ev_1315), (22, ev_1316), (25, ev_1308), (28, ev_197), (29, ev_30)]
noncomputable def zi_284_1 : ZIs := [(30, ev_756), (33, ev_198), (34, ev_102), (35, ev_230), (36, ev_1317), (39, ev_1316), (42, ev_227), (45, ev_7), (46, ev_229), (49, ev_10), (50, ev_11), (52, ev_13), (53, ev_13), (54, ev_192), (55, ev_1323), (58, ev_649)]
noncomputable def zi_284_2 : ZIs := [(61, ev_12), (63, ev_227), (66, ev_7), (67, ev_229), (70, ev_10), (71, ev_13), (72, ev_1293), (75, ev_765), (78, ev_656), (81, ev_7), (82, ev_229), (85, ev_10), (86, ev_1287), (89, ev_104), (92, ev_10), (93, ev_98)]
noncomputable def zi_284_3 : ZIs := [(94, ev_197), (95, ev_399), (98, ev_13), (99, ev_1039), (102, ev_192), (103, ev_18), (104, ev_1324), (107, ev_197), (108, ev_7), (109, ev_690), (112, ev_13), (113, ev_465), (116, ev_192), (117, ev_18), (118, ev_195), (121, ev_13)]
noncomputable def zi_284_4 : ZIs := [(122, ev_434), (125, ev_192), (126, ev_18), (127, ev_25), (129, ev_13), (130, ev_31), (131, ev_192), (132, ev_197), (133, ev_198), (134, ev_10), (135, ev_10), (136, ev_10), (137, ev_1318), (140, ev_96), (142, ev_98)]
set_option maxRecDepth 100000 in
theorem xi_w284 : zall cX12_set [zi_284_0, zi_284_1, zi_284_2, zi_284_3, zi_284_4] := zall_w _ _ (by decide +kernel)
noncomputable def xi_284 (pc : Nat) : XIs := cond (Nat.blt pc 61) (cond (Nat.blt pc 30) (zx zi_284_0) (zx zi_284_1)) (cond (Nat.blt pc 94) (zx zi_284_2) (cond (Nat.blt pc 122) (zx zi_284_3) (zx zi_284_4)))
theorem xi_ok284 (pc : Nat) : xi_ok cX12_set (xi_284 pc) = true := xi_c (xi_c (zq1 xi_w284) (zq1 (zq2 xi_w284))) (xi_c (zq1 (zq2 (zq2 xi_w284))) (xi_c (zq1 (zq2 (zq2 (zq2 xi_w284)))) (zq1 (zq2 (zq2 (zq2 (zq2 xi_w284)))))))
noncomputable def zi_285_0 : ZIs := [(0, ev_13), (1, ev_13), (2, ev_192), (3, ev_1168), (6, ev_488), (9, ev_197), (10, ev_102), (11, ev_230), (12, ev_1317), (15, ev_1316), (18, ev_227), (21, ev_7), (22, ev_229), (25, ev_10), (26, ev_13), (27, ev_1293)]
noncomputable def zi_285_1 : ZIs := [(30, ev_765), (33, ev_656), (36, ev_7), (37, ev_229), (40, ev_10), (41, ev_1287), (44, ev_104), (47, ev_10), (48, ev_98), (49, ev_13), (50, ev_1298), (53, ev_192), (54, ev_18), (55, ev_295), (56, ev_13), (57, ev_32)]
noncomputable def zi_285_2 : ZIs := [(58, ev_192), (59, ev_197), (60, ev_10), (61, ev_10), (62, ev_10), (63, ev_10), (64, ev_1318), (67, ev_198), (68, ev_98)]
set_option maxRecDepth 100000 in
theorem xi_w285 : zall cX12_label [zi_285_0, zi_285_1, zi_285_2] := zall_w _ _ (by decide +kernel)
noncomputable def xi_285 (pc : Nat) : XIs := cond (Nat.blt pc 30) (zx zi_285_0) (cond (Nat.blt pc 58) (zx zi_285_1) (zx zi_285_2))
theorem xi_ok285 (pc : Nat) : xi_ok cX12_label (xi_285 pc) = true := xi_c (zq1 xi_w285) (xi_c (zq1 (zq2 xi_w285)) (zq1 (zq2 (zq2 xi_w285))))
noncomputable def zi_286_0 : ZIs := [(0, ev_13), (1, ev_192), (2, ev_102), (3, ev_1325), (6, ev_13), (7, ev_1293), (10, ev_102), (11, ev_1316), (14, ev_1175), (17, ev_104), (20, ev_10), (21, ev_98), (22, ev_13), (23, ev_192), (24, ev_1209), (27, ev_192)]
noncomputable def zi_286_1 : ZIs := [(28, ev_1326), (31, ev_13), (32, ev_1299), (35, ev_7), (36, ev_10), (37, ev_299), (38, ev_10), (39, ev_294), (40, ev_197), (41, ev_529), (44, ev_686), (47, ev_13), (48, ev_1290), (51, ev_529), (54, ev_197), (55, ev_22)]
noncomputable def zi_286_2 : ZIs := [(56, ev_10), (57, ev_1301), (58, ev_304), (61, ev_1327), (64, ev_10), (65, ev_294), (66, ev_197), (67, ev_192), (68, ev_1153), (71, ev_13), (72, ev_197), (73, ev_7), (74, ev_1295), (77, ev_304), (80, ev_1154), (83, ev_13)]
noncomputable def zi_286_3 : ZIs := [(84, ev_1297), (87, ev_192), (88, ev_1328), (91, ev_13), (92, ev_1293), (95, ev_229), (98, ev_192), (99, ev_98)]
set_option maxRecDepth 100000 in
theorem xi_w286 : zall cX12_view [zi_286_0, zi_286_1, zi_286_2, zi_286_3] := zall_w _ _ (by decide +kernel)
noncomputable def xi_286 (pc : Nat) : XIs := cond (Nat.blt pc 56) (cond (Nat.blt pc 28) (zx zi_286_0) (zx zi_286_1)) (cond (Nat.blt pc 84) (zx zi_286_2) (zx zi_286_3))
theorem xi_ok286 (pc : Nat) : xi_ok cX12_view (xi_286 pc) = true := xi_c (xi_c (zq1 xi_w286) (zq1 (zq2 xi_w286))) (xi_c (zq1 (zq2 (zq2 xi_w286))) (zq1 (zq2 (zq2 (zq2 xi_w286)))))
noncomputable def zi_287_0 : ZIs := [(0, ev_13), (1, ev_10), (2, ev_1286), (5, ev_13), (6, ev_1293), (9, ev_98)]
set_option maxRecDepth 100000 in
theorem xi_w287 : zall cX12_version [zi_287_0] := zall_w _ _ (by decide +kernel)
noncomputable def xi_287 (pc : Nat) : XIs := zx zi_287_0
theorem xi_ok287 (pc : Nat) : xi_ok cX12_version (xi_287 pc) = true := zq1 xi_w287
noncomputable def zi_288_0 : ZIs := [(0, ev_13), (1, ev_1290), (4, ev_13), (5, ev_1291), (8, ev_192), (9, ev_22), (10, ev_1292), (11, ev_1329), (14, ev_13), (15, ev_1302), (18, ev_13), (19, ev_1291), (22, ev_192), (23, ev_22), (24, ev_18), (25, ev_13)]
noncomputable def zi_288_1 : ZIs := [(26, ev_1038), (29, ev_13), (30, ev_1291), (33, ev_192), (34, ev_22), (35, ev_18), (36, ev_681), (39, ev_7), (40, ev_229), (43, ev_10), (44, ev_98)]
set_option maxRecDepth 100000 in
theorem xi_w288 : zall cX12_isJoint [zi_288_0, zi_288_1] := zall_w _ _ (by decide +kernel)
noncomputable def xi_288 (pc : Nat) : XIs := cond (Nat.blt pc 26) (zx zi_288_0) (zx zi_288_1)
theorem xi_ok288 (pc : Nat) : xi_ok cX12_isJoint (xi_288 pc) = true := xi_c (zq1 xi_w288) (zq1 (zq2 xi_w288))
noncomputable def zi_289_0 : ZIs := [(0, ev_13), (1, ev_192), (2, ev_102), (3, ev_230), (4, ev_1330), (7, ev_1316), (10, ev_1175), (13, ev_104), (16, ev_10), (17, ev_98), (18, ev_10), (19, ev_294), (20, ev_10), (21, ev_295), (22, ev_252), (23, ev_11)]
noncomputable def zi_289_1 : ZIs := [(25, ev_10), (26, ev_25), (28, ev_96), (30, ev_529), (33, ev_449), (36, ev_197), (37, ev_13), (38, ev_1290), (41, ev_13), (42, ev_1291), (45, ev_96), (47, ev_22), (48, ev_1292), (49, ev_227), (52, ev_7), (53, ev_229)]
noncomputable def zi_289_2 : ZIs := [(56, ev_10), (57, ev_22), (58, ev_294), (59, ev_198), (60, ev_13), (61, ev_96), (63, ev_1178), (66, ev_227), (69, ev_7), (70, ev_229), (73, ev_10), (74, ev_22), (75, ev_295), (76, ev_13), (77, ev_1290), (80, ev_13)]
noncomputable def zi_289_3 : ZIs := [(81, ev_1291), (84, ev_96), (86, ev_22), (87, ev_1292), (88, ev_330), (91, ev_96), (93, ev_638), (96, ev_12), (98, ev_11), (100, ev_343), (103, ev_844), (106, ev_192), (107, ev_381), (110, ev_13), (111, ev_1288), (114, ev_1324)]
noncomputable def zi_289_4 : ZIs := [(117, ev_192), (118, ev_7), (119, ev_818), (122, ev_197), (123, ev_1176), (126, ev_192), (127, ev_30), (128, ev_818), (131, ev_198), (132, ev_638), (135, ev_12), (137, ev_98)]
set_option maxRecDepth 100000 in
theorem xi_w289 : zall cX12_size [zi_289_0, zi_289_1, zi_289_2, zi_289_3, zi_289_4] := zall_w _ _ (by decide +kernel)
noncomputable def xi_289 (pc : Nat) : XIs := cond (Nat.blt pc 56) (cond (Nat.blt pc 25) (zx zi_289_0) (zx zi_289_1)) (cond (Nat.blt pc 81) (zx zi_289_2) (cond (Nat.blt pc 117) (zx zi_289_3) (zx zi_289_4)))
theorem xi_ok289 (pc : Nat) : xi_ok cX12_size (xi_289 pc) = true := xi_c (xi_c (zq1 xi_w289) (zq1 (zq2 xi_w289))) (xi_c (zq1 (zq2 (zq2 xi_w289))) (xi_c (zq1 (zq2 (zq2 (zq2 xi_w289)))) (zq1 (zq2 (zq2 (zq2 (zq2 xi_w289)))))))
noncomputable def zi_290_0 : ZIs := [(0, ev_13), (1, ev_192), (2, ev_102), (3, ev_230), (4, ev_1331), (7, ev_1316), (10, ev_488), (13, ev_197), (14, ev_102), (15, ev_230), (16, ev_1332), (19, ev_1316), (22, ev_227), (25, ev_7), (26, ev_229), (29, ev_10)]
noncomputable def zi_290_1 : ZIs := [(30, ev_1175), (33, ev_104), (36, ev_230), (37, ev_481), (38, ev_13), (39, ev_1291), (42, ev_192), (43, ev_22), (44, ev_295), (45, ev_13), (46, ev_1290), (49, ev_198), (50, ev_1292), (51, ev_326), (54, ev_1333), (57, ev_481)]
noncomputable def zi_290_2 : ZIs := [(58, ev_197), (59, ev_1132), (62, ev_13), (63, ev_1302), (66, ev_198), (67, ev_18), (68, ev_102), (69, ev_1334), (72, ev_197), (73, ev_7), (74, ev_927), (77, ev_13), (78, ev_1038), (81, ev_198), (82, ev_18), (83, ev_102)]
noncomputable def zi_290_3 : ZIs := [(84, ev_1307), (87, ev_197), (88, ev_30), (89, ev_927), (92, ev_13), (93, ev_1039), (96, ev_198), (97, ev_18), (98, ev_102), (99, ev_1308), (102, ev_197), (103, ev_31), (104, ev_927), (107, ev_13), (108, ev_465), (111, ev_198)]
noncomputable def zi_290_4 : ZIs := [(112, ev_18), (113, ev_102), (114, ev_633), (117, ev_13), (118, ev_434), (121, ev_198), (122, ev_18), (123, ev_102), (124, ev_481)]
set_option maxRecDepth 100000 in
theorem xi_w290 : zall cX12_told [zi_290_0, zi_290_1, zi_290_2, zi_290_3, zi_290_4] := zall_w _ _ (by decide +kernel)
noncomputable def xi_290 (pc : Nat) : XIs := cond (Nat.blt pc 58) (cond (Nat.blt pc 30) (zx zi_290_0) (zx zi_290_1)) (cond (Nat.blt pc 84) (zx zi_290_2) (cond (Nat.blt pc 112) (zx zi_290_3) (zx zi_290_4)))
theorem xi_ok290 (pc : Nat) : xi_ok cX12_told (xi_290 pc) = true := xi_c (xi_c (zq1 xi_w290) (zq1 (zq2 xi_w290))) (xi_c (zq1 (zq2 (zq2 xi_w290))) (xi_c (zq1 (zq2 (zq2 (zq2 xi_w290)))) (zq1 (zq2 (zq2 (zq2 (zq2 xi_w290)))))))
noncomputable def zi_291_0 : ZIs := [(0, ev_13), (1, ev_13), (2, ev_192), (3, ev_1335), (6, ev_1175), (9, ev_227), (12, ev_10), (13, ev_788), (16, ev_13), (17, ev_1298), (20, ev_176), (22, ev_13), (23, ev_1161), (26, ev_355), (27, ev_192), (28, ev_22)]
noncomputable def zi_291_1 : ZIs := [(29, ev_18), (30, ev_98)]
set_option maxRecDepth 100000 in
theorem xi_w291 : zall cX12_labelOf [zi_291_0, zi_291_1] := zall_w _ _ (by decide +kernel)
noncomputable def xi_291 (pc : Nat) : XIs := cond (Nat.blt pc 29) (zx zi_291_0) (zx zi_291_1)
theorem xi_ok291 (pc : Nat) : xi_ok cX12_labelOf (xi_291 pc) = true := xi_c (zq1 xi_w291) (zq1 (zq2 xi_w291))
noncomputable def zi_292_0 : ZIs := [(0, ev_13), (1, ev_13), (2, ev_192), (3, ev_1335), (6, ev_333), (9, ev_197), (10, ev_102), (11, ev_230), (12, ev_228), (13, ev_1316), (16, ev_931), (19, ev_198), (20, ev_831), (23, ev_7), (24, ev_229), (27, ev_10)]
noncomputable def zi_292_1 : ZIs := [(28, ev_1175), (31, ev_104), (34, ev_10), (35, ev_98), (36, ev_10), (37, ev_11), (39, ev_10), (40, ev_25), (42, ev_96), (44, ev_529), (47, ev_1336), (50, ev_13), (51, ev_1290), (54, ev_13), (55, ev_1291), (58, ev_96)]
noncomputable def zi_292_2 : ZIs := [(60, ev_22), (61, ev_1292), (62, ev_1337), (65, ev_197), (66, ev_1305), (69, ev_13), (70, ev_1302), (73, ev_13), (74, ev_1291), (77, ev_96), (79, ev_22), (80, ev_18), (81, ev_439), (84, ev_13), (85, ev_1038), (88, ev_13)]
noncomputable def zi_292_3 : ZIs := [(89, ev_1291), (92, ev_96), (94, ev_22), (95, ev_18), (96, ev_192), (97, ev_727), (100, ev_12), (102, ev_198), (103, ev_774), (106, ev_96), (108, ev_98), (109, ev_348), (112, ev_343), (115, ev_1338), (118, ev_252), (119, ev_98)]
set_option maxRecDepth 100000 in
theorem xi_w292 : zall cX12_arcAt [zi_292_0, zi_292_1, zi_292_2, zi_292_3] := zall_w _ _ (by decide +kernel)
noncomputable def xi_292 (pc : Nat) : XIs := cond (Nat.blt pc 60) (cond (Nat.blt pc 28) (zx zi_292_0) (zx zi_292_1)) (cond (Nat.blt pc 89) (zx zi_292_2) (zx zi_292_3))
theorem xi_ok292 (pc : Nat) : xi_ok cX12_arcAt (xi_292 pc) = true := xi_c (xi_c (zq1 xi_w292) (zq1 (zq2 xi_w292))) (xi_c (zq1 (zq2 (zq2 xi_w292))) (zq1 (zq2 (zq2 (zq2 xi_w292)))))
noncomputable def zi_293_0 : ZIs := [(0, ev_13), (1, ev_192), (2, ev_102), (3, ev_1339), (6, ev_1340), (9, ev_1316), (12, ev_13), (13, ev_1190), (16, ev_803), (19, ev_656), (22, ev_7), (23, ev_229), (26, ev_10), (27, ev_1287), (30, ev_104), (33, ev_10)]
noncomputable def zi_293_1 : ZIs := [(34, ev_98), (35, ev_13), (36, ev_840), (39, ev_13), (40, ev_1190), (43, ev_192), (44, ev_299), (45, ev_13), (46, ev_1), (47, ev_1190), (50, ev_7), (51, ev_22), (52, ev_1341), (55, ev_13), (56, ev_1190), (59, ev_98)]
set_option maxRecDepth 100000 in
theorem xi_w293 : zall cX12_type [zi_293_0, zi_293_1] := zall_w _ _ (by decide +kernel)
noncomputable def xi_293 (pc : Nat) : XIs := cond (Nat.blt pc 34) (zx zi_293_0) (zx zi_293_1)
theorem xi_ok293 (pc : Nat) : xi_ok cX12_type (xi_293 pc) = true := xi_c (zq1 xi_w293) (zq1 (zq2 xi_w293))
noncomputable def zi_294_0 : ZIs := [(0, ev_13), (1, ev_10), (2, ev_1286), (5, ev_13), (6, ev_1190), (9, ev_685), (10, ev_13), (11, ev_10), (12, ev_1341), (15, ev_192), (16, ev_98)]
set_option maxRecDepth 100000 in
theorem xi_w294 : zall cX12_wipe [zi_294_0] := zall_w _ _ (by decide +kernel)
noncomputable def xi_294 (pc : Nat) : XIs := zx zi_294_0
theorem xi_ok294 (pc : Nat) : xi_ok cX12_wipe (xi_294 pc) = true := zq1 xi_w294
noncomputable def zi_295_0 : ZIs := [(0, ev_13), (1, ev_192), (2, ev_102), (3, ev_230), (4, ev_228), (5, ev_1316), (8, ev_1175), (11, ev_104), (14, ev_10), (15, ev_98), (16, ev_13), (17, ev_1342), (20, ev_326), (23, ev_252), (24, ev_1343), (27, ev_192)]
noncomputable def zi_295_1 : ZIs := [(28, ev_381), (31, ev_13), (32, ev_1342), (35, ev_212), (38, ev_13), (39, ev_1344), (42, ev_98)]
set_option maxRecDepth 100000 in
theorem xi_w295 : zall cX12_fault [zi_295_0, zi_295_1] := zall_w _ _ (by decide +kernel)
noncomputable def xi_295 (pc : Nat) : XIs := cond (Nat.blt pc 28) (zx zi_295_0) (zx zi_295_1)
theorem xi_ok295 (pc : Nat) : xi_ok cX12_fault (xi_295 pc) = true := xi_c (zq1 xi_w295) (zq1 (zq2 xi_w295))
noncomputable def zi_296_0 : ZIs := [(0, ev_482), (1, ev_422), (3, ev_414), (6, ev_482), (7, ev_885), (9, ev_886), (12, ev_7), (13, ev_229), (16, ev_10), (17, ev_98)]
set_option maxRecDepth 100000 in
theorem xi_w296 : zall cX12_isLetter [zi_296_0] := zall_w _ _ (by decide +kernel)
noncomputable def xi_296 (pc : Nat) : XIs := zx zi_296_0
theorem xi_ok296 (pc : Nat) : xi_ok cX12_isLetter (xi_296 pc) = true := zq1 xi_w296
noncomputable def zi_297_0 : ZIs := [(0, ev_482), (1, ev_935), (3, ev_414), (6, ev_482), (7, ev_937), (9, ev_886), (12, ev_7), (13, ev_229), (16, ev_10), (17, ev_98)]
set_option maxRecDepth 100000 in
theorem xi_w297 : zall cX12_isDigit [zi_297_0] := zall_w _ _ (by decide +kernel)
noncomputable def xi_297 (pc : Nat) : XIs := zx zi_297_0
theorem xi_ok297 (pc : Nat) : xi_ok cX12_isDigit (xi_297 pc) = true := zq1 xi_w297
noncomputable def zi_298_0 : ZIs := [(0, ev_13), (1, ev_1342), (4, ev_1132), (7, ev_13), (8, ev_192), (9, ev_1345), (12, ev_13), (13, ev_197), (14, ev_1346), (17, ev_260)]
set_option maxRecDepth 100000 in
theorem xi_w298 : zall cX12_blame [zi_298_0] := zall_w _ _ (by decide +kernel)
noncomputable def xi_298 (pc : Nat) : XIs := zx zi_298_0
theorem xi_ok298 (pc : Nat) : xi_ok cX12_blame (xi_298 pc) = true := zq1 xi_w298
noncomputable def zi_299_0 : ZIs := [(0, ev_13), (1, ev_1347), (4, ev_13), (5, ev_1190), (8, ev_929), (11, ev_13), (12, ev_840), (15, ev_13), (16, ev_1347), (19, ev_18), (20, ev_176), (22, ev_538), (25, ev_13), (26, ev_1), (27, ev_1347), (30, ev_7)]
noncomputable def zi_299_1 : ZIs := [(31, ev_22), (32, ev_1348), (35, ev_293), (38, ev_13), (39, ev_13), (40, ev_1347), (43, ev_1349), (46, ev_13), (47, ev_1347), (50, ev_13), (51, ev_1190), (54, ev_410), (57, ev_13), (58, ev_10), (59, ev_1350), (62, ev_260)]
noncomputable def zi_299_2 : ZIs := [(63, ev_13), (64, ev_840), (67, ev_13), (68, ev_1347), (71, ev_18), (72, ev_685), (73, ev_13), (74, ev_192), (75, ev_1351), (78, ev_192), (79, ev_400), (81, ev_1352), (84, ev_13), (85, ev_1347), (88, ev_7), (89, ev_22)]
noncomputable def zi_299_3 : ZIs := [(90, ev_13), (91, ev_1190), (94, ev_302), (97, ev_13), (98, ev_840), (101, ev_13), (102, ev_1347), (105, ev_7), (106, ev_22), (107, ev_18), (108, ev_1196), (111, ev_227), (114, ev_7), (115, ev_229), (118, ev_10), (119, ev_294)]
noncomputable def zi_299_4 : ZIs := [(120, ev_192), (121, ev_1196), (124, ev_326), (127, ev_197), (128, ev_1353), (131, ev_13), (132, ev_30), (133, ev_1350), (136, ev_13), (137, ev_1), (138, ev_1347), (141, ev_197), (142, ev_227), (145, ev_7), (146, ev_229), (149, ev_10)]
noncomputable def zi_299_5 : ZIs := [(150, ev_22), (151, ev_1348), (154, ev_13), (155, ev_468), (157, ev_1354), (160, ev_13), (161, ev_197), (162, ev_931), (165, ev_13), (166, ev_1355), (169, ev_476), (170, ev_212), (173, ev_13), (174, ev_1355), (177, ev_1356), (180, ev_260)]
noncomputable def zi_299_6 : ZIs := [(181, ev_13), (182, ev_192), (183, ev_1357), (186, ev_227), (189, ev_7), (190, ev_229), (193, ev_31), (194, ev_1350), (197, ev_13), (198, ev_1358), (201, ev_31), (202, ev_755), (205, ev_192), (206, ev_379), (208, ev_1359), (211, ev_13)]
noncomputable def zi_299_7 : ZIs := [(212, ev_7), (213, ev_13), (214, ev_1360), (217, ev_1361), (220, ev_13), (221, ev_1), (222, ev_1347), (225, ev_7), (226, ev_22), (227, ev_1348), (230, ev_260)]
set_option maxRecDepth 100000 in
theorem xi_w299 : zall cX12_nextToken [zi_299_0, zi_299_1, zi_299_2, zi_299_3, zi_299_4, zi_299_5, zi_299_6, zi_299_7] := zall_w _ _ (by decide +kernel)
noncomputable def xi_299 (pc : Nat) : XIs := cond (Nat.blt pc 120) (cond (Nat.blt pc 63) (cond (Nat.blt pc 31) (zx zi_299_0) (zx zi_299_1)) (cond (Nat.blt pc 90) (zx zi_299_2) (zx zi_299_3))) (cond (Nat.blt pc 181) (cond (Nat.blt pc 150) (zx zi_299_4) (zx zi_299_5)) (cond (Nat.blt pc 212) (zx zi_299_6) (zx zi_299_7)))
theorem xi_ok299 (pc : Nat) : xi_ok cX12_nextToken (xi_299 pc) = true := xi_c (xi_c (xi_c (zq1 xi_w299) (zq1 (zq2 xi_w299))) (xi_c (zq1 (zq2 (zq2 xi_w299))) (zq1 (zq2 (zq2 (zq2 xi_w299)))))) (xi_c (xi_c (zq1 (zq2 (zq2 (zq2 (zq2 xi_w299))))) (zq1 (zq2 (zq2 (zq2 (zq2 (zq2 xi_w299))))))) (xi_c (zq1 (zq2 (zq2 (zq2 (zq2 (zq2 (zq2 xi_w299))))))) (zq1 (zq2 (zq2 (zq2 (zq2 (zq2 (zq2 (zq2 xi_w299))))))))))
noncomputable def zi_300_0 : ZIs := [(0, ev_13), (1, ev_1347), (4, ev_294), (5, ev_13), (6, ev_230), (7, ev_1356), (10, ev_13), (11, ev_1347), (14, ev_13), (15, ev_1190), (18, ev_946), (21, ev_13), (22, ev_840), (25, ev_13), (26, ev_1347), (29, ev_18)]
noncomputable def zi_300_1 : ZIs := [(30, ev_1196), (33, ev_1362), (36, ev_13), (37, ev_13), (38, ev_1347), (41, ev_197), (42, ev_16), (43, ev_192), (44, ev_863), (47, ev_1363), (50, ev_13), (51, ev_1355), (54, ev_492), (55, ev_13), (56, ev_840), (59, ev_13)]
noncomputable def zi_300_2 : ZIs := [(60, ev_1347), (63, ev_18), (64, ev_102), (65, ev_457), (66, ev_1364), (69, ev_485), (70, ev_212), (73, ev_13), (74, ev_1355), (77, ev_1356), (80, ev_13), (81, ev_1), (82, ev_1347), (85, ev_7), (86, ev_22), (87, ev_1348)]
noncomputable def zi_300_3 : ZIs := [(90, ev_342), (93, ev_13), (94, ev_1347), (97, ev_197), (98, ev_16), (99, ev_192), (100, ev_1365), (103, ev_13), (104, ev_192), (105, ev_468), (107, ev_818), (110, ev_31), (111, ev_229), (114, ev_32), (115, ev_13), (116, ev_1360)]
noncomputable def zi_300_4 : ZIs := [(119, ev_1361), (122, ev_260)]
set_option maxRecDepth 100000 in
theorem xi_w300 : zall cX12_readNumber [zi_300_0, zi_300_1, zi_300_2, zi_300_3, zi_300_4] := zall_w _ _ (by decide +kernel)
noncomputable def xi_300 (pc : Nat) : XIs := cond (Nat.blt pc 60) (cond (Nat.blt pc 30) (zx zi_300_0) (zx zi_300_1)) (cond (Nat.blt pc 90) (zx zi_300_2) (cond (Nat.blt pc 119) (zx zi_300_3) (zx zi_300_4)))
theorem xi_ok300 (pc : Nat) : xi_ok cX12_readNumber (xi_300 pc) = true := xi_c (xi_c (zq1 xi_w300) (zq1 (zq2 xi_w300))) (xi_c (zq1 (zq2 (zq2 xi_w300))) (xi_c (zq1 (zq2 (zq2 (zq2 xi_w300)))) (zq1 (zq2 (zq2 (zq2 (zq2 xi_w300)))))))
noncomputable def zi_301_0 : ZIs := [(0, ev_192)]
noncomputable def xi_301_1 : XIs := [(1, .lookupswitch 76 #[(97, 45), (110, 35), (116, 65)], 35)]
set_option maxRecDepth 100000 in
theorem xi_ok301_1 : xi_ok cX12_shape xi_301_1 = true := by decide +kernel
noncomputable def zi_301_2 : ZIs := [(36, ev_197), (37, ev_326), (40, ev_7), (41, ev_229), (44, ev_31), (45, ev_98), (46, ev_197), (47, ev_32), (48, ev_656), (51, ev_30), (52, ev_473), (55, ev_197), (56, ev_32), (57, ev_818), (60, ev_7), (61, ev_229)]
noncomputable def zi_301_3 : ZIs := [(64, ev_31), (65, ev_98), (66, ev_197), (67, ev_7), (68, ev_656), (71, ev_30), (72, ev_229), (75, ev_31), (76, ev_98), (77, ev_197), (78, ev_30), (79, ev_656), (82, ev_30), (83, ev_229), (86, ev_31), (87, ev_98)]
set_option maxRecDepth 100000 in
theorem xi_w301 : zall cX12_shape [zi_301_0, zi_301_2, zi_301_3] := zall_w _ _ (by decide +kernel)
noncomputable def xi_301 (pc : Nat) : XIs := cond (Nat.blt pc 36) (cond (Nat.blt pc 1) (zx zi_301_0) (xi_301_1)) (cond (Nat.blt pc 64) (zx zi_301_2) (zx zi_301_3))
theorem xi_ok301 (pc : Nat) : xi_ok cX12_shape (xi_301 pc) = true := xi_c (xi_c (zq1 xi_w301) (xi_ok301_1)) (xi_c (zq1 (zq2 xi_w301)) (zq1 (zq2 (zq2 xi_w301))))
noncomputable def zi_302_0 : ZIs := [(0, ev_13), (1, ev_10), (2, ev_1286), (5, ev_13), (6, ev_10), (7, ev_1345), (10, ev_13), (11, ev_10), (12, ev_1366), (15, ev_13), (16, ev_10), (17, ev_1348), (20, ev_13), (21, ev_1367), (24, ev_13), (25, ev_1368)]
noncomputable def zi_302_1 : ZIs := [(28, ev_13), (29, ev_1358), (32, ev_617), (35, ev_13), (36, ev_1342), (39, ev_1369), (42, ev_13), (43, ev_1370), (46, ev_13), (47, ev_1342), (50, ev_1371), (53, ev_13), (54, ev_1368), (57, ev_853), (60, ev_13), (61, ev_1342)]
noncomputable def zi_302_2 : ZIs := [(64, ev_1372), (67, ev_808), (69, ev_98), (70, ev_10), (71, ev_685), (72, ev_192), (73, ev_13), (74, ev_1373), (77, ev_1374), (80, ev_33), (81, ev_192), (82, ev_355), (83, ev_294), (84, ev_13), (85, ev_1014), (88, ev_192)]
noncomputable def zi_302_3 : ZIs := [(89, ev_18)]
noncomputable def xi_302_4 : XIs := [(90, .lookupswitch 123 #[(97, 53), (110, 34), (116, 104)], 34)]
set_option maxRecDepth 100000 in
theorem xi_ok302_4 : xi_ok cX12_load xi_302_4 = true := by decide +kernel
noncomputable def zi_302_5 : ZIs := [(124, ev_13), (125, ev_10), (126, ev_13), (127, ev_960), (130, ev_197), (131, ev_18), (132, ev_10), (133, ev_10), (134, ev_10), (135, ev_10), (136, ev_10), (137, ev_1318), (140, ev_1375), (143, ev_13), (144, ev_7), (145, ev_13)]
noncomputable def zi_302_6 : ZIs := [(146, ev_10), (147, ev_1322), (150, ev_13), (151, ev_960), (154, ev_197), (155, ev_18), (156, ev_13), (157, ev_960), (160, ev_197), (161, ev_7), (162, ev_22), (163, ev_18), (164, ev_13), (165, ev_960), (168, ev_197), (169, ev_30)]
noncomputable def zi_302_7 : ZIs := [(170, ev_22), (171, ev_18), (172, ev_13), (173, ev_960), (176, ev_197), (177, ev_31), (178, ev_22), (179, ev_18), (180, ev_13), (181, ev_960), (184, ev_197), (185, ev_32), (186, ev_22), (187, ev_18), (188, ev_1318), (191, ev_1376)]
noncomputable def zi_302_8 : ZIs := [(194, ev_13), (195, ev_30), (196, ev_13), (197, ev_960), (200, ev_197), (201, ev_18), (202, ev_10), (203, ev_10), (204, ev_10), (205, ev_10), (206, ev_10), (207, ev_1318), (210, ev_1377), (213, ev_13), (214, ev_31), (215, ev_13)]
noncomputable def zi_302_9 : ZIs := [(216, ev_960), (219, ev_197), (220, ev_18), (221, ev_10), (222, ev_13), (223, ev_960), (226, ev_197), (227, ev_7), (228, ev_22), (229, ev_18), (230, ev_10), (231, ev_10), (232, ev_10), (233, ev_1318), (236, ev_688), (239, ev_1378)]
noncomputable def zi_302_10 : ZIs := [(242, ev_13), (243, ev_1373), (246, ev_98)]
set_option maxRecDepth 100000 in
theorem xi_w302 : zall cX12_load [zi_302_0, zi_302_1, zi_302_2, zi_302_3, zi_302_5, zi_302_6, zi_302_7, zi_302_8, zi_302_9, zi_302_10] := zall_w _ _ (by decide +kernel)
noncomputable def xi_302 (pc : Nat) : XIs := cond (Nat.blt pc 124) (cond (Nat.blt pc 64) (cond (Nat.blt pc 28) (zx zi_302_0) (zx zi_302_1)) (cond (Nat.blt pc 89) (zx zi_302_2) (cond (Nat.blt pc 90) (zx zi_302_3) (xi_302_4)))) (cond (Nat.blt pc 194) (cond (Nat.blt pc 146) (zx zi_302_5) (cond (Nat.blt pc 170) (zx zi_302_6) (zx zi_302_7))) (cond (Nat.blt pc 216) (zx zi_302_8) (cond (Nat.blt pc 242) (zx zi_302_9) (zx zi_302_10))))
theorem xi_ok302 (pc : Nat) : xi_ok cX12_load (xi_302 pc) = true := xi_c (xi_c (xi_c (zq1 xi_w302) (zq1 (zq2 xi_w302))) (xi_c (zq1 (zq2 (zq2 xi_w302))) (xi_c (zq1 (zq2 (zq2 (zq2 xi_w302)))) (xi_ok302_4)))) (xi_c (xi_c (zq1 (zq2 (zq2 (zq2 (zq2 xi_w302))))) (xi_c (zq1 (zq2 (zq2 (zq2 (zq2 (zq2 xi_w302)))))) (zq1 (zq2 (zq2 (zq2 (zq2 (zq2 (zq2 xi_w302))))))))) (xi_c (zq1 (zq2 (zq2 (zq2 (zq2 (zq2 (zq2 (zq2 xi_w302)))))))) (xi_c (zq1 (zq2 (zq2 (zq2 (zq2 (zq2 (zq2 (zq2 (zq2 xi_w302))))))))) (zq1 (zq2 (zq2 (zq2 (zq2 (zq2 (zq2 (zq2 (zq2 (zq2 xi_w302)))))))))))))
noncomputable def zi_303_0 : ZIs := [(0, ev_13), (1, ev_1299), (4, ev_30), (5, ev_13), (6, ev_1299), (9, ev_10), (10, ev_18), (11, ev_299), (12, ev_10), (13, ev_685), (14, ev_192), (15, ev_529), (18, ev_943), (21, ev_13), (22, ev_1290), (25, ev_1379)]
noncomputable def zi_303_1 : ZIs := [(28, ev_192), (29, ev_22), (30, ev_13), (31, ev_1290), (34, ev_192), (35, ev_1292), (36, ev_1301), (37, ev_688), (40, ev_562), (43, ev_260)]
set_option maxRecDepth 100000 in
theorem xi_w303 : zall cX12_copyGraph [zi_303_0, zi_303_1] := zall_w _ _ (by decide +kernel)
noncomputable def xi_303 (pc : Nat) : XIs := cond (Nat.blt pc 28) (zx zi_303_0) (zx zi_303_1)
theorem xi_ok303 (pc : Nat) : xi_ok cX12_copyGraph (xi_303 pc) = true := xi_c (zq1 xi_w303) (zq1 (zq2 xi_w303))
noncomputable def zi_304_0 : ZIs := [(0, ev_13), (1, ev_1360), (4, ev_685), (5, ev_13), (6, ev_1380), (9, ev_294), (10, ev_13), (11, ev_1358), (14, ev_7), (15, ev_971), (18, ev_197), (19, ev_944), (21, ev_985), (24, ev_197), (25, ev_422), (27, ev_1381)]
noncomputable def zi_304_1 : ZIs := [(30, ev_197), (31, ev_1382), (33, ev_698), (36, ev_197), (37, ev_1383), (39, ev_1384), (42, ev_13), (43, ev_30), (44, ev_13), (45, ev_1360), (48, ev_1361), (51, ev_260), (52, ev_10), (53, ev_295), (54, ev_7), (55, ev_11)]
noncomputable def zi_304_2 : ZIs := [(57, ev_12), (59, ev_1385), (62, ev_13), (63, ev_1342), (66, ev_1386), (69, ev_13), (70, ev_1368), (73, ev_13), (74, ev_197), (75, ev_198), (76, ev_1387), (79, ev_25), (81, ev_13), (82, ev_1342), (85, ev_1388), (88, ev_13)]
noncomputable def zi_304_3 : ZIs := [(89, ev_1358), (92, ev_96), (94, ev_755), (97, ev_96), (99, ev_31), (100, ev_1389), (103, ev_13), (104, ev_1380), (107, ev_379), (109, ev_1359), (112, ev_13), (113, ev_30), (114, ev_13), (115, ev_1360), (118, ev_1361), (121, ev_96)]
noncomputable def zi_304_4 : ZIs := [(123, ev_31), (124, ev_681), (127, ev_7), (128, ev_229), (131, ev_10), (132, ev_11), (134, ev_13), (135, ev_1342), (138, ev_1390), (141, ev_12), (143, ev_867), (146, ev_13), (147, ev_960), (150, ev_33), (151, ev_13), (152, ev_1373)]
noncomputable def zi_304_5 : ZIs := [(155, ev_355), (156, ev_198), (157, ev_22), (158, ev_96), (160, ev_7), (161, ev_927), (164, ev_13), (165, ev_1380), (168, ev_422), (170, ev_16), (171, ev_986), (174, ev_13), (175, ev_1355), (178, ev_991), (179, ev_299), (180, ev_300)]
noncomputable def zi_304_6 : ZIs := [(183, ev_1391), (186, ev_13), (187, ev_1342), (190, ev_1392), (193, ev_13), (194, ev_1014), (197, ev_13), (198, ev_1373), (201, ev_197), (202, ev_299), (203, ev_13), (204, ev_197), (205, ev_33), (206, ev_13), (207, ev_1373), (210, ev_355)]
noncomputable def zi_304_7 : ZIs := [(211, ev_1393), (214, ev_393), (217, ev_13), (218, ev_1293), (221, ev_13), (222, ev_1373), (225, ev_22), (226, ev_765), (229, ev_1394), (232, ev_13), (233, ev_32), (234, ev_192), (235, ev_1361), (238, ev_13), (239, ev_1), (240, ev_1373)]
noncomputable def zi_304_8 : ZIs := [(243, ev_7), (244, ev_22), (245, ev_1366), (248, ev_260)]
set_option maxRecDepth 100000 in
theorem xi_w304 : zall cX12_command [zi_304_0, zi_304_1, zi_304_2, zi_304_3, zi_304_4, zi_304_5, zi_304_6, zi_304_7, zi_304_8] := zall_w _ _ (by decide +kernel)
noncomputable def xi_304 (pc : Nat) : XIs := cond (Nat.blt pc 123) (cond (Nat.blt pc 57) (cond (Nat.blt pc 30) (zx zi_304_0) (zx zi_304_1)) (cond (Nat.blt pc 89) (zx zi_304_2) (zx zi_304_3))) (cond (Nat.blt pc 183) (cond (Nat.blt pc 155) (zx zi_304_4) (zx zi_304_5)) (cond (Nat.blt pc 211) (zx zi_304_6) (cond (Nat.blt pc 243) (zx zi_304_7) (zx zi_304_8))))
theorem xi_ok304 (pc : Nat) : xi_ok cX12_command (xi_304 pc) = true := xi_c (xi_c (xi_c (zq1 xi_w304) (zq1 (zq2 xi_w304))) (xi_c (zq1 (zq2 (zq2 xi_w304))) (zq1 (zq2 (zq2 (zq2 xi_w304)))))) (xi_c (xi_c (zq1 (zq2 (zq2 (zq2 (zq2 xi_w304))))) (zq1 (zq2 (zq2 (zq2 (zq2 (zq2 xi_w304))))))) (xi_c (zq1 (zq2 (zq2 (zq2 (zq2 (zq2 (zq2 xi_w304))))))) (xi_c (zq1 (zq2 (zq2 (zq2 (zq2 (zq2 (zq2 (zq2 xi_w304)))))))) (zq1 (zq2 (zq2 (zq2 (zq2 (zq2 (zq2 (zq2 (zq2 xi_w304))))))))))))
noncomputable def zi_305_0 : ZIs := [(0, ev_13), (1, ev_960), (4, ev_197), (5, ev_18), (6, ev_295), (7, ev_13), (8, ev_960), (11, ev_197), (12, ev_7), (13, ev_22), (14, ev_18), (15, ev_11), (17, ev_192)]
noncomputable def xi_305_1 : XIs := [(18, .lookupswitch 240 #[(97, 61), (110, 34), (116, 173)], 34)]
set_option maxRecDepth 100000 in
theorem xi_ok305_1 : xi_ok cX12_isDone xi_305_1 = true := by decide +kernel
noncomputable def zi_305_2 : ZIs := [(52, ev_13), (53, ev_1299), (56, ev_30), (57, ev_316), (58, ev_18), (59, ev_7), (60, ev_22), (61, ev_299), (62, ev_13), (63, ev_1299), (66, ev_30), (67, ev_18), (68, ev_176), (70, ev_886), (73, ev_7), (74, ev_229)]
noncomputable def zi_305_3 : ZIs := [(77, ev_10), (78, ev_98), (79, ev_13), (80, ev_30), (81, ev_1322), (84, ev_25), (86, ev_96), (88, ev_529), (91, ev_1395), (94, ev_198), (95, ev_102), (96, ev_230), (97, ev_13), (98, ev_1299), (101, ev_30), (102, ev_18)]
noncomputable def zi_305_4 : ZIs := [(103, ev_7), (104, ev_16), (105, ev_102), (106, ev_1316), (109, ev_353), (112, ev_12), (114, ev_102), (115, ev_230), (116, ev_13), (117, ev_1299), (120, ev_30), (121, ev_18), (122, ev_7), (123, ev_16), (124, ev_102), (125, ev_1316)]
noncomputable def zi_305_5 : ZIs := [(128, ev_867), (131, ev_13), (132, ev_960), (135, ev_197), (136, ev_30), (137, ev_22), (138, ev_18), (139, ev_1320), (142, ev_1169), (145, ev_13), (146, ev_960), (149, ev_197), (150, ev_31), (151, ev_22), (152, ev_18), (153, ev_102)]
noncomputable def zi_305_6 : ZIs := [(154, ev_230), (155, ev_1315), (158, ev_1316), (161, ev_227), (164, ev_7), (165, ev_229), (168, ev_10), (169, ev_28), (171, ev_101), (173, ev_771), (176, ev_13), (177, ev_1290), (180, ev_1379), (183, ev_96), (185, ev_22), (186, ev_7)]
noncomputable def zi_305_7 : ZIs := [(187, ev_1301), (188, ev_101), (190, ev_98), (191, ev_198), (192, ev_102), (193, ev_230), (194, ev_1331), (197, ev_1316), (200, ev_1396), (203, ev_13), (204, ev_1290), (207, ev_1379), (210, ev_198), (211, ev_102), (212, ev_230), (213, ev_1331)]
noncomputable def zi_305_8 : ZIs := [(216, ev_1316), (219, ev_227), (222, ev_198), (223, ev_229), (226, ev_10), (227, ev_22), (228, ev_1292), (229, ev_227), (232, ev_7), (233, ev_229), (236, ev_10), (237, ev_275), (239, ev_276), (241, ev_1004), (244, ev_13), (245, ev_1290)]
noncomputable def zi_305_9 : ZIs := [(248, ev_1379), (251, ev_198), (252, ev_22), (253, ev_10), (254, ev_1301), (255, ev_276), (257, ev_98), (258, ev_198), (259, ev_102), (260, ev_230), (261, ev_1331), (264, ev_1316), (267, ev_939), (270, ev_13), (271, ev_1290), (274, ev_1379)]
noncomputable def zi_305_10 : ZIs := [(277, ev_198), (278, ev_102), (279, ev_230), (280, ev_1331), (283, ev_1316), (286, ev_227), (289, ev_198), (290, ev_229), (293, ev_10), (294, ev_22), (295, ev_1292), (296, ev_771), (299, ev_12), (301, ev_1320), (304, ev_227), (307, ev_7)]
noncomputable def zi_305_11 : ZIs := [(308, ev_229), (311, ev_10), (312, ev_98)]
set_option maxRecDepth 100000 in
theorem xi_w305 : zall cX12_isDone [zi_305_0, zi_305_2, zi_305_3, zi_305_4, zi_305_5, zi_305_6, zi_305_7, zi_305_8, zi_305_9, zi_305_10, zi_305_11] := zall_w _ _ (by decide +kernel)
noncomputable def xi_305 (pc : Nat) : XIs := cond (Nat.blt pc 154) (cond (Nat.blt pc 77) (cond (Nat.blt pc 18) (zx zi_305_0) (cond (Nat.blt pc 52) (xi_305_1) (zx zi_305_2))) (cond (Nat.blt pc 103) (zx zi_305_3) (cond (Nat.blt pc 128) (zx zi_305_4) (zx zi_305_5)))) (cond (Nat.blt pc 248) (cond (Nat.blt pc 187) (zx zi_305_6) (cond (Nat.blt pc 216) (zx zi_305_7) (zx zi_305_8))) (cond (Nat.blt pc 277) (zx zi_305_9) (cond (Nat.blt pc 308) (zx zi_305_10) (zx zi_305_11))))
theorem xi_ok305 (pc : Nat) : xi_ok cX12_isDone (xi_305 pc) = true := xi_c (xi_c (xi_c (zq1 xi_w305) (xi_c (xi_ok305_1) (zq1 (zq2 xi_w305)))) (xi_c (zq1 (zq2 (zq2 xi_w305))) (xi_c (zq1 (zq2 (zq2 (zq2 xi_w305)))) (zq1 (zq2 (zq2 (zq2 (zq2 xi_w305)))))))) (xi_c (xi_c (zq1 (zq2 (zq2 (zq2 (zq2 (zq2 xi_w305)))))) (xi_c (zq1 (zq2 (zq2 (zq2 (zq2 (zq2 (zq2 xi_w305))))))) (zq1 (zq2 (zq2 (zq2 (zq2 (zq2 (zq2 (zq2 xi_w305)))))))))) (xi_c (zq1 (zq2 (zq2 (zq2 (zq2 (zq2 (zq2 (zq2 (zq2 xi_w305))))))))) (xi_c (zq1 (zq2 (zq2 (zq2 (zq2 (zq2 (zq2 (zq2 (zq2 (zq2 xi_w305)))))))))) (zq1 (zq2 (zq2 (zq2 (zq2 (zq2 (zq2 (zq2 (zq2 (zq2 (zq2 xi_w305))))))))))))))
noncomputable def zi_306_0 : ZIs := [(0, ev_13), (1, ev_845), (4, ev_13), (5, ev_1397), (8, ev_192), (9, ev_299), (10, ev_13), (11, ev_1), (12, ev_1397), (15, ev_7), (16, ev_22), (17, ev_1398), (20, ev_260)]
set_option maxRecDepth 100000 in
theorem xi_w306 : zall cX12_put [zi_306_0] := zall_w _ _ (by decide +kernel)
noncomputable def xi_306 (pc : Nat) : XIs := zx zi_306_0
theorem xi_ok306 (pc : Nat) : xi_ok cX12_put (xi_306 pc) = true := zq1 xi_w306
noncomputable def zi_307_0 : ZIs := [(0, ev_13), (1, ev_176), (3, ev_1399), (6, ev_192), (7, ev_950), (10, ev_13), (11, ev_400), (13, ev_1399), (16, ev_192), (17, ev_1400), (20, ev_192), (21, ev_310), (22, ev_229), (25, ev_192), (26, ev_294), (27, ev_7)]
noncomputable def zi_307_1 : ZIs := [(28, ev_295), (29, ev_197), (30, ev_198), (31, ev_582), (32, ev_413), (34, ev_1401), (37, ev_198), (38, ev_413), (40, ev_355), (41, ev_295), (42, ev_801), (45, ev_198), (46, ev_1402), (49, ev_13), (50, ev_935), (52, ev_197)]
noncomputable def zi_307_2 : ZIs := [(53, ev_198), (54, ev_582), (55, ev_413), (57, ev_508), (58, ev_22), (59, ev_1399), (62, ev_198), (63, ev_413), (65, ev_582), (66, ev_295), (67, ev_624), (70, ev_260)]
set_option maxRecDepth 100000 in
theorem xi_w307 : zall cX12_putNumber [zi_307_0, zi_307_1, zi_307_2] := zall_w _ _ (by decide +kernel)
noncomputable def xi_307 (pc : Nat) : XIs := cond (Nat.blt pc 28) (zx zi_307_0) (cond (Nat.blt pc 53) (zx zi_307_1) (zx zi_307_2))
theorem xi_ok307 (pc : Nat) : xi_ok cX12_putNumber (xi_307 pc) = true := xi_c (zq1 xi_w307) (xi_c (zq1 (zq2 xi_w307)) (zq1 (zq2 (zq2 xi_w307))))
noncomputable def zi_308_0 : ZIs := [(0, ev_13), (1, ev_10), (2, ev_1286), (5, ev_13), (6, ev_10), (7, ev_1398), (10, ev_10), (11, ev_685), (12, ev_192), (13, ev_13), (14, ev_1288), (17, ev_1403), (20, ev_13), (21, ev_944), (23, ev_1399), (26, ev_13)]
noncomputable def zi_308_1 : ZIs := [(27, ev_176), (29, ev_1399), (32, ev_13), (33, ev_422), (35, ev_13), (36, ev_1298), (39, ev_176), (41, ev_13), (42, ev_1161), (45, ev_355), (46, ev_192), (47, ev_22), (48, ev_18), (49, ev_22), (50, ev_1399), (53, ev_13)]
noncomputable def zi_308_2 : ZIs := [(54, ev_379), (56, ev_1399), (59, ev_688), (62, ev_1404), (65, ev_13), (66, ev_1291), (69, ev_685), (70, ev_192), (71, ev_13), (72, ev_1291), (75, ev_529), (78, ev_22), (79, ev_1405), (82, ev_13), (83, ev_1290), (86, ev_192)]
noncomputable def zi_308_3 : ZIs := [(87, ev_1292), (88, ev_1406), (91, ev_13), (92, ev_422), (94, ev_1399), (97, ev_13), (98, ev_13), (99, ev_1302), (102, ev_192), (103, ev_18), (104, ev_1407), (107, ev_13), (108, ev_13), (109, ev_1038), (112, ev_192), (113, ev_18)]
noncomputable def zi_308_4 : ZIs := [(114, ev_1407), (117, ev_13), (118, ev_13), (119, ev_1039), (122, ev_192), (123, ev_18), (124, ev_1407), (127, ev_13), (128, ev_13), (129, ev_465), (132, ev_192), (133, ev_18), (134, ev_1407), (137, ev_13), (138, ev_176), (140, ev_1399)]
noncomputable def zi_308_5 : ZIs := [(143, ev_13), (144, ev_422), (146, ev_13), (147, ev_434), (150, ev_192), (151, ev_18), (152, ev_22), (153, ev_1399), (156, ev_13), (157, ev_379), (159, ev_1399), (162, ev_688), (165, ev_956), (168, ev_13), (169, ev_1397), (172, ev_98)]
set_option maxRecDepth 100000 in
theorem xi_w308 : zall cX12_print [zi_308_0, zi_308_1, zi_308_2, zi_308_3, zi_308_4, zi_308_5] := zall_w _ _ (by decide +kernel)
noncomputable def xi_308 (pc : Nat) : XIs := cond (Nat.blt pc 87) (cond (Nat.blt pc 27) (zx zi_308_0) (cond (Nat.blt pc 54) (zx zi_308_1) (zx zi_308_2))) (cond (Nat.blt pc 114) (zx zi_308_3) (cond (Nat.blt pc 143) (zx zi_308_4) (zx zi_308_5)))
theorem xi_ok308 (pc : Nat) : xi_ok cX12_print (xi_308 pc) = true := xi_c (xi_c (zq1 xi_w308) (xi_c (zq1 (zq2 xi_w308)) (zq1 (zq2 (zq2 xi_w308))))) (xi_c (zq1 (zq2 (zq2 (zq2 xi_w308)))) (xi_c (zq1 (zq2 (zq2 (zq2 (zq2 xi_w308))))) (zq1 (zq2 (zq2 (zq2 (zq2 (zq2 xi_w308))))))))
noncomputable def zi_309_0 : ZIs := [(0, ev_13), (1, ev_192), (2, ev_678), (5, ev_192), (6, ev_13), (7, ev_1397), (10, ev_656), (13, ev_7), (14, ev_229), (17, ev_10), (18, ev_1175), (21, ev_227), (24, ev_10), (25, ev_195), (28, ev_13), (29, ev_845)]
noncomputable def zi_309_1 : ZIs := [(32, ev_192), (33, ev_18), (34, ev_98)]
set_option maxRecDepth 100000 in
theorem xi_w309 : zall cX12_printed [zi_309_0, zi_309_1] := zall_w _ _ (by decide +kernel)
noncomputable def xi_309 (pc : Nat) : XIs := cond (Nat.blt pc 32) (zx zi_309_0) (zx zi_309_1)
theorem xi_ok309 (pc : Nat) : xi_ok cX12_printed (xi_309 pc) = true := xi_c (zq1 xi_w309) (zq1 (zq2 xi_w309))
noncomputable def zi_310_0 : ZIs := [(0, ev_10), (1, ev_11), (3, ev_12), (5, ev_13), (6, ev_1288), (9, ev_929), (12, ev_13), (13, ev_958), (16, ev_12), (18, ev_12), (20, ev_198), (21, ev_818), (24, ev_10), (25, ev_212), (28, ev_7), (29, ev_12)]
noncomputable def zi_310_1 : ZIs := [(31, ev_277), (32, ev_299), (33, ev_348), (36, ev_861), (39, ev_10), (40, ev_11), (42, ev_12), (44, ev_529), (47, ev_325), (50, ev_13), (51, ev_1302), (54, ev_13), (55, ev_1291), (58, ev_12), (60, ev_22), (61, ev_18)]
noncomputable def zi_310_2 : ZIs := [(62, ev_25), (64, ev_13), (65, ev_1038), (68, ev_13), (69, ev_1291), (72, ev_12), (74, ev_22), (75, ev_18), (76, ev_28), (78, ev_13), (79, ev_1290), (82, ev_13), (83, ev_1291), (86, ev_12), (88, ev_22), (89, ev_1292)]
noncomputable def zi_310_3 : ZIs := [(90, ev_1408), (93, ev_12), (95, ev_197), (96, ev_1409), (99, ev_96), (101, ev_198), (102, ev_1410), (105, ev_101), (107, ev_198), (108, ev_1411), (111, ev_13), (112, ev_958), (115, ev_96), (117, ev_316), (118, ev_18), (119, ev_7)]
noncomputable def zi_310_4 : ZIs := [(120, ev_101), (122, ev_277), (123, ev_278), (124, ev_299), (125, ev_13), (126, ev_958), (129, ev_101), (131, ev_316), (132, ev_18), (133, ev_192), (134, ev_385), (137, ev_7), (138, ev_96), (140, ev_277), (141, ev_229), (144, ev_10)]
noncomputable def zi_310_5 : ZIs := [(145, ev_278), (146, ev_299), (147, ev_348), (150, ev_1412), (153, ev_10), (154, ev_11), (156, ev_12), (158, ev_13), (159, ev_1288), (162, ev_611), (165, ev_10), (166, ev_25), (168, ev_96), (170, ev_13), (171, ev_1288), (174, ev_721)]
noncomputable def zi_310_6 : ZIs := [(177, ev_13), (178, ev_958), (181, ev_96), (183, ev_316), (184, ev_18), (185, ev_13), (186, ev_958), (189, ev_96), (191, ev_18), (192, ev_12), (194, ev_303), (195, ev_7), (196, ev_20), (197, ev_7), (198, ev_927), (201, ev_13)]
noncomputable def zi_310_7 : ZIs := [(202, ev_958), (205, ev_12), (207, ev_18), (208, ev_229), (211, ev_10), (212, ev_278), (213, ev_299), (214, ev_343), (217, ev_653), (220, ev_348), (223, ev_1413), (226, ev_260)]
set_option maxRecDepth 100000 in
theorem xi_w310 : zall cX12_close [zi_310_0, zi_310_1, zi_310_2, zi_310_3, zi_310_4, zi_310_5, zi_310_6, zi_310_7] := zall_w _ _ (by decide +kernel)
noncomputable def xi_310 (pc : Nat) : XIs := cond (Nat.blt pc 120) (cond (Nat.blt pc 62) (cond (Nat.blt pc 31) (zx zi_310_0) (zx zi_310_1)) (cond (Nat.blt pc 90) (zx zi_310_2) (zx zi_310_3))) (cond (Nat.blt pc 177) (cond (Nat.blt pc 145) (zx zi_310_4) (zx zi_310_5)) (cond (Nat.blt pc 202) (zx zi_310_6) (zx zi_310_7)))
theorem xi_ok310 (pc : Nat) : xi_ok cX12_close (xi_310 pc) = true := xi_c (xi_c (xi_c (zq1 xi_w310) (zq1 (zq2 xi_w310))) (xi_c (zq1 (zq2 (zq2 xi_w310))) (zq1 (zq2 (zq2 (zq2 xi_w310)))))) (xi_c (xi_c (zq1 (zq2 (zq2 (zq2 (zq2 xi_w310))))) (zq1 (zq2 (zq2 (zq2 (zq2 (zq2 xi_w310))))))) (xi_c (zq1 (zq2 (zq2 (zq2 (zq2 (zq2 (zq2 xi_w310))))))) (zq1 (zq2 (zq2 (zq2 (zq2 (zq2 (zq2 (zq2 xi_w310))))))))))
noncomputable def zi_311_0 : ZIs := [(0, ev_482), (1, ev_192), (2, ev_303), (3, ev_7), (4, ev_20), (5, ev_7), (6, ev_818), (9, ev_7), (10, ev_229), (13, ev_10), (14, ev_98)]
set_option maxRecDepth 100000 in
theorem xi_w311 : zall cX12_has [zi_311_0] := zall_w _ _ (by decide +kernel)
noncomputable def xi_311 (pc : Nat) : XIs := zx zi_311_0
theorem xi_ok311 (pc : Nat) : xi_ok cX12_has (xi_311 pc) = true := zq1 xi_w311
noncomputable def zi_312_0 : ZIs := [(0, ev_10), (1, ev_295), (2, ev_198), (3, ev_13), (4, ev_1288), (7, ev_943), (10, ev_13), (11, ev_716), (14, ev_198), (15, ev_1333), (18, ev_194), (19, ev_13), (20, ev_307), (23, ev_198), (24, ev_10), (25, ev_299)]
noncomputable def zi_312_1 : ZIs := [(26, ev_300), (29, ev_360), (32, ev_13), (33, ev_716), (36, ev_192), (37, ev_230), (38, ev_194), (39, ev_7), (40, ev_295), (41, ev_10), (42, ev_11), (44, ev_12), (46, ev_13), (47, ev_1288), (50, ev_1414), (53, ev_198)]
noncomputable def zi_312_2 : ZIs := [(54, ev_1415), (57, ev_10), (58, ev_295), (59, ev_13), (60, ev_1291), (63, ev_25), (65, ev_96), (67, ev_13), (68, ev_1291), (71, ev_529), (74, ev_22), (75, ev_1416), (78, ev_13), (79, ev_1290), (82, ev_96), (84, ev_1292)]
noncomputable def zi_312_3 : ZIs := [(85, ev_1417), (88, ev_197), (89, ev_13), (90, ev_1302), (93, ev_96), (95, ev_18), (96, ev_1418), (99, ev_1419), (102, ev_197), (103, ev_13), (104, ev_1038), (107, ev_96), (109, ev_18), (110, ev_1418), (113, ev_1420), (116, ev_13)]
noncomputable def zi_312_4 : ZIs := [(117, ev_716), (120, ev_13), (121, ev_1038), (124, ev_96), (126, ev_18), (127, ev_100), (128, ev_1333), (131, ev_103), (132, ev_1421), (135, ev_13), (136, ev_716), (139, ev_13), (140, ev_1038), (143, ev_96), (145, ev_18), (146, ev_100)]
noncomputable def zi_312_5 : ZIs := [(147, ev_13), (148, ev_1039), (151, ev_96), (153, ev_18), (154, ev_102), (155, ev_457), (156, ev_58), (158, ev_13), (159, ev_307), (162, ev_13), (163, ev_1038), (166, ev_96), (168, ev_18), (169, ev_18), (170, ev_7), (171, ev_22)]
noncomputable def zi_312_6 : ZIs := [(172, ev_313), (174, ev_460), (176, ev_13), (177, ev_716), (180, ev_13), (181, ev_1302), (184, ev_96), (186, ev_18), (187, ev_100), (188, ev_103), (189, ev_1422), (192, ev_13), (193, ev_716), (196, ev_13), (197, ev_1302), (200, ev_96)]
noncomputable def zi_312_7 : ZIs := [(202, ev_18), (203, ev_460), (205, ev_194), (206, ev_13), (207, ev_307), (210, ev_13), (211, ev_1302), (214, ev_96), (216, ev_18), (217, ev_314), (219, ev_299), (220, ev_7), (221, ev_295), (222, ev_343), (225, ev_1423), (228, ev_348)]
noncomputable def zi_312_8 : ZIs := [(231, ev_1424), (234, ev_198), (235, ev_104), (238, ev_10), (239, ev_98), (240, ev_13), (241, ev_192), (242, ev_197), (243, ev_1425), (246, ev_7), (247, ev_98)]
set_option maxRecDepth 100000 in
theorem xi_w312 : zall cX12_toGoal [zi_312_0, zi_312_1, zi_312_2, zi_312_3, zi_312_4, zi_312_5, zi_312_6, zi_312_7, zi_312_8] := zall_w _ _ (by decide +kernel)
noncomputable def xi_312 (pc : Nat) : XIs := cond (Nat.blt pc 117) (cond (Nat.blt pc 54) (cond (Nat.blt pc 26) (zx zi_312_0) (zx zi_312_1)) (cond (Nat.blt pc 85) (zx zi_312_2) (zx zi_312_3))) (cond (Nat.blt pc 172) (cond (Nat.blt pc 147) (zx zi_312_4) (zx zi_312_5)) (cond (Nat.blt pc 202) (zx zi_312_6) (cond (Nat.blt pc 231) (zx zi_312_7) (zx zi_312_8))))
theorem xi_ok312 (pc : Nat) : xi_ok cX12_toGoal (xi_312 pc) = true := xi_c (xi_c (xi_c (zq1 xi_w312) (zq1 (zq2 xi_w312))) (xi_c (zq1 (zq2 (zq2 xi_w312))) (zq1 (zq2 (zq2 (zq2 xi_w312)))))) (xi_c (xi_c (zq1 (zq2 (zq2 (zq2 (zq2 xi_w312))))) (zq1 (zq2 (zq2 (zq2 (zq2 (zq2 xi_w312))))))) (xi_c (zq1 (zq2 (zq2 (zq2 (zq2 (zq2 (zq2 xi_w312))))))) (xi_c (zq1 (zq2 (zq2 (zq2 (zq2 (zq2 (zq2 (zq2 xi_w312)))))))) (zq1 (zq2 (zq2 (zq2 (zq2 (zq2 (zq2 (zq2 (zq2 xi_w312))))))))))))
noncomputable def zi_313_0 : ZIs := [(0, ev_10), (1, ev_295), (2, ev_198), (3, ev_13), (4, ev_1288), (7, ev_990), (10, ev_13), (11, ev_307), (14, ev_198), (15, ev_198), (16, ev_192), (17, ev_818), (20, ev_10), (21, ev_209), (24, ev_803), (27, ev_299)]
noncomputable def zi_313_1 : ZIs := [(28, ev_300), (31, ev_853), (34, ev_10), (35, ev_295), (36, ev_198), (37, ev_13), (38, ev_1288), (41, ev_1426), (44, ev_13), (45, ev_1291), (48, ev_11), (50, ev_12), (52, ev_13), (53, ev_1291), (56, ev_529), (59, ev_22)]
noncomputable def zi_313_2 : ZIs := [(60, ev_1374), (63, ev_13), (64, ev_1290), (67, ev_12), (69, ev_1292), (70, ev_1427), (73, ev_197), (74, ev_13), (75, ev_1302), (78, ev_12), (80, ev_18), (81, ev_1418), (84, ev_1428), (87, ev_197), (88, ev_13), (89, ev_1038)]
noncomputable def zi_313_3 : ZIs := [(92, ev_12), (94, ev_18), (95, ev_1418), (98, ev_1429), (101, ev_13), (102, ev_716), (105, ev_13), (106, ev_1038), (109, ev_12), (111, ev_18), (112, ev_100), (113, ev_1333), (116, ev_103), (117, ev_1430), (120, ev_13), (121, ev_716)]
noncomputable def zi_313_4 : ZIs := [(124, ev_13), (125, ev_1302), (128, ev_12), (130, ev_18), (131, ev_100), (132, ev_13), (133, ev_716), (136, ev_13), (137, ev_1038), (140, ev_12), (142, ev_18), (143, ev_100), (144, ev_13), (145, ev_1039), (148, ev_12), (150, ev_18)]
noncomputable def zi_313_5 : ZIs := [(151, ev_102), (152, ev_457), (153, ev_103), (154, ev_328), (157, ev_13), (158, ev_307), (161, ev_13), (162, ev_1038), (165, ev_12), (167, ev_18), (168, ev_18), (169, ev_7), (170, ev_22), (171, ev_25), (173, ev_13), (174, ev_307)]
noncomputable def zi_313_6 : ZIs := [(177, ev_13), (178, ev_1302), (181, ev_12), (183, ev_18), (184, ev_96), (186, ev_13), (187, ev_307), (190, ev_13), (191, ev_1302), (194, ev_12), (196, ev_18), (197, ev_18), (198, ev_860), (201, ev_96), (203, ev_439), (206, ev_13)]
noncomputable def zi_313_7 : ZIs := [(207, ev_307), (210, ev_13), (211, ev_1302), (214, ev_12), (216, ev_18), (217, ev_18), (218, ev_299), (219, ev_348), (222, ev_1431), (225, ev_300), (228, ev_1432), (231, ev_260)]
set_option maxRecDepth 100000 in
theorem xi_w313 : zall cX12_fewest [zi_313_0, zi_313_1, zi_313_2, zi_313_3, zi_313_4, zi_313_5, zi_313_6, zi_313_7] := zall_w _ _ (by decide +kernel)
noncomputable def xi_313 (pc : Nat) : XIs := cond (Nat.blt pc 124) (cond (Nat.blt pc 60) (cond (Nat.blt pc 28) (zx zi_313_0) (zx zi_313_1)) (cond (Nat.blt pc 92) (zx zi_313_2) (zx zi_313_3))) (cond (Nat.blt pc 177) (cond (Nat.blt pc 151) (zx zi_313_4) (zx zi_313_5)) (cond (Nat.blt pc 207) (zx zi_313_6) (zx zi_313_7)))
theorem xi_ok313 (pc : Nat) : xi_ok cX12_fewest (xi_313 pc) = true := xi_c (xi_c (xi_c (zq1 xi_w313) (zq1 (zq2 xi_w313))) (xi_c (zq1 (zq2 (zq2 xi_w313))) (zq1 (zq2 (zq2 (zq2 xi_w313)))))) (xi_c (xi_c (zq1 (zq2 (zq2 (zq2 (zq2 xi_w313))))) (zq1 (zq2 (zq2 (zq2 (zq2 (zq2 xi_w313))))))) (xi_c (zq1 (zq2 (zq2 (zq2 (zq2 (zq2 (zq2 xi_w313))))))) (zq1 (zq2 (zq2 (zq2 (zq2 (zq2 (zq2 (zq2 xi_w313))))))))))
noncomputable def zi_314_0 : ZIs := [(0, ev_13), (1, ev_10), (2, ev_252), (3, ev_252), (4, ev_1433), (7, ev_10), (8, ev_295), (9, ev_10), (10, ev_11), (12, ev_12), (14, ev_13), (15, ev_1288), (18, ev_1403), (21, ev_198), (22, ev_13), (23, ev_958)]
noncomputable def zi_314_1 : ZIs := [(26, ev_192), (27, ev_18), (28, ev_12), (30, ev_1418), (33, ev_1434), (36, ev_13), (37, ev_958), (40, ev_12), (42, ev_18), (43, ev_197), (44, ev_1418), (47, ev_385), (50, ev_7), (51, ev_12), (53, ev_277), (54, ev_229)]
noncomputable def zi_314_2 : ZIs := [(57, ev_10), (58, ev_278), (59, ev_295), (60, ev_348), (63, ev_908), (66, ev_198), (67, ev_98)]
set_option maxRecDepth 100000 in
theorem xi_w314 : zall cX12_between [zi_314_0, zi_314_1, zi_314_2] := zall_w _ _ (by decide +kernel)
noncomputable def xi_314 (pc : Nat) : XIs := cond (Nat.blt pc 26) (zx zi_314_0) (cond (Nat.blt pc 57) (zx zi_314_1) (zx zi_314_2))
theorem xi_ok314 (pc : Nat) : xi_ok cX12_between (xi_314 pc) = true := xi_c (zq1 xi_w314) (xi_c (zq1 (zq2 xi_w314)) (zq1 (zq2 (zq2 xi_w314))))
noncomputable def zi_315_0 : ZIs := [(0, ev_13), (1, ev_13), (2, ev_192), (3, ev_1335), (6, ev_771), (9, ev_13), (10, ev_197), (11, ev_1335), (14, ev_227), (17, ev_7), (18, ev_229), (21, ev_10), (22, ev_1175), (25, ev_104), (28, ev_230), (29, ev_481)]
noncomputable def zi_315_1 : ZIs := [(30, ev_13), (31, ev_192), (32, ev_197), (33, ev_1435), (36, ev_295), (37, ev_198), (38, ev_992), (41, ev_1333), (44, ev_1436), (47, ev_13), (48, ev_197), (49, ev_198), (50, ev_1437), (53, ev_649), (56, ev_13), (57, ev_716)]
noncomputable def zi_315_2 : ZIs := [(60, ev_192), (61, ev_100), (62, ev_209), (65, ev_1438), (68, ev_481)]
set_option maxRecDepth 100000 in
theorem xi_w315 : zall cX12_distance [zi_315_0, zi_315_1, zi_315_2] := zall_w _ _ (by decide +kernel)
noncomputable def xi_315 (pc : Nat) : XIs := cond (Nat.blt pc 30) (zx zi_315_0) (cond (Nat.blt pc 60) (zx zi_315_1) (zx zi_315_2))
theorem xi_ok315 (pc : Nat) : xi_ok cX12_distance (xi_315 pc) = true := xi_c (zq1 xi_w315) (xi_c (zq1 (zq2 xi_w315)) (zq1 (zq2 (zq2 xi_w315))))
noncomputable def zi_316_0 : ZIs := [(0, ev_13), (1, ev_13), (2, ev_192), (3, ev_1335), (6, ev_488), (9, ev_13), (10, ev_197), (11, ev_1335), (14, ev_931), (17, ev_198), (18, ev_831), (21, ev_7), (22, ev_229), (25, ev_10), (26, ev_1175), (29, ev_104)]
noncomputable def zi_316_1 : ZIs := [(32, ev_10), (33, ev_98), (34, ev_13), (35, ev_192), (36, ev_197), (37, ev_1435), (40, ev_11), (42, ev_12), (44, ev_769), (47, ev_13), (48, ev_197), (49, ev_12), (51, ev_1437), (54, ev_634), (57, ev_198), (58, ev_13)]
noncomputable def zi_316_2 : ZIs := [(59, ev_307), (62, ev_192), (63, ev_18), (64, ev_993), (67, ev_252), (68, ev_98), (69, ev_192), (70, ev_25), (72, ev_252), (73, ev_28), (75, ev_10), (76, ev_275), (78, ev_276), (80, ev_198), (81, ev_1414), (84, ev_252)]
noncomputable def zi_316_3 : ZIs := [(85, ev_28), (87, ev_1439), (90, ev_313), (92, ev_314), (94, ev_1440), (97, ev_13), (98, ev_1291), (101, ev_314), (103, ev_22), (104, ev_327), (106, ev_13), (107, ev_1290), (110, ev_329), (112, ev_1292), (113, ev_1353), (116, ev_13)]
noncomputable def zi_316_4 : ZIs := [(117, ev_1302), (120, ev_329), (122, ev_18), (123, ev_96), (125, ev_1441), (128, ev_12), (130, ev_13), (131, ev_1038), (134, ev_329), (136, ev_18), (137, ev_1418), (140, ev_1169), (143, ev_13), (144, ev_716), (147, ev_13), (148, ev_1038)]
noncomputable def zi_316_5 : ZIs := [(151, ev_329), (153, ev_18), (154, ev_100), (155, ev_1333), (158, ev_103), (159, ev_486), (162, ev_7), (163, ev_229), (166, ev_10), (167, ev_447), (169, ev_448), (171, ev_552), (174, ev_13), (175, ev_716), (178, ev_96), (180, ev_100)]
noncomputable def zi_316_6 : ZIs := [(181, ev_13), (182, ev_716), (185, ev_13), (186, ev_1038), (189, ev_329), (191, ev_18), (192, ev_100), (193, ev_13), (194, ev_1039), (197, ev_329), (199, ev_18), (200, ev_102), (201, ev_457), (202, ev_103), (203, ev_1442), (206, ev_13)]
noncomputable def zi_316_7 : ZIs := [(207, ev_307), (210, ev_96), (212, ev_18), (213, ev_13), (214, ev_307), (217, ev_13), (218, ev_1038), (221, ev_329), (223, ev_18), (224, ev_18), (225, ev_7), (226, ev_22), (227, ev_540), (230, ev_314), (232, ev_638), (235, ev_101)]
noncomputable def zi_316_8 : ZIs := [(237, ev_28), (239, ev_1443), (242, ev_1043), (245, ev_13), (246, ev_1038), (249, ev_13), (250, ev_1291), (253, ev_101), (255, ev_22), (256, ev_18), (257, ev_25), (259, ev_955), (262, ev_1444), (265, ev_101), (267, ev_98)]
set_option maxRecDepth 100000 in
theorem xi_w316 : zall cX12_way [zi_316_0, zi_316_1, zi_316_2, zi_316_3, zi_316_4, zi_316_5, zi_316_6, zi_316_7, zi_316_8] := zall_w _ _ (by decide +kernel)
noncomputable def xi_316 (pc : Nat) : XIs := cond (Nat.blt pc 117) (cond (Nat.blt pc 59) (cond (Nat.blt pc 32) (zx zi_316_0) (zx zi_316_1)) (cond (Nat.blt pc 85) (zx zi_316_2) (zx zi_316_3))) (cond (Nat.blt pc 181) (cond (Nat.blt pc 151) (zx zi_316_4) (zx zi_316_5)) (cond (Nat.blt pc 207) (zx zi_316_6) (cond (Nat.blt pc 237) (zx zi_316_7) (zx zi_316_8))))
theorem xi_ok316 (pc : Nat) : xi_ok cX12_way (xi_316 pc) = true := xi_c (xi_c (xi_c (zq1 xi_w316) (zq1 (zq2 xi_w316))) (xi_c (zq1 (zq2 (zq2 xi_w316))) (zq1 (zq2 (zq2 (zq2 xi_w316)))))) (xi_c (xi_c (zq1 (zq2 (zq2 (zq2 (zq2 xi_w316))))) (zq1 (zq2 (zq2 (zq2 (zq2 (zq2 xi_w316))))))) (xi_c (zq1 (zq2 (zq2 (zq2 (zq2 (zq2 (zq2 xi_w316))))))) (xi_c (zq1 (zq2 (zq2 (zq2 (zq2 (zq2 (zq2 (zq2 xi_w316)))))))) (zq1 (zq2 (zq2 (zq2 (zq2 (zq2 (zq2 (zq2 (zq2 xi_w316))))))))))))
noncomputable def zi_317_0 : ZIs := [(0, ev_13), (1, ev_13), (2, ev_192), (3, ev_1335), (6, ev_771), (9, ev_13), (10, ev_197), (11, ev_1335), (14, ev_227), (17, ev_7), (18, ev_229), (21, ev_10), (22, ev_1175), (25, ev_104), (28, ev_10), (29, ev_98)]
noncomputable def zi_317_1 : ZIs := [(30, ev_10), (31, ev_295), (32, ev_198), (33, ev_13), (34, ev_1288), (37, ev_990), (40, ev_13), (41, ev_962), (44, ev_198), (45, ev_198), (46, ev_192), (47, ev_410), (50, ev_1445), (53, ev_229), (56, ev_252), (57, ev_299)]
noncomputable def zi_317_2 : ZIs := [(58, ev_300), (61, ev_853), (64, ev_10), (65, ev_295), (66, ev_198), (67, ev_13), (68, ev_1288), (71, ev_1446), (74, ev_13), (75, ev_1291), (78, ev_11), (80, ev_12), (82, ev_13), (83, ev_1291), (86, ev_529), (89, ev_22)]
noncomputable def zi_317_3 : ZIs := [(90, ev_1447), (93, ev_13), (94, ev_1290), (97, ev_12), (99, ev_1292), (100, ev_557), (103, ev_13), (104, ev_962), (107, ev_13), (108, ev_1302), (111, ev_12), (113, ev_18), (114, ev_18), (115, ev_1448), (118, ev_13), (119, ev_465)]
noncomputable def zi_317_4 : ZIs := [(122, ev_12), (124, ev_18), (125, ev_13), (126, ev_962), (129, ev_13), (130, ev_1302), (133, ev_12), (135, ev_18), (136, ev_18), (137, ev_1449), (140, ev_13), (141, ev_465), (144, ev_12), (146, ev_18), (147, ev_439), (150, ev_13)]
noncomputable def zi_317_5 : ZIs := [(151, ev_962), (154, ev_13), (155, ev_1302), (158, ev_12), (160, ev_18), (161, ev_18), (162, ev_25), (164, ev_13), (165, ev_962), (168, ev_13), (169, ev_1038), (172, ev_12), (174, ev_18), (175, ev_96), (177, ev_13), (178, ev_962)]
noncomputable def zi_317_6 : ZIs := [(181, ev_13), (182, ev_1038), (185, ev_12), (187, ev_18), (188, ev_18), (189, ev_270), (192, ev_96), (194, ev_439), (197, ev_13), (198, ev_962), (201, ev_13), (202, ev_1038), (205, ev_12), (207, ev_18), (208, ev_18), (209, ev_299)]
noncomputable def zi_317_7 : ZIs := [(210, ev_348), (213, ev_1450), (216, ev_300), (219, ev_1451), (222, ev_13), (223, ev_962), (226, ev_197), (227, ev_18), (228, ev_98)]
set_option maxRecDepth 100000 in
theorem xi_w317 : zall cX12_width [zi_317_0, zi_317_1, zi_317_2, zi_317_3, zi_317_4, zi_317_5, zi_317_6, zi_317_7] := zall_w _ _ (by decide +kernel)
noncomputable def xi_317 (pc : Nat) : XIs := cond (Nat.blt pc 122) (cond (Nat.blt pc 58) (cond (Nat.blt pc 30) (zx zi_317_0) (zx zi_317_1)) (cond (Nat.blt pc 90) (zx zi_317_2) (zx zi_317_3))) (cond (Nat.blt pc 181) (cond (Nat.blt pc 151) (zx zi_317_4) (zx zi_317_5)) (cond (Nat.blt pc 210) (zx zi_317_6) (zx zi_317_7)))
theorem xi_ok317 (pc : Nat) : xi_ok cX12_width (xi_317 pc) = true := xi_c (xi_c (xi_c (zq1 xi_w317) (zq1 (zq2 xi_w317))) (xi_c (zq1 (zq2 (zq2 xi_w317))) (zq1 (zq2 (zq2 (zq2 xi_w317)))))) (xi_c (xi_c (zq1 (zq2 (zq2 (zq2 (zq2 xi_w317))))) (zq1 (zq2 (zq2 (zq2 (zq2 (zq2 xi_w317))))))) (xi_c (zq1 (zq2 (zq2 (zq2 (zq2 (zq2 (zq2 xi_w317))))))) (zq1 (zq2 (zq2 (zq2 (zq2 (zq2 (zq2 (zq2 xi_w317))))))))))
noncomputable def zi_318_0 : ZIs := [(0, ev_13), (1, ev_1452), (4, ev_1045), (7, ev_1453), (10, ev_33), (11, ev_13), (12, ev_1452), (15, ev_355), (16, ev_28), (18, ev_13), (19, ev_1454), (22, ev_101), (24, ev_192), (25, ev_299), (26, ev_13), (27, ev_1454)]
noncomputable def zi_318_1 : ZIs := [(30, ev_101), (32, ev_7), (33, ev_22), (34, ev_197), (35, ev_299), (36, ev_13), (37, ev_1454), (40, ev_101), (42, ev_30), (43, ev_22), (44, ev_198), (45, ev_299), (46, ev_13), (47, ev_1454), (50, ev_101), (52, ev_31)]
noncomputable def zi_318_2 : ZIs := [(53, ev_22), (54, ev_12), (56, ev_299), (57, ev_13), (58, ev_1454), (61, ev_101), (63, ev_32), (64, ev_22), (65, ev_96), (67, ev_299), (68, ev_230), (69, ev_921), (71, ev_7), (72, ev_327), (74, ev_329), (76, ev_192)]
noncomputable def zi_318_3 : ZIs := [(77, ev_433), (80, ev_922), (82, ev_13), (83, ev_1039), (86, ev_13), (87, ev_1291), (90, ev_13), (91, ev_1454), (94, ev_101), (96, ev_329), (98, ev_22), (99, ev_18), (100, ev_22), (101, ev_18), (102, ev_102), (103, ev_457)]
noncomputable def zi_318_4 : ZIs := [(104, ev_921), (106, ev_1455), (109, ev_293), (112, ev_13), (113, ev_296), (116, ev_13), (117, ev_1452), (120, ev_922), (122, ev_194), (123, ev_13), (124, ev_1), (125, ev_1452), (128, ev_7), (129, ev_22), (130, ev_1456), (133, ev_260)]
set_option maxRecDepth 100000 in
theorem xi_w318 : zall cX12_addShort [zi_318_0, zi_318_1, zi_318_2, zi_318_3, zi_318_4] := zall_w _ _ (by decide +kernel)
noncomputable def xi_318 (pc : Nat) : XIs := cond (Nat.blt pc 53) (cond (Nat.blt pc 30) (zx zi_318_0) (zx zi_318_1)) (cond (Nat.blt pc 77) (zx zi_318_2) (cond (Nat.blt pc 104) (zx zi_318_3) (zx zi_318_4)))
theorem xi_ok318 (pc : Nat) : xi_ok cX12_addShort (xi_318 pc) = true := xi_c (xi_c (zq1 xi_w318) (zq1 (zq2 xi_w318))) (xi_c (zq1 (zq2 (zq2 xi_w318))) (xi_c (zq1 (zq2 (zq2 (zq2 xi_w318)))) (zq1 (zq2 (zq2 (zq2 (zq2 xi_w318)))))))
noncomputable def zi_319_0 : ZIs := [(0, ev_13), (1, ev_1290), (4, ev_13), (5, ev_1291), (8, ev_192), (9, ev_22), (10, ev_1292), (11, ev_867), (14, ev_13), (15, ev_1302), (18, ev_13), (19, ev_1291), (22, ev_192), (23, ev_22), (24, ev_18), (25, ev_197)]
noncomputable def zi_319_1 : ZIs := [(26, ev_1457), (29, ev_198), (30, ev_13), (31, ev_1038), (34, ev_13), (35, ev_1291), (38, ev_192), (39, ev_22), (40, ev_18), (41, ev_1418), (44, ev_326), (47, ev_7), (48, ev_229), (51, ev_10), (52, ev_98)]
set_option maxRecDepth 100000 in
theorem xi_w319 : zall cX12_goesOn [zi_319_0, zi_319_1] := zall_w _ _ (by decide +kernel)
noncomputable def xi_319 (pc : Nat) : XIs := cond (Nat.blt pc 26) (zx zi_319_0) (zx zi_319_1)
theorem xi_ok319 (pc : Nat) : xi_ok cX12_goesOn (xi_319 pc) = true := xi_c (zq1 xi_w319) (zq1 (zq2 xi_w319))
noncomputable def zi_320_0 : ZIs := [(0, ev_13), (1, ev_10), (2, ev_1456), (5, ev_10), (6, ev_295), (7, ev_198), (8, ev_529), (11, ev_436), (14, ev_13), (15, ev_1452), (18, ev_1045), (21, ev_1458), (24, ev_13), (25, ev_198), (26, ev_192), (27, ev_7)]
noncomputable def zi_320_1 : ZIs := [(28, ev_192), (29, ev_277), (30, ev_1459), (33, ev_1337), (36, ev_13), (37, ev_1038), (40, ev_13), (41, ev_1291), (44, ev_198), (45, ev_22), (46, ev_18), (47, ev_11), (49, ev_12), (51, ev_197), (52, ev_727), (55, ev_13)]
noncomputable def zi_320_2 : ZIs := [(56, ev_7), (57, ev_198), (58, ev_10), (59, ev_10), (60, ev_10), (61, ev_1460), (64, ev_902), (67, ev_13), (68, ev_198), (69, ev_12), (71, ev_7), (72, ev_192), (73, ev_277), (74, ev_7), (75, ev_12), (77, ev_277)]
noncomputable def zi_320_3 : ZIs := [(78, ev_278), (79, ev_197), (80, ev_1461), (83, ev_300), (86, ev_563), (89, ev_260)]
set_option maxRecDepth 100000 in
theorem xi_w320 : zall cX12_findShorts [zi_320_0, zi_320_1, zi_320_2, zi_320_3] := zall_w _ _ (by decide +kernel)
noncomputable def xi_320 (pc : Nat) : XIs := cond (Nat.blt pc 56) (cond (Nat.blt pc 28) (zx zi_320_0) (zx zi_320_1)) (cond (Nat.blt pc 78) (zx zi_320_2) (zx zi_320_3))
theorem xi_ok320 (pc : Nat) : xi_ok cX12_findShorts (xi_320 pc) = true := xi_c (xi_c (zq1 xi_w320) (zq1 (zq2 xi_w320))) (xi_c (zq1 (zq2 (zq2 xi_w320))) (zq1 (zq2 (zq2 (zq2 xi_w320)))))
noncomputable def zi_321_0 : ZIs := [(0, ev_10), (1, ev_25), (3, ev_96), (5, ev_529), (8, ev_879), (11, ev_13), (12, ev_1452), (15, ev_1045), (18, ev_1462), (21, ev_13), (22, ev_96), (24, ev_197), (25, ev_198), (26, ev_1459), (29, ev_1463), (32, ev_13)]
noncomputable def zi_321_1 : ZIs := [(33, ev_1038), (36, ev_13), (37, ev_1291), (40, ev_96), (42, ev_22), (43, ev_18), (44, ev_28), (46, ev_101), (48, ev_12), (50, ev_538), (53, ev_13), (54, ev_30), (55, ev_192), (56, ev_96), (58, ev_10), (59, ev_10)]
noncomputable def zi_321_2 : ZIs := [(60, ev_1460), (63, ev_1464), (66, ev_13), (67, ev_192), (68, ev_96), (70, ev_101), (72, ev_198), (73, ev_7), (74, ev_101), (76, ev_277), (77, ev_278), (78, ev_12), (80, ev_1465), (83, ev_343), (86, ev_883), (89, ev_260)]
set_option maxRecDepth 100000 in
theorem xi_w321 : zall cX12_second [zi_321_0, zi_321_1, zi_321_2] := zall_w _ _ (by decide +kernel)
noncomputable def xi_321 (pc : Nat) : XIs := cond (Nat.blt pc 33) (zx zi_321_0) (cond (Nat.blt pc 60) (zx zi_321_1) (zx zi_321_2))
theorem xi_ok321 (pc : Nat) : xi_ok cX12_second (xi_321 pc) = true := xi_c (zq1 xi_w321) (xi_c (zq1 (zq2 xi_w321)) (zq1 (zq2 (zq2 xi_w321))))
noncomputable def zi_322_0 : ZIs := [(0, ev_10), (1, ev_28), (3, ev_101), (5, ev_529), (8, ev_1466), (11, ev_13), (12, ev_1452), (15, ev_1045), (18, ev_1467), (21, ev_13), (22, ev_101), (24, ev_198), (25, ev_12), (27, ev_1459), (30, ev_1468), (33, ev_13)]
noncomputable def zi_322_1 : ZIs := [(34, ev_1038), (37, ev_13), (38, ev_1291), (41, ev_101), (43, ev_22), (44, ev_18), (45, ev_275), (47, ev_276), (49, ev_96), (51, ev_538), (54, ev_13), (55, ev_31), (56, ev_192), (57, ev_197), (58, ev_101), (60, ev_10)]
noncomputable def zi_322_2 : ZIs := [(61, ev_1460), (64, ev_1469), (67, ev_10), (68, ev_313), (70, ev_314), (72, ev_529), (75, ev_1470), (78, ev_13), (79, ev_1290), (82, ev_13), (83, ev_1291), (86, ev_314), (88, ev_22), (89, ev_1292), (90, ev_1319), (93, ev_13)]
noncomputable def zi_322_3 : ZIs := [(94, ev_1302), (97, ev_13), (98, ev_1291), (101, ev_314), (103, ev_22), (104, ev_18), (105, ev_276), (107, ev_891), (110, ev_13), (111, ev_1038), (114, ev_13), (115, ev_1291), (118, ev_314), (120, ev_22), (121, ev_18), (122, ev_96)]
noncomputable def zi_322_4 : ZIs := [(124, ev_798), (127, ev_13), (128, ev_32), (129, ev_192), (130, ev_197), (131, ev_101), (133, ev_314), (135, ev_1460), (138, ev_318), (141, ev_1471), (144, ev_320), (147, ev_1472), (150, ev_260)]
set_option maxRecDepth 100000 in
theorem xi_w322 : zall cX12_third [zi_322_0, zi_322_1, zi_322_2, zi_322_3, zi_322_4] := zall_w _ _ (by decide +kernel)
noncomputable def xi_322 (pc : Nat) : XIs := cond (Nat.blt pc 61) (cond (Nat.blt pc 34) (zx zi_322_0) (zx zi_322_1)) (cond (Nat.blt pc 94) (zx zi_322_2) (cond (Nat.blt pc 124) (zx zi_322_3) (zx zi_322_4)))
theorem xi_ok322 (pc : Nat) : xi_ok cX12_third (xi_322 pc) = true := xi_c (xi_c (zq1 xi_w322) (zq1 (zq2 xi_w322))) (xi_c (zq1 (zq2 (zq2 xi_w322))) (xi_c (zq1 (zq2 (zq2 (zq2 xi_w322)))) (zq1 (zq2 (zq2 (zq2 (zq2 xi_w322)))))))
noncomputable def zi_323_0 : ZIs := [(0, ev_13), (1, ev_296), (4, ev_192), (5, ev_100), (6, ev_13), (7, ev_296), (10, ev_197), (11, ev_100), (12, ev_103), (13, ev_548), (16, ev_13), (17, ev_296), (20, ev_192), (21, ev_100), (22, ev_13), (23, ev_296)]
noncomputable def zi_323_1 : ZIs := [(26, ev_197), (27, ev_100), (28, ev_103), (29, ev_486), (32, ev_7), (33, ev_229), (36, ev_10), (37, ev_98), (38, ev_13), (39, ev_1454), (42, ev_33), (43, ev_192), (44, ev_355), (45, ev_18), (46, ev_13), (47, ev_1454)]
noncomputable def zi_323_2 : ZIs := [(50, ev_33), (51, ev_197), (52, ev_355), (53, ev_18), (54, ev_1473), (57, ev_13), (58, ev_1454), (61, ev_33), (62, ev_192), (63, ev_355), (64, ev_18), (65, ev_13), (66, ev_1454), (69, ev_33), (70, ev_197), (71, ev_355)]
noncomputable def zi_323_3 : ZIs := [(72, ev_18), (73, ev_656), (76, ev_7), (77, ev_229), (80, ev_10), (81, ev_98), (82, ev_7), (83, ev_295), (84, ev_198), (85, ev_13), (86, ev_1454), (89, ev_33), (90, ev_192), (91, ev_355), (92, ev_18), (93, ev_1474)]
noncomputable def zi_323_4 : ZIs := [(96, ev_13), (97, ev_1454), (100, ev_33), (101, ev_192), (102, ev_355), (103, ev_198), (104, ev_22), (105, ev_18), (106, ev_13), (107, ev_1454), (110, ev_33), (111, ev_197), (112, ev_355), (113, ev_198), (114, ev_22), (115, ev_18)]
noncomputable def zi_323_5 : ZIs := [(116, ev_1475), (119, ev_13), (120, ev_1454), (123, ev_33), (124, ev_192), (125, ev_355), (126, ev_198), (127, ev_22), (128, ev_18), (129, ev_13), (130, ev_1454), (133, ev_33), (134, ev_197), (135, ev_355), (136, ev_198), (137, ev_22)]
noncomputable def zi_323_6 : ZIs := [(138, ev_18), (139, ev_656), (142, ev_7), (143, ev_229), (146, ev_10), (147, ev_98), (148, ev_300), (151, ev_1413), (154, ev_10), (155, ev_98)]
set_option maxRecDepth 100000 in
theorem xi_w323 : zall cX12_isBefore [zi_323_0, zi_323_1, zi_323_2, zi_323_3, zi_323_4, zi_323_5, zi_323_6] := zall_w _ _ (by decide +kernel)
noncomputable def xi_323 (pc : Nat) : XIs := cond (Nat.blt pc 72) (cond (Nat.blt pc 26) (zx zi_323_0) (cond (Nat.blt pc 50) (zx zi_323_1) (zx zi_323_2))) (cond (Nat.blt pc 116) (cond (Nat.blt pc 96) (zx zi_323_3) (zx zi_323_4)) (cond (Nat.blt pc 138) (zx zi_323_5) (zx zi_323_6)))
theorem xi_ok323 (pc : Nat) : xi_ok cX12_isBefore (xi_323 pc) = true := xi_c (xi_c (zq1 xi_w323) (xi_c (zq1 (zq2 xi_w323)) (zq1 (zq2 (zq2 xi_w323))))) (xi_c (xi_c (zq1 (zq2 (zq2 (zq2 xi_w323)))) (zq1 (zq2 (zq2 (zq2 (zq2 xi_w323)))))) (xi_c (zq1 (zq2 (zq2 (zq2 (zq2 (zq2 xi_w323)))))) (zq1 (zq2 (zq2 (zq2 (zq2 (zq2 (zq2 xi_w323)))))))))
noncomputable def zi_324_0 : ZIs := [(0, ev_10), (1, ev_685), (2, ev_192), (3, ev_13), (4, ev_1452), (7, ev_1114), (10, ev_13), (11, ev_554), (14, ev_192), (15, ev_192), (16, ev_299), (17, ev_688), (20, ev_1476), (23, ev_7), (24, ev_685), (25, ev_192)]
noncomputable def zi_324_1 : ZIs := [(26, ev_13), (27, ev_1452), (30, ev_1477), (33, ev_10), (34, ev_294), (35, ev_197), (36, ev_13), (37, ev_1452), (40, ev_1478), (43, ev_197), (44, ev_192), (45, ev_22), (46, ev_13), (47, ev_1452), (50, ev_472), (53, ev_197)]
noncomputable def zi_324_2 : ZIs := [(54, ev_192), (55, ev_22), (56, ev_212), (59, ev_13), (60, ev_1452), (63, ev_295), (64, ev_197), (65, ev_30), (66, ev_192), (67, ev_355), (68, ev_22), (69, ev_13), (70, ev_1452), (73, ev_1479), (76, ev_197), (77, ev_30)]
noncomputable def zi_324_3 : ZIs := [(78, ev_192), (79, ev_355), (80, ev_22), (81, ev_212), (84, ev_13), (85, ev_1452), (88, ev_11), (90, ev_197), (91, ev_25), (93, ev_198), (94, ev_28), (96, ev_197), (97, ev_275), (99, ev_276), (101, ev_12), (103, ev_1480)]
noncomputable def zi_324_4 : ZIs := [(106, ev_96), (108, ev_198), (109, ev_297), (112, ev_101), (114, ev_12), (116, ev_1481), (119, ev_13), (120, ev_13), (121, ev_554), (124, ev_101), (126, ev_18), (127, ev_13), (128, ev_554), (131, ev_96), (133, ev_18), (134, ev_1482)]
noncomputable def zi_324_5 : ZIs := [(137, ev_326), (140, ev_7), (141, ev_229), (144, ev_10), (145, ev_313), (147, ev_13), (148, ev_555), (151, ev_276), (153, ev_314), (155, ev_634), (158, ev_13), (159, ev_554), (162, ev_96), (164, ev_18), (165, ev_633), (168, ev_13)]
noncomputable def zi_324_6 : ZIs := [(169, ev_554), (172, ev_101), (174, ev_18), (175, ev_299), (176, ev_96), (178, ev_314), (180, ev_227), (183, ev_7), (184, ev_229), (187, ev_10), (188, ev_22), (189, ev_25), (191, ev_101), (193, ev_314), (195, ev_227), (198, ev_10)]
noncomputable def zi_324_7 : ZIs := [(199, ev_229), (202, ev_7), (203, ev_22), (204, ev_28), (206, ev_955), (209, ev_1483), (212, ev_197), (213, ev_30), (214, ev_192), (215, ev_355), (216, ev_22), (217, ev_294), (218, ev_1484), (221, ev_10), (222, ev_294), (223, ev_197)]
noncomputable def zi_324_8 : ZIs := [(224, ev_13), (225, ev_1452), (228, ev_364), (231, ev_13), (232, ev_554), (235, ev_197), (236, ev_13), (237, ev_555), (240, ev_197), (241, ev_18), (242, ev_299), (243, ev_304), (246, ev_711), (249, ev_192), (250, ev_30), (251, ev_355)]
noncomputable def zi_324_9 : ZIs := [(252, ev_685), (253, ev_1485), (256, ev_260)]
set_option maxRecDepth 100000 in
theorem xi_w324 : zall cX12_sortShorts [zi_324_0, zi_324_1, zi_324_2, zi_324_3, zi_324_4, zi_324_5, zi_324_6, zi_324_7, zi_324_8, zi_324_9] := zall_w _ _ (by decide +kernel)
noncomputable def xi_324 (pc : Nat) : XIs := cond (Nat.blt pc 137) (cond (Nat.blt pc 54) (cond (Nat.blt pc 26) (zx zi_324_0) (zx zi_324_1)) (cond (Nat.blt pc 78) (zx zi_324_2) (cond (Nat.blt pc 106) (zx zi_324_3) (zx zi_324_4)))) (cond (Nat.blt pc 199) (cond (Nat.blt pc 169) (zx zi_324_5) (zx zi_324_6)) (cond (Nat.blt pc 224) (zx zi_324_7) (cond (Nat.blt pc 252) (zx zi_324_8) (zx zi_324_9))))
theorem xi_ok324 (pc : Nat) : xi_ok cX12_sortShorts (xi_324 pc) = true := xi_c (xi_c (xi_c (zq1 xi_w324) (zq1 (zq2 xi_w324))) (xi_c (zq1 (zq2 (zq2 xi_w324))) (xi_c (zq1 (zq2 (zq2 (zq2 xi_w324)))) (zq1 (zq2 (zq2 (zq2 (zq2 xi_w324)))))))) (xi_c (xi_c (zq1 (zq2 (zq2 (zq2 (zq2 (zq2 xi_w324)))))) (zq1 (zq2 (zq2 (zq2 (zq2 (zq2 (zq2 xi_w324)))))))) (xi_c (zq1 (zq2 (zq2 (zq2 (zq2 (zq2 (zq2 (zq2 xi_w324)))))))) (xi_c (zq1 (zq2 (zq2 (zq2 (zq2 (zq2 (zq2 (zq2 (zq2 xi_w324))))))))) (zq1 (zq2 (zq2 (zq2 (zq2 (zq2 (zq2 (zq2 (zq2 (zq2 xi_w324)))))))))))))
noncomputable def zi_325_0 : ZIs := [(0, ev_13), (1, ev_13), (2, ev_192), (3, ev_1335), (6, ev_680), (9, ev_13), (10, ev_197), (11, ev_1335), (14, ev_649), (17, ev_192), (18, ev_197), (19, ev_681), (22, ev_7), (23, ev_229), (26, ev_10), (27, ev_1175)]
noncomputable def zi_325_1 : ZIs := [(30, ev_104), (33, ev_10), (34, ev_98), (35, ev_13), (36, ev_192), (37, ev_197), (38, ev_1486), (41, ev_13), (42, ev_1452), (45, ev_1045), (48, ev_270), (51, ev_1046), (53, ev_212), (56, ev_13), (57, ev_1452), (60, ev_98)]
set_option maxRecDepth 100000 in
theorem xi_w325 : zall cX12_shorts [zi_325_0, zi_325_1] := zall_w _ _ (by decide +kernel)
noncomputable def xi_325 (pc : Nat) : XIs := cond (Nat.blt pc 30) (zx zi_325_0) (zx zi_325_1)
theorem xi_ok325 (pc : Nat) : xi_ok cX12_shorts (xi_325 pc) = true := xi_c (zq1 xi_w325) (zq1 (zq2 xi_w325))
noncomputable def zi_326_0 : ZIs := [(0, ev_13), (1, ev_13), (2, ev_192), (3, ev_1335), (6, ev_416), (9, ev_13), (10, ev_197), (11, ev_1335), (14, ev_333), (17, ev_192), (18, ev_197), (19, ev_281), (22, ev_198), (23, ev_1109), (26, ev_12), (28, ev_831)]
noncomputable def zi_326_1 : ZIs := [(31, ev_7), (32, ev_229), (35, ev_10), (36, ev_1175), (39, ev_104), (42, ev_10), (43, ev_98), (44, ev_13), (45, ev_192), (46, ev_197), (47, ev_1486), (50, ev_13), (51, ev_1452), (54, ev_1045), (57, ev_1121), (60, ev_198)]
noncomputable def zi_326_2 : ZIs := [(61, ev_13), (62, ev_1452), (65, ev_993), (68, ev_252), (69, ev_98), (70, ev_13), (71, ev_1487), (74, ev_33), (75, ev_13), (76, ev_554), (79, ev_198), (80, ev_18), (81, ev_355), (82, ev_25), (84, ev_12), (86, ev_13)]
noncomputable def zi_326_3 : ZIs := [(87, ev_1454), (90, ev_96), (92, ev_18), (93, ev_1488), (96, ev_13), (97, ev_1454), (100, ev_96), (102, ev_7), (103, ev_22), (104, ev_12), (106, ev_22), (107, ev_18), (108, ev_229), (111, ev_252), (112, ev_98)]
set_option maxRecDepth 100000 in
theorem xi_w326 : zall cX12_shortArc [zi_326_0, zi_326_1, zi_326_2, zi_326_3] := zall_w _ _ (by decide +kernel)
noncomputable def xi_326 (pc : Nat) : XIs := cond (Nat.blt pc 61) (cond (Nat.blt pc 31) (zx zi_326_0) (zx zi_326_1)) (cond (Nat.blt pc 87) (zx zi_326_2) (zx zi_326_3))
theorem xi_ok326 (pc : Nat) : xi_ok cX12_shortArc (xi_326 pc) = true := xi_c (xi_c (zq1 xi_w326) (zq1 (zq2 xi_w326))) (xi_c (zq1 (zq2 (zq2 xi_w326))) (zq1 (zq2 (zq2 (zq2 xi_w326)))))
noncomputable def zi_327_0 : ZIs := [(0, ev_10), (1, ev_685), (2, ev_482), (3, ev_192), (4, ev_1418), (7, ev_992), (10, ev_688), (13, ev_1489), (16, ev_192), (17, ev_98)]
set_option maxRecDepth 100000 in
theorem xi_w327 : zall cX12_least [zi_327_0] := zall_w _ _ (by decide +kernel)
noncomputable def xi_327 (pc : Nat) : XIs := zx zi_327_0
theorem xi_ok327 (pc : Nat) : xi_ok cX12_least (xi_327 pc) = true := zq1 xi_w327
noncomputable def zi_328_0 : ZIs := [(0, ev_13), (1, ev_192), (2, ev_102), (3, ev_230), (4, ev_228), (5, ev_1316), (8, ev_771), (11, ev_13), (12, ev_197), (13, ev_1335), (16, ev_227), (19, ev_7), (20, ev_229), (23, ev_10), (24, ev_1175), (27, ev_104)]
noncomputable def zi_328_1 : ZIs := [(30, ev_10), (31, ev_98), (32, ev_13), (33, ev_192), (34, ev_7), (35, ev_818), (38, ev_7), (39, ev_229), (42, ev_10), (43, ev_252), (44, ev_252), (45, ev_1433), (48, ev_10), (49, ev_295), (50, ev_13), (51, ev_958)]
noncomputable def zi_328_2 : ZIs := [(54, ev_197), (55, ev_18), (56, ev_198), (57, ev_1418), (60, ev_417), (63, ev_13), (64, ev_958), (67, ev_198), (68, ev_18), (69, ev_197), (70, ev_1418), (73, ev_992), (76, ev_300), (79, ev_853), (82, ev_198), (83, ev_98)]
set_option maxRecDepth 100000 in
theorem xi_w328 : zall cX12_part [zi_328_0, zi_328_1, zi_328_2] := zall_w _ _ (by decide +kernel)
noncomputable def xi_328 (pc : Nat) : XIs := cond (Nat.blt pc 30) (zx zi_328_0) (cond (Nat.blt pc 54) (zx zi_328_1) (zx zi_328_2))
theorem xi_ok328 (pc : Nat) : xi_ok cX12_part (xi_328 pc) = true := xi_c (zq1 xi_w328) (xi_c (zq1 (zq2 xi_w328)) (zq1 (zq2 (zq2 xi_w328))))
noncomputable def zi_329_0 : ZIs := [(0, ev_13), (1, ev_7), (2, ev_192), (3, ev_197), (4, ev_1433), (7, ev_10), (8, ev_295), (9, ev_10), (10, ev_11), (12, ev_12), (14, ev_13), (15, ev_1288), (18, ev_471), (21, ev_198), (22, ev_12), (24, ev_197)]
noncomputable def zi_329_1 : ZIs := [(25, ev_684), (28, ev_13), (29, ev_958), (32, ev_12), (34, ev_18), (35, ev_1490), (38, ev_12), (40, ev_818), (43, ev_7), (44, ev_229), (47, ev_10), (48, ev_22), (49, ev_295), (50, ev_348), (53, ev_1491), (56, ev_198)]
noncomputable def zi_329_2 : ZIs := [(57, ev_98)]
set_option maxRecDepth 100000 in
theorem xi_w329 : zall cX12_weakParts [zi_329_0, zi_329_1, zi_329_2] := zall_w _ _ (by decide +kernel)
noncomputable def xi_329 (pc : Nat) : XIs := cond (Nat.blt pc 25) (zx zi_329_0) (cond (Nat.blt pc 57) (zx zi_329_1) (zx zi_329_2))
theorem xi_ok329 (pc : Nat) : xi_ok cX12_weakParts (xi_329 pc) = true := xi_c (zq1 xi_w329) (xi_c (zq1 (zq2 xi_w329)) (zq1 (zq2 (zq2 xi_w329))))
noncomputable def zi_330_0 : ZIs := [(0, ev_13), (1, ev_13), (2, ev_192), (3, ev_1492), (6, ev_1175), (9, ev_104), (12, ev_10), (13, ev_98), (14, ev_13), (15, ev_192), (16, ev_252), (17, ev_1493), (20, ev_13), (21, ev_252), (22, ev_252), (23, ev_1493)]
noncomputable def zi_330_1 : ZIs := [(26, ev_941), (29, ev_7), (30, ev_229), (33, ev_10), (34, ev_98)]
set_option maxRecDepth 100000 in
theorem xi_w330 : zall cX12_bridge [zi_330_0, zi_330_1] := zall_w _ _ (by decide +kernel)
noncomputable def xi_330 (pc : Nat) : XIs := cond (Nat.blt pc 26) (zx zi_330_0) (zx zi_330_1)
theorem xi_ok330 (pc : Nat) : xi_ok cX12_bridge (xi_330 pc) = true := xi_c (zq1 xi_w330) (zq1 (zq2 xi_w330))
noncomputable def zi_331_0 : ZIs := [(0, ev_13), (1, ev_13), (2, ev_192), (3, ev_1335), (6, ev_1175), (9, ev_104), (12, ev_10), (13, ev_98), (14, ev_13), (15, ev_252), (16, ev_192), (17, ev_1493), (20, ev_13), (21, ev_252), (22, ev_252), (23, ev_1493)]
noncomputable def zi_331_1 : ZIs := [(26, ev_941), (29, ev_7), (30, ev_229), (33, ev_10), (34, ev_98)]
set_option maxRecDepth 100000 in
theorem xi_w331 : zall cX12_cut [zi_331_0, zi_331_1] := zall_w _ _ (by decide +kernel)
noncomputable def xi_331 (pc : Nat) : XIs := cond (Nat.blt pc 26) (zx zi_331_0) (zx zi_331_1)
theorem xi_ok331 (pc : Nat) : xi_ok cX12_cut (xi_331 pc) = true := xi_c (zq1 xi_w331) (zq1 (zq2 xi_w331))
noncomputable def zi_332_0 : ZIs := [(0, ev_13), (1, ev_192), (2, ev_831), (5, ev_7), (6, ev_229), (9, ev_10), (10, ev_1175), (13, ev_104), (16, ev_10), (17, ev_98), (18, ev_10), (19, ev_294), (20, ev_252), (21, ev_295), (22, ev_252), (23, ev_11)]
noncomputable def zi_332_1 : ZIs := [(25, ev_10), (26, ev_25), (28, ev_96), (30, ev_13), (31, ev_1288), (34, ev_1494), (37, ev_252), (38, ev_295), (39, ev_13), (40, ev_1288), (43, ev_7), (44, ev_16), (45, ev_28), (47, ev_101), (49, ev_1495), (52, ev_197)]
noncomputable def zi_332_2 : ZIs := [(53, ev_101), (55, ev_1418), (58, ev_326), (61, ev_7), (62, ev_229), (65, ev_10), (66, ev_275), (68, ev_13), (69, ev_1291), (72, ev_313), (74, ev_314), (76, ev_13), (77, ev_1291), (80, ev_529), (83, ev_22), (84, ev_724)]
noncomputable def zi_332_3 : ZIs := [(87, ev_276), (89, ev_1496), (92, ev_13), (93, ev_1290), (96, ev_314), (98, ev_1292), (99, ev_416), (102, ev_13), (103, ev_1038), (106, ev_314), (108, ev_18), (109, ev_101), (111, ev_1497), (114, ev_197), (115, ev_13), (116, ev_1302)]
noncomputable def zi_332_4 : ZIs := [(119, ev_314), (121, ev_18), (122, ev_1418), (125, ev_227), (128, ev_7), (129, ev_229), (132, ev_10), (133, ev_275), (135, ev_318), (138, ev_1498), (141, ev_276), (143, ev_330), (146, ev_101), (148, ev_229), (151, ev_198), (152, ev_295)]
noncomputable def zi_332_5 : ZIs := [(153, ev_1499), (156, ev_332), (159, ev_198), (160, ev_252), (161, ev_691), (164, ev_252), (165, ev_98), (166, ev_197), (167, ev_7), (168, ev_198), (169, ev_277), (170, ev_278), (171, ev_294), (172, ev_96), (174, ev_192), (175, ev_818)]
noncomputable def zi_332_6 : ZIs := [(178, ev_198), (179, ev_638), (182, ev_12), (184, ev_11), (186, ev_343), (189, ev_1500), (192, ev_12), (194, ev_98)]
set_option maxRecDepth 100000 in
theorem xi_w332 : zall cX12_order [zi_332_0, zi_332_1, zi_332_2, zi_332_3, zi_332_4, zi_332_5, zi_332_6] := zall_w _ _ (by decide +kernel)
noncomputable def xi_332 (pc : Nat) : XIs := cond (Nat.blt pc 87) (cond (Nat.blt pc 25) (zx zi_332_0) (cond (Nat.blt pc 53) (zx zi_332_1) (zx zi_332_2))) (cond (Nat.blt pc 153) (cond (Nat.blt pc 119) (zx zi_332_3) (zx zi_332_4)) (cond (Nat.blt pc 178) (zx zi_332_5) (zx zi_332_6)))
theorem xi_ok332 (pc : Nat) : xi_ok cX12_order (xi_332 pc) = true := xi_c (xi_c (zq1 xi_w332) (xi_c (zq1 (zq2 xi_w332)) (zq1 (zq2 (zq2 xi_w332))))) (xi_c (xi_c (zq1 (zq2 (zq2 (zq2 xi_w332)))) (zq1 (zq2 (zq2 (zq2 (zq2 xi_w332)))))) (xi_c (zq1 (zq2 (zq2 (zq2 (zq2 (zq2 xi_w332)))))) (zq1 (zq2 (zq2 (zq2 (zq2 (zq2 (zq2 xi_w332)))))))))
noncomputable def zi_333_0 : ZIs := [(0, ev_10), (1, ev_295), (2, ev_10), (3, ev_11), (5, ev_12), (7, ev_529), (10, ev_1501), (13, ev_13), (14, ev_12), (16, ev_1178), (19, ev_1502), (22, ev_13), (23, ev_1302), (26, ev_13), (27, ev_1291), (30, ev_12)]
noncomputable def zi_333_1 : ZIs := [(32, ev_22), (33, ev_18), (34, ev_25), (36, ev_13), (37, ev_1038), (40, ev_13), (41, ev_1291), (44, ev_12), (46, ev_22), (47, ev_18), (48, ev_28), (50, ev_198), (51, ev_96), (53, ev_192), (54, ev_690), (57, ev_197)]
noncomputable def zi_333_2 : ZIs := [(58, ev_101), (60, ev_1418), (63, ev_1305), (66, ev_101), (68, ev_192), (69, ev_538), (72, ev_197), (73, ev_96), (75, ev_1418), (78, ev_227), (81, ev_7), (82, ev_229), (85, ev_10), (86, ev_22), (87, ev_295), (88, ev_348)]
noncomputable def zi_333_3 : ZIs := [(91, ev_1503), (94, ev_198), (95, ev_98)]
set_option maxRecDepth 100000 in
theorem xi_w333 : zall cX12_jointsWith [zi_333_0, zi_333_1, zi_333_2, zi_333_3] := zall_w _ _ (by decide +kernel)
noncomputable def xi_333 (pc : Nat) : XIs := cond (Nat.blt pc 58) (cond (Nat.blt pc 32) (zx zi_333_0) (zx zi_333_1)) (cond (Nat.blt pc 91) (zx zi_333_2) (zx zi_333_3))
theorem xi_ok333 (pc : Nat) : xi_ok cX12_jointsWith (xi_333 pc) = true := xi_c (xi_c (zq1 xi_w333) (zq1 (zq2 xi_w333))) (xi_c (zq1 (zq2 (zq2 xi_w333))) (zq1 (zq2 (zq2 (zq2 xi_w333)))))
noncomputable def zi_334_0 : ZIs := [(0, ev_13), (1, ev_13), (2, ev_192), (3, ev_1335), (6, ev_1175), (9, ev_104), (12, ev_10), (13, ev_98), (14, ev_13), (15, ev_1288), (18, ev_176), (20, ev_818), (23, ev_252), (24, ev_200), (27, ev_7), (28, ev_13)]
noncomputable def zi_334_1 : ZIs := [(29, ev_1288), (32, ev_277), (33, ev_7), (34, ev_16), (35, ev_294), (36, ev_10), (37, ev_295), (38, ev_10), (39, ev_11), (41, ev_197), (42, ev_192), (43, ev_1418), (46, ev_1504), (49, ev_198), (50, ev_11), (52, ev_300)]
noncomputable def zi_334_2 : ZIs := [(55, ev_7), (56, ev_25), (58, ev_96), (60, ev_353), (63, ev_10), (64, ev_25), (66, ev_10), (67, ev_28), (69, ev_101), (71, ev_13), (72, ev_1288), (75, ev_689), (78, ev_197), (79, ev_101), (81, ev_1418), (84, ev_1169)]
noncomputable def zi_334_3 : ZIs := [(87, ev_13), (88, ev_101), (90, ev_197), (91, ev_1505), (94, ev_198), (95, ev_1153), (98, ev_197), (99, ev_7), (100, ev_101), (102, ev_277), (103, ev_252), (104, ev_317), (105, ev_20), (106, ev_294), (107, ev_7), (108, ev_25)]
noncomputable def zi_334_4 : ZIs := [(110, ev_320), (113, ev_972), (116, ev_357), (119, ev_744), (122, ev_12), (124, ev_98)]
set_option maxRecDepth 100000 in
theorem xi_w334 : zall cX12_core [zi_334_0, zi_334_1, zi_334_2, zi_334_3, zi_334_4] := zall_w _ _ (by decide +kernel)
noncomputable def xi_334 (pc : Nat) : XIs := cond (Nat.blt pc 55) (cond (Nat.blt pc 29) (zx zi_334_0) (zx zi_334_1)) (cond (Nat.blt pc 87) (zx zi_334_2) (cond (Nat.blt pc 110) (zx zi_334_3) (zx zi_334_4)))
theorem xi_ok334 (pc : Nat) : xi_ok cX12_core (xi_334 pc) = true := xi_c (xi_c (zq1 xi_w334) (zq1 (zq2 xi_w334))) (xi_c (zq1 (zq2 (zq2 xi_w334))) (xi_c (zq1 (zq2 (zq2 (zq2 xi_w334)))) (zq1 (zq2 (zq2 (zq2 (zq2 xi_w334)))))))
noncomputable def zi_335_0 : ZIs := [(0, ev_10), (1, ev_685), (2, ev_192), (3, ev_13), (4, ev_1288), (7, ev_1114), (10, ev_13), (11, ev_1506), (14, ev_192), (15, ev_10), (16, ev_299), (17, ev_688), (20, ev_1476), (23, ev_10), (24, ev_685), (25, ev_192)]
noncomputable def zi_335_1 : ZIs := [(26, ev_529), (29, ev_879), (32, ev_13), (33, ev_192), (34, ev_1178), (37, ev_1507), (40, ev_13), (41, ev_1506), (44, ev_13), (45, ev_1302), (48, ev_13), (49, ev_1291), (52, ev_192), (53, ev_22), (54, ev_18), (55, ev_316)]
noncomputable def zi_335_2 : ZIs := [(56, ev_18), (57, ev_7), (58, ev_13), (59, ev_1038), (62, ev_13), (63, ev_1291), (66, ev_192), (67, ev_22), (68, ev_18), (69, ev_277), (70, ev_278), (71, ev_299), (72, ev_13), (73, ev_1506), (76, ev_13), (77, ev_1038)]
noncomputable def zi_335_3 : ZIs := [(80, ev_13), (81, ev_1291), (84, ev_192), (85, ev_22), (86, ev_18), (87, ev_316), (88, ev_18), (89, ev_7), (90, ev_13), (91, ev_1302), (94, ev_13), (95, ev_1291), (98, ev_192), (99, ev_22), (100, ev_18), (101, ev_277)]
noncomputable def zi_335_4 : ZIs := [(102, ev_278), (103, ev_299), (104, ev_688), (107, ev_1508), (110, ev_260)]
set_option maxRecDepth 100000 in
theorem xi_w335 : zall cX12_findBeside [zi_335_0, zi_335_1, zi_335_2, zi_335_3, zi_335_4] := zall_w _ _ (by decide +kernel)
noncomputable def xi_335 (pc : Nat) : XIs := cond (Nat.blt pc 56) (cond (Nat.blt pc 26) (zx zi_335_0) (zx zi_335_1)) (cond (Nat.blt pc 80) (zx zi_335_2) (cond (Nat.blt pc 102) (zx zi_335_3) (zx zi_335_4)))
theorem xi_ok335 (pc : Nat) : xi_ok cX12_findBeside (xi_335 pc) = true := xi_c (xi_c (zq1 xi_w335) (zq1 (zq2 xi_w335))) (xi_c (zq1 (zq2 (zq2 xi_w335))) (xi_c (zq1 (zq2 (zq2 (zq2 xi_w335)))) (zq1 (zq2 (zq2 (zq2 (zq2 xi_w335)))))))
noncomputable def zi_336_0 : ZIs := [(0, ev_10), (1, ev_685), (2, ev_10), (3, ev_294), (4, ev_197), (5, ev_176), (7, ev_683), (10, ev_192), (11, ev_482), (12, ev_197), (13, ev_303), (14, ev_7), (15, ev_20), (16, ev_22), (17, ev_685), (18, ev_304)]
noncomputable def zi_336_1 : ZIs := [(21, ev_1509), (24, ev_192), (25, ev_98)]
set_option maxRecDepth 100000 in
theorem xi_w336 : zall cX12_count [zi_336_0, zi_336_1] := zall_w _ _ (by decide +kernel)
noncomputable def xi_336 (pc : Nat) : XIs := cond (Nat.blt pc 21) (zx zi_336_0) (zx zi_336_1)
theorem xi_ok336 (pc : Nat) : xi_ok cX12_count (xi_336 pc) = true := xi_c (zq1 xi_w336) (zq1 (zq2 xi_w336))
noncomputable def zi_337_0 : ZIs := [(0, ev_13), (1, ev_1510), (4, ev_10), (5, ev_685), (6, ev_10), (7, ev_294), (8, ev_10), (9, ev_295), (10, ev_13), (11, ev_1511), (14, ev_10), (15, ev_13), (16, ev_1288), (19, ev_176), (21, ev_818), (24, ev_252)]
noncomputable def zi_337_1 : ZIs := [(25, ev_200), (28, ev_7), (29, ev_13), (30, ev_1288), (33, ev_277), (34, ev_7), (35, ev_16), (36, ev_299), (37, ev_13), (38, ev_1512), (41, ev_10), (42, ev_10), (43, ev_299), (44, ev_198), (45, ev_1513), (48, ev_198)]
noncomputable def zi_337_2 : ZIs := [(49, ev_197), (50, ev_1514), (53, ev_198), (54, ev_294), (55, ev_13), (56, ev_1512), (59, ev_198), (60, ev_18), (61, ev_685), (62, ev_13), (63, ev_1511), (66, ev_198), (67, ev_18), (68, ev_393), (71, ev_198), (72, ev_13)]
noncomputable def zi_337_3 : ZIs := [(73, ev_1511), (76, ev_198), (77, ev_18), (78, ev_1515), (81, ev_22), (82, ev_197), (83, ev_1516), (86, ev_478), (89, ev_730), (92, ev_13), (93, ev_1511), (96, ev_198), (97, ev_18), (98, ev_1490), (101, ev_11), (103, ev_13)]
noncomputable def zi_337_4 : ZIs := [(104, ev_1511), (107, ev_198), (108, ev_316), (109, ev_18), (110, ev_7), (111, ev_12), (113, ev_277), (114, ev_252), (115, ev_317), (116, ev_20), (117, ev_299), (118, ev_13), (119, ev_1511), (122, ev_198), (123, ev_7), (124, ev_22)]
noncomputable def zi_337_5 : ZIs := [(125, ev_13), (126, ev_1511), (129, ev_198), (130, ev_18), (131, ev_13), (132, ev_1506), (135, ev_12), (137, ev_18), (138, ev_20), (139, ev_299), (140, ev_13), (141, ev_1512), (144, ev_198), (145, ev_7), (146, ev_22), (147, ev_13)]
noncomputable def zi_337_6 : ZIs := [(148, ev_1512), (151, ev_198), (152, ev_18), (153, ev_7), (154, ev_12), (156, ev_277), (157, ev_278), (158, ev_299), (159, ev_300), (162, ev_720), (165, ev_192), (166, ev_98)]
set_option maxRecDepth 100000 in
theorem xi_w337 : zall cX12_findClique [zi_337_0, zi_337_1, zi_337_2, zi_337_3, zi_337_4, zi_337_5, zi_337_6] := zall_w _ _ (by decide +kernel)
noncomputable def xi_337 (pc : Nat) : XIs := cond (Nat.blt pc 73) (cond (Nat.blt pc 25) (zx zi_337_0) (cond (Nat.blt pc 49) (zx zi_337_1) (zx zi_337_2))) (cond (Nat.blt pc 125) (cond (Nat.blt pc 104) (zx zi_337_3) (zx zi_337_4)) (cond (Nat.blt pc 148) (zx zi_337_5) (zx zi_337_6)))
theorem xi_ok337 (pc : Nat) : xi_ok cX12_findClique (xi_337 pc) = true := xi_c (xi_c (zq1 xi_w337) (xi_c (zq1 (zq2 xi_w337)) (zq1 (zq2 (zq2 xi_w337))))) (xi_c (xi_c (zq1 (zq2 (zq2 (zq2 xi_w337)))) (zq1 (zq2 (zq2 (zq2 (zq2 xi_w337)))))) (xi_c (zq1 (zq2 (zq2 (zq2 (zq2 (zq2 xi_w337)))))) (zq1 (zq2 (zq2 (zq2 (zq2 (zq2 (zq2 xi_w337)))))))))
noncomputable def zi_338_0 : ZIs := [(0, ev_13), (1, ev_192), (2, ev_831), (5, ev_7), (6, ev_229), (9, ev_10), (10, ev_1175), (13, ev_104), (16, ev_10), (17, ev_98), (18, ev_13), (19, ev_1517), (22, ev_294), (23, ev_10), (24, ev_295), (25, ev_10)]
noncomputable def zi_338_1 : ZIs := [(26, ev_11), (28, ev_12), (30, ev_13), (31, ev_1288), (34, ev_863), (37, ev_197), (38, ev_12), (40, ev_1418), (43, ev_1004), (46, ev_198), (47, ev_192), (48, ev_774), (51, ev_12), (53, ev_98), (54, ev_300), (57, ev_348)]
noncomputable def zi_338_2 : ZIs := [(60, ev_693), (63, ev_252), (64, ev_98)]
set_option maxRecDepth 100000 in
theorem xi_w338 : zall cX12_clique [zi_338_0, zi_338_1, zi_338_2] := zall_w _ _ (by decide +kernel)
noncomputable def xi_338 (pc : Nat) : XIs := cond (Nat.blt pc 26) (zx zi_338_0) (cond (Nat.blt pc 60) (zx zi_338_1) (zx zi_338_2))
theorem xi_ok338 (pc : Nat) : xi_ok cX12_clique (xi_338 pc) = true := xi_c (zq1 xi_w338) (xi_c (zq1 (zq2 xi_w338)) (zq1 (zq2 (zq2 xi_w338))))
noncomputable def zi_339_0 : ZIs := [(0, ev_10), (1, ev_294), (2, ev_10), (3, ev_295), (4, ev_198), (5, ev_13), (6, ev_1288), (9, ev_721), (12, ev_197), (13, ev_13), (14, ev_1506), (17, ev_192), (18, ev_18), (19, ev_198), (20, ev_1418), (23, ev_769)]
noncomputable def zi_339_1 : ZIs := [(26, ev_13), (27, ev_1518), (30, ev_198), (31, ev_18), (32, ev_1158), (35, ev_7), (36, ev_13), (37, ev_1518), (40, ev_198), (41, ev_18), (42, ev_277), (43, ev_229), (46, ev_10), (47, ev_278), (48, ev_294), (49, ev_300)]
noncomputable def zi_339_2 : ZIs := [(52, ev_570), (55, ev_197), (56, ev_98)]
set_option maxRecDepth 100000 in
theorem xi_w339 : zall cX12_barsOf [zi_339_0, zi_339_1, zi_339_2] := zall_w _ _ (by decide +kernel)
noncomputable def xi_339 (pc : Nat) : XIs := cond (Nat.blt pc 26) (zx zi_339_0) (cond (Nat.blt pc 52) (zx zi_339_1) (zx zi_339_2))
theorem xi_ok339 (pc : Nat) : xi_ok cX12_barsOf (xi_339 pc) = true := xi_c (zq1 xi_w339) (xi_c (zq1 (zq2 xi_w339)) (zq1 (zq2 (zq2 xi_w339))))
noncomputable def zi_340_0 : ZIs := [(0, ev_252), (1, ev_294), (2, ev_10), (3, ev_295), (4, ev_10), (5, ev_11), (7, ev_10), (8, ev_25), (10, ev_96), (12, ev_13), (13, ev_1288), (16, ev_1405), (19, ev_13), (20, ev_1519), (23, ev_96), (25, ev_1418)]
noncomputable def zi_340_1 : ZIs := [(28, ev_1520), (31, ev_13), (32, ev_1518), (35, ev_96), (37, ev_18), (38, ev_1521), (41, ev_192), (42, ev_13), (43, ev_96), (45, ev_1522), (48, ev_1515), (51, ev_16), (52, ev_28), (54, ev_13), (55, ev_1506), (58, ev_96)]
noncomputable def zi_340_2 : ZIs := [(60, ev_18), (61, ev_1515), (64, ev_275), (66, ev_197), (67, ev_1170), (70, ev_101), (72, ev_198), (73, ev_1523), (76, ev_101), (78, ev_198), (79, ev_1051), (82, ev_276), (84, ev_12), (86, ev_1524), (89, ev_96), (91, ev_294)]
noncomputable def zi_340_3 : ZIs := [(92, ev_101), (94, ev_295), (95, ev_276), (97, ev_11), (99, ev_343), (102, ev_639), (105, ev_197), (106, ev_98)]
set_option maxRecDepth 100000 in
theorem xi_w340 : zall cX12_tightest [zi_340_0, zi_340_1, zi_340_2, zi_340_3] := zall_w _ _ (by decide +kernel)
noncomputable def xi_340 (pc : Nat) : XIs := cond (Nat.blt pc 60) (cond (Nat.blt pc 28) (zx zi_340_0) (zx zi_340_1)) (cond (Nat.blt pc 92) (zx zi_340_2) (zx zi_340_3))
theorem xi_ok340 (pc : Nat) : xi_ok cX12_tightest (xi_340 pc) = true := xi_c (xi_c (zq1 xi_w340) (zq1 (zq2 xi_w340))) (xi_c (zq1 (zq2 (zq2 xi_w340))) (zq1 (zq2 (zq2 (zq2 xi_w340)))))
noncomputable def zi_341_0 : ZIs := [(0, ev_10), (1, ev_294), (2, ev_10), (3, ev_295), (4, ev_198), (5, ev_13), (6, ev_1288), (9, ev_643), (12, ev_197), (13, ev_13), (14, ev_1518), (17, ev_198), (18, ev_18), (19, ev_950), (22, ev_7), (23, ev_198)]
noncomputable def zi_341_1 : ZIs := [(24, ev_277), (25, ev_229), (28, ev_10), (29, ev_278), (30, ev_294), (31, ev_300), (34, ev_645), (37, ev_7), (38, ev_295), (39, ev_198), (40, ev_1525), (43, ev_10), (44, ev_295), (45, ev_10), (46, ev_11), (48, ev_12)]
noncomputable def zi_341_2 : ZIs := [(50, ev_13), (51, ev_1288), (54, ev_938), (57, ev_197), (58, ev_12), (60, ev_1418), (63, ev_867), (66, ev_192), (67, ev_13), (68, ev_12), (70, ev_1522), (73, ev_1515), (76, ev_16), (77, ev_13), (78, ev_1506), (81, ev_12)]
noncomputable def zi_341_3 : ZIs := [(83, ev_18), (84, ev_197), (85, ev_20), (86, ev_1515), (89, ev_1526), (92, ev_197), (93, ev_7), (94, ev_12), (96, ev_277), (97, ev_252), (98, ev_317), (99, ev_20), (100, ev_294), (101, ev_7), (102, ev_295), (103, ev_348)]
noncomputable def zi_341_4 : ZIs := [(106, ev_357), (109, ev_1035), (112, ev_197), (113, ev_98)]
set_option maxRecDepth 100000 in
theorem xi_w341 : zall cX12_tough [zi_341_0, zi_341_1, zi_341_2, zi_341_3, zi_341_4] := zall_w _ _ (by decide +kernel)
noncomputable def xi_341 (pc : Nat) : XIs := cond (Nat.blt pc 50) (cond (Nat.blt pc 24) (zx zi_341_0) (zx zi_341_1)) (cond (Nat.blt pc 83) (zx zi_341_2) (cond (Nat.blt pc 106) (zx zi_341_3) (zx zi_341_4)))
theorem xi_ok341 (pc : Nat) : xi_ok cX12_tough (xi_341 pc) = true := xi_c (xi_c (zq1 xi_w341) (zq1 (zq2 xi_w341))) (xi_c (zq1 (zq2 (zq2 xi_w341))) (xi_c (zq1 (zq2 (zq2 (zq2 xi_w341)))) (zq1 (zq2 (zq2 (zq2 (zq2 xi_w341)))))))
noncomputable def zi_342_0 : ZIs := [(0, ev_7), (1, ev_192), (2, ev_277), (3, ev_295), (4, ev_10), (5, ev_11), (7, ev_198), (8, ev_12), (10, ev_1527), (13, ev_198), (14, ev_11), (16, ev_10), (17, ev_25), (19, ev_96), (21, ev_13), (22, ev_1288)]
noncomputable def zi_342_1 : ZIs := [(25, ev_297), (28, ev_198), (29, ev_12), (31, ev_96), (33, ev_1418), (36, ev_771), (39, ev_13), (40, ev_1506), (43, ev_96), (45, ev_18), (46, ev_197), (47, ev_20), (48, ev_229), (51, ev_10), (52, ev_278), (53, ev_295)]
noncomputable def zi_342_2 : ZIs := [(54, ev_343), (57, ev_583), (60, ev_1528), (63, ev_198), (64, ev_98)]
set_option maxRecDepth 100000 in
theorem xi_w342 : zall cX12_hanging [zi_342_0, zi_342_1, zi_342_2] := zall_w _ _ (by decide +kernel)
noncomputable def xi_342 (pc : Nat) : XIs := cond (Nat.blt pc 25) (zx zi_342_0) (cond (Nat.blt pc 54) (zx zi_342_1) (zx zi_342_2))
theorem xi_ok342 (pc : Nat) : xi_ok cX12_hanging (xi_342 pc) = true := xi_c (zq1 xi_w342) (xi_c (zq1 (zq2 xi_w342)) (zq1 (zq2 (zq2 xi_w342))))
noncomputable def zi_343_0 : ZIs := [(0, ev_10), (1, ev_294), (2, ev_10), (3, ev_295), (4, ev_198), (5, ev_13), (6, ev_1288), (9, ev_1529), (12, ev_13), (13, ev_1518), (16, ev_198), (17, ev_13), (18, ev_1530), (21, ev_198), (22, ev_18), (23, ev_299)]
noncomputable def zi_343_1 : ZIs := [(24, ev_13), (25, ev_1530), (28, ev_198), (29, ev_18), (30, ev_197), (31, ev_601), (34, ev_13), (35, ev_1530), (38, ev_198), (39, ev_18), (40, ev_7), (41, ev_22), (42, ev_229), (45, ev_197), (46, ev_294), (47, ev_300)]
noncomputable def zi_343_2 : ZIs := [(50, ev_1531), (53, ev_13), (54, ev_192), (55, ev_1532), (58, ev_295), (59, ev_7), (60, ev_11), (62, ev_12), (64, ev_1525), (67, ev_198), (68, ev_1533), (71, ev_13), (72, ev_13), (73, ev_198), (74, ev_1490), (77, ev_198)]
noncomputable def zi_343_3 : ZIs := [(78, ev_1534), (81, ev_1535), (84, ev_198), (85, ev_13), (86, ev_1519), (89, ev_252), (90, ev_317), (91, ev_20), (92, ev_295), (93, ev_13), (94, ev_192), (95, ev_197), (96, ev_1536), (99, ev_11), (101, ev_10), (102, ev_25)]
noncomputable def zi_343_4 : ZIs := [(104, ev_96), (106, ev_13), (107, ev_1288), (110, ev_346), (113, ev_13), (114, ev_1518), (117, ev_96), (119, ev_13), (120, ev_1530), (123, ev_96), (125, ev_18), (126, ev_299), (127, ev_343), (130, ev_562), (133, ev_1471), (136, ev_12)]
noncomputable def zi_343_5 : ZIs := [(138, ev_98)]
set_option maxRecDepth 100000 in
theorem xi_w343 : zall cX12_isColourable [zi_343_0, zi_343_1, zi_343_2, zi_343_3, zi_343_4, zi_343_5] := zall_w _ _ (by decide +kernel)
noncomputable def xi_343 (pc : Nat) : XIs := cond (Nat.blt pc 78) (cond (Nat.blt pc 24) (zx zi_343_0) (cond (Nat.blt pc 50) (zx zi_343_1) (zx zi_343_2))) (cond (Nat.blt pc 104) (zx zi_343_3) (cond (Nat.blt pc 138) (zx zi_343_4) (zx zi_343_5)))
theorem xi_ok343 (pc : Nat) : xi_ok cX12_isColourable (xi_343 pc) = true := xi_c (xi_c (zq1 xi_w343) (xi_c (zq1 (zq2 xi_w343)) (zq1 (zq2 (zq2 xi_w343))))) (xi_c (zq1 (zq2 (zq2 (zq2 xi_w343)))) (xi_c (zq1 (zq2 (zq2 (zq2 (zq2 xi_w343))))) (zq1 (zq2 (zq2 (zq2 (zq2 (zq2 xi_w343))))))))
noncomputable def zi_344_0 : ZIs := [(0, ev_12), (2, ev_176), (4, ev_818), (7, ev_252), (8, ev_195), (11, ev_7), (12, ev_12), (14, ev_277), (15, ev_7), (16, ev_16), (17, ev_25), (19, ev_13), (20, ev_1537), (23, ev_192), (24, ev_197), (25, ev_299)]
noncomputable def zi_344_1 : ZIs := [(26, ev_13), (27, ev_1538), (30, ev_192), (31, ev_198), (32, ev_299), (33, ev_13), (34, ev_1539), (37, ev_192), (38, ev_96), (40, ev_13), (41, ev_197), (42, ev_1522), (45, ev_252), (46, ev_317), (47, ev_20), (48, ev_198)]
noncomputable def zi_344_2 : ZIs := [(49, ev_12), (51, ev_1540), (54, ev_20), (55, ev_299), (56, ev_10), (57, ev_28), (59, ev_10), (60, ev_275), (62, ev_276), (64, ev_192), (65, ev_346), (68, ev_101), (70, ev_7), (71, ev_13), (72, ev_1537), (75, ev_276)]
noncomputable def zi_344_3 : ZIs := [(77, ev_18), (78, ev_277), (79, ev_278), (80, ev_28), (82, ev_955), (85, ev_711), (88, ev_13), (89, ev_1541), (92, ev_192), (93, ev_198), (94, ev_7), (95, ev_22), (96, ev_12), (98, ev_860), (101, ev_101), (103, ev_1119)]
noncomputable def zi_344_4 : ZIs := [(106, ev_101), (108, ev_13), (109, ev_1506), (112, ev_197), (113, ev_18), (114, ev_20), (115, ev_299), (116, ev_260)]
set_option maxRecDepth 100000 in
theorem xi_w344 : zall cX12_begin [zi_344_0, zi_344_1, zi_344_2, zi_344_3, zi_344_4] := zall_w _ _ (by decide +kernel)
noncomputable def xi_344 (pc : Nat) : XIs := cond (Nat.blt pc 49) (cond (Nat.blt pc 26) (zx zi_344_0) (zx zi_344_1)) (cond (Nat.blt pc 77) (zx zi_344_2) (cond (Nat.blt pc 106) (zx zi_344_3) (zx zi_344_4)))
theorem xi_ok344 (pc : Nat) : xi_ok cX12_begin (xi_344 pc) = true := xi_c (xi_c (zq1 xi_w344) (zq1 (zq2 xi_w344))) (xi_c (zq1 (zq2 (zq2 xi_w344))) (xi_c (zq1 (zq2 (zq2 (zq2 xi_w344)))) (zq1 (zq2 (zq2 (zq2 (zq2 xi_w344)))))))
noncomputable def zi_345_0 : ZIs := [(0, ev_10), (1, ev_295), (2, ev_13), (3, ev_10), (4, ev_13), (5, ev_192), (6, ev_1542), (9, ev_197), (10, ev_192), (11, ev_1543), (14, ev_198), (15, ev_1544), (18, ev_13), (19, ev_1537), (22, ev_198), (23, ev_18)]
noncomputable def zi_345_1 : ZIs := [(24, ev_11), (26, ev_13), (27, ev_1518), (30, ev_12), (32, ev_252), (33, ev_299), (34, ev_13), (35, ev_1539), (38, ev_198), (39, ev_18), (40, ev_1545), (43, ev_13), (44, ev_1541), (47, ev_198), (48, ev_18), (49, ev_25)]
noncomputable def zi_345_2 : ZIs := [(51, ev_478), (54, ev_198), (55, ev_1546), (58, ev_96), (60, ev_13), (61, ev_1537), (64, ev_198), (65, ev_18), (66, ev_1418), (69, ev_1369), (72, ev_13), (73, ev_1518), (76, ev_13), (77, ev_1537), (80, ev_198), (81, ev_18)]
noncomputable def zi_345_3 : ZIs := [(82, ev_252), (83, ev_299), (84, ev_478), (87, ev_861), (90, ev_198), (91, ev_682), (94, ev_13), (95, ev_1541), (98, ev_198), (99, ev_316), (100, ev_18), (101, ev_96), (103, ev_7), (104, ev_13), (105, ev_1537), (108, ev_198)]
noncomputable def zi_345_4 : ZIs := [(109, ev_18), (110, ev_277), (111, ev_252), (112, ev_317), (113, ev_20), (114, ev_278), (115, ev_299), (116, ev_1547), (119, ev_13), (120, ev_1539), (123, ev_198), (124, ev_18), (125, ev_1490), (128, ev_25), (130, ev_13), (131, ev_1539)]
noncomputable def zi_345_5 : ZIs := [(134, ev_198), (135, ev_316), (136, ev_18), (137, ev_7), (138, ev_96), (140, ev_277), (141, ev_252), (142, ev_317), (143, ev_20), (144, ev_299), (145, ev_13), (146, ev_1518), (149, ev_12), (151, ev_96), (153, ev_299), (154, ev_13)]
noncomputable def zi_345_6 : ZIs := [(155, ev_192), (156, ev_1542), (159, ev_28), (161, ev_101), (163, ev_1548), (166, ev_7), (167, ev_98), (168, ev_300), (171, ev_13), (172, ev_198), (173, ev_101), (175, ev_96), (177, ev_13), (178, ev_1538), (181, ev_198), (182, ev_7)]
noncomputable def zi_345_7 : ZIs := [(183, ev_16), (184, ev_18), (185, ev_1549), (188, ev_96), (190, ev_7), (191, ev_22), (192, ev_200), (195, ev_13), (196, ev_1538), (199, ev_198), (200, ev_7), (201, ev_16), (202, ev_18), (203, ev_192), (204, ev_1543), (207, ev_1550)]
noncomputable def zi_345_8 : ZIs := [(210, ev_10), (211, ev_98)]
set_option maxRecDepth 100000 in
theorem xi_w345 : zall cX12_isPartColourable [zi_345_0, zi_345_1, zi_345_2, zi_345_3, zi_345_4, zi_345_5, zi_345_6, zi_345_7, zi_345_8] := zall_w _ _ (by decide +kernel)
noncomputable def xi_345 (pc : Nat) : XIs := cond (Nat.blt pc 109) (cond (Nat.blt pc 51) (cond (Nat.blt pc 24) (zx zi_345_0) (zx zi_345_1)) (cond (Nat.blt pc 82) (zx zi_345_2) (zx zi_345_3))) (cond (Nat.blt pc 155) (cond (Nat.blt pc 134) (zx zi_345_4) (zx zi_345_5)) (cond (Nat.blt pc 183) (zx zi_345_6) (cond (Nat.blt pc 210) (zx zi_345_7) (zx zi_345_8))))
theorem xi_ok345 (pc : Nat) : xi_ok cX12_isPartColourable (xi_345 pc) = true := xi_c (xi_c (xi_c (zq1 xi_w345) (zq1 (zq2 xi_w345))) (xi_c (zq1 (zq2 (zq2 xi_w345))) (zq1 (zq2 (zq2 (zq2 xi_w345)))))) (xi_c (xi_c (zq1 (zq2 (zq2 (zq2 (zq2 xi_w345))))) (zq1 (zq2 (zq2 (zq2 (zq2 (zq2 xi_w345))))))) (xi_c (zq1 (zq2 (zq2 (zq2 (zq2 (zq2 (zq2 xi_w345))))))) (xi_c (zq1 (zq2 (zq2 (zq2 (zq2 (zq2 (zq2 (zq2 xi_w345)))))))) (zq1 (zq2 (zq2 (zq2 (zq2 (zq2 (zq2 (zq2 (zq2 xi_w345))))))))))))
noncomputable def zi_346_0 : ZIs := [(0, ev_482), (1, ev_7), (2, ev_22), (3, ev_192), (4, ev_472), (7, ev_482), (8, ev_7), (9, ev_22), (10, ev_229), (13, ev_192), (14, ev_294), (15, ev_197), (16, ev_176), (18, ev_613), (21, ev_252), (22, ev_986)]
noncomputable def zi_346_1 : ZIs := [(25, ev_7), (26, ev_197), (27, ev_277), (28, ev_7), (29, ev_16), (30, ev_98)]
set_option maxRecDepth 100000 in
theorem xi_w346 : zall cX12_capped [zi_346_0, zi_346_1] := zall_w _ _ (by decide +kernel)
noncomputable def xi_346 (pc : Nat) : XIs := cond (Nat.blt pc 25) (zx zi_346_0) (zx zi_346_1)
theorem xi_ok346 (pc : Nat) : xi_ok cX12_capped (xi_346 pc) = true := xi_c (zq1 xi_w346) (zq1 (zq2 xi_w346))
noncomputable def zi_347_0 : ZIs := [(0, ev_13), (1, ev_13), (2, ev_192), (3, ev_1335), (6, ev_1175), (9, ev_104), (12, ev_10), (13, ev_98), (14, ev_13), (15, ev_1517), (18, ev_1515), (21, ev_294), (22, ev_10), (23, ev_295), (24, ev_198), (25, ev_13)]
noncomputable def zi_347_1 : ZIs := [(26, ev_1288), (29, ev_1114), (32, ev_13), (33, ev_1530), (36, ev_198), (37, ev_252), (38, ev_299), (39, ev_300), (42, ev_1476), (45, ev_13), (46, ev_197), (47, ev_1551), (50, ev_992), (53, ev_304), (56, ev_1489), (59, ev_10)]
noncomputable def zi_347_2 : ZIs := [(60, ev_295), (61, ev_198), (62, ev_192), (63, ev_1552), (66, ev_252), (67, ev_11), (69, ev_10), (70, ev_25), (72, ev_96), (74, ev_1553), (77, ev_348), (80, ev_13), (81, ev_1530), (84, ev_198), (85, ev_252), (86, ev_299)]
noncomputable def zi_347_3 : ZIs := [(87, ev_10), (88, ev_28), (90, ev_101), (92, ev_13), (93, ev_1288), (96, ev_346), (99, ev_13), (100, ev_1518), (103, ev_101), (105, ev_13), (106, ev_1530), (109, ev_101), (111, ev_18), (112, ev_299), (113, ev_320), (116, ev_562)]
noncomputable def zi_347_4 : ZIs := [(119, ev_13), (120, ev_198), (121, ev_1522), (124, ev_12), (126, ev_1418), (129, ev_1554), (132, ev_13), (133, ev_1530), (136, ev_198), (137, ev_12), (139, ev_299), (140, ev_13), (141, ev_197), (142, ev_1551), (145, ev_25), (147, ev_844)]
noncomputable def zi_347_5 : ZIs := [(150, ev_300), (153, ev_639), (156, ev_13), (157, ev_1530), (160, ev_192), (161, ev_18), (162, ev_98)]
set_option maxRecDepth 100000 in
theorem xi_w347 : zall cX12_colour [zi_347_0, zi_347_1, zi_347_2, zi_347_3, zi_347_4, zi_347_5] := zall_w _ _ (by decide +kernel)
noncomputable def xi_347 (pc : Nat) : XIs := cond (Nat.blt pc 87) (cond (Nat.blt pc 26) (zx zi_347_0) (cond (Nat.blt pc 60) (zx zi_347_1) (zx zi_347_2))) (cond (Nat.blt pc 119) (zx zi_347_3) (cond (Nat.blt pc 150) (zx zi_347_4) (zx zi_347_5)))
theorem xi_ok347 (pc : Nat) : xi_ok cX12_colour (xi_347 pc) = true := xi_c (xi_c (zq1 xi_w347) (xi_c (zq1 (zq2 xi_w347)) (zq1 (zq2 (zq2 xi_w347))))) (xi_c (zq1 (zq2 (zq2 (zq2 xi_w347)))) (xi_c (zq1 (zq2 (zq2 (zq2 (zq2 xi_w347))))) (zq1 (zq2 (zq2 (zq2 (zq2 (zq2 xi_w347))))))))
noncomputable def zi_348_0 : ZIs := [(0, ev_10), (1, ev_294), (2, ev_197), (3, ev_13), (4, ev_1288), (7, ev_1114), (10, ev_13), (11, ev_738), (14, ev_197), (15, ev_252), (16, ev_299), (17, ev_304), (20, ev_1476), (23, ev_13), (24, ev_738), (27, ev_192)]
noncomputable def zi_348_1 : ZIs := [(28, ev_803), (31, ev_299), (32, ev_10), (33, ev_294), (34, ev_7), (35, ev_295), (36, ev_13), (37, ev_961), (40, ev_10), (41, ev_192), (42, ev_299), (43, ev_197), (44, ev_198), (45, ev_1555), (48, ev_13), (49, ev_961)]
noncomputable def zi_348_2 : ZIs := [(52, ev_197), (53, ev_18), (54, ev_11), (56, ev_304), (59, ev_10), (60, ev_25), (62, ev_96), (64, ev_529), (67, ev_1426), (70, ev_13), (71, ev_1291), (74, ev_96), (76, ev_22), (77, ev_28), (79, ev_13), (80, ev_1290)]
noncomputable def zi_348_3 : ZIs := [(83, ev_101), (85, ev_1292), (86, ev_309), (89, ev_13), (90, ev_1302), (93, ev_101), (95, ev_18), (96, ev_12), (98, ev_1556), (101, ev_13), (102, ev_738), (105, ev_13), (106, ev_1038), (109, ev_101), (111, ev_18), (112, ev_18)]
noncomputable def zi_348_4 : ZIs := [(113, ev_1557), (116, ev_13), (117, ev_1558), (120, ev_96), (122, ev_100), (123, ev_13), (124, ev_465), (127, ev_101), (129, ev_18), (130, ev_102), (131, ev_103), (132, ev_627), (135, ev_13), (136, ev_738), (139, ev_13), (140, ev_1038)]
noncomputable def zi_348_5 : ZIs := [(143, ev_101), (145, ev_18), (146, ev_96), (148, ev_299), (149, ev_13), (150, ev_961), (153, ev_198), (154, ev_13), (155, ev_1038), (158, ev_101), (160, ev_18), (161, ev_299), (162, ev_300), (165, ev_1559), (168, ev_13), (169, ev_1290)]
noncomputable def zi_348_6 : ZIs := [(172, ev_101), (174, ev_1292), (175, ev_1504), (178, ev_13), (179, ev_1038), (182, ev_101), (184, ev_18), (185, ev_12), (187, ev_1560), (190, ev_13), (191, ev_738), (194, ev_13), (195, ev_1302), (198, ev_101), (200, ev_18), (201, ev_18)]
noncomputable def zi_348_7 : ZIs := [(202, ev_1561), (205, ev_13), (206, ev_1558), (209, ev_96), (211, ev_100), (212, ev_230), (213, ev_103), (214, ev_1562), (217, ev_13), (218, ev_738), (221, ev_13), (222, ev_1302), (225, ev_101), (227, ev_18), (228, ev_1183), (231, ev_96)]
noncomputable def zi_348_8 : ZIs := [(233, ev_22), (234, ev_299), (235, ev_13), (236, ev_961), (239, ev_198), (240, ev_13), (241, ev_1302), (244, ev_101), (246, ev_18), (247, ev_299), (248, ev_300), (251, ev_343), (254, ev_1432), (257, ev_1563), (260, ev_260)]
set_option maxRecDepth 100000 in
theorem xi_w348 : zall cX12_search [zi_348_0, zi_348_1, zi_348_2, zi_348_3, zi_348_4, zi_348_5, zi_348_6, zi_348_7, zi_348_8] := zall_w _ _ (by decide +kernel)
noncomputable def xi_348 (pc : Nat) : XIs := cond (Nat.blt pc 113) (cond (Nat.blt pc 52) (cond (Nat.blt pc 28) (zx zi_348_0) (zx zi_348_1)) (cond (Nat.blt pc 83) (zx zi_348_2) (zx zi_348_3))) (cond (Nat.blt pc 172) (cond (Nat.blt pc 143) (zx zi_348_4) (zx zi_348_5)) (cond (Nat.blt pc 202) (zx zi_348_6) (cond (Nat.blt pc 233) (zx zi_348_7) (zx zi_348_8))))
theorem xi_ok348 (pc : Nat) : xi_ok cX12_search (xi_348 pc) = true := xi_c (xi_c (xi_c (zq1 xi_w348) (zq1 (zq2 xi_w348))) (xi_c (zq1 (zq2 (zq2 xi_w348))) (zq1 (zq2 (zq2 (zq2 xi_w348)))))) (xi_c (xi_c (zq1 (zq2 (zq2 (zq2 (zq2 xi_w348))))) (zq1 (zq2 (zq2 (zq2 (zq2 (zq2 xi_w348))))))) (xi_c (zq1 (zq2 (zq2 (zq2 (zq2 (zq2 (zq2 xi_w348))))))) (xi_c (zq1 (zq2 (zq2 (zq2 (zq2 (zq2 (zq2 (zq2 xi_w348)))))))) (zq1 (zq2 (zq2 (zq2 (zq2 (zq2 (zq2 (zq2 (zq2 xi_w348))))))))))))
noncomputable def zi_349_0 : ZIs := [(0, ev_13), (1, ev_738), (4, ev_192), (5, ev_18), (6, ev_294), (7, ev_197), (8, ev_1183), (11, ev_1106), (14, ev_13), (15, ev_1038), (18, ev_13), (19, ev_1291), (22, ev_197), (23, ev_22), (24, ev_1183), (27, ev_16)]
noncomputable def zi_349_1 : ZIs := [(28, ev_18), (29, ev_1176), (32, ev_13), (33, ev_1302), (36, ev_13), (37, ev_1291), (40, ev_197), (41, ev_22), (42, ev_18), (43, ev_98)]
set_option maxRecDepth 100000 in
theorem xi_w349 : zall cX12_before [zi_349_0, zi_349_1] := zall_w _ _ (by decide +kernel)
noncomputable def xi_349 (pc : Nat) : XIs := cond (Nat.blt pc 28) (zx zi_349_0) (zx zi_349_1)
theorem xi_ok349 (pc : Nat) : xi_ok cX12_before (xi_349 pc) = true := xi_c (zq1 xi_w349) (zq1 (zq2 xi_w349))
noncomputable def zi_350_0 : ZIs := [(0, ev_13), (1, ev_738), (4, ev_192), (5, ev_18), (6, ev_294), (7, ev_197), (8, ev_1183), (11, ev_1523), (14, ev_13), (15, ev_1558), (18, ev_197), (19, ev_1183), (22, ev_16), (23, ev_100), (24, ev_713), (27, ev_13)]
noncomputable def zi_350_1 : ZIs := [(28, ev_465), (31, ev_13), (32, ev_1291), (35, ev_197), (36, ev_22), (37, ev_18), (38, ev_102), (39, ev_13), (40, ev_1558), (43, ev_197), (44, ev_100), (45, ev_485), (46, ev_481)]
set_option maxRecDepth 100000 in
theorem xi_w350 : zall cX12_roomOn [zi_350_0, zi_350_1] := zall_w _ _ (by decide +kernel)
noncomputable def xi_350 (pc : Nat) : XIs := cond (Nat.blt pc 28) (zx zi_350_0) (zx zi_350_1)
theorem xi_ok350 (pc : Nat) : xi_ok cX12_roomOn (xi_350 pc) = true := xi_c (zq1 xi_w350) (zq1 (zq2 xi_w350))
noncomputable def zi_351_0 : ZIs := [(0, ev_13), (1, ev_738), (4, ev_192), (5, ev_18), (6, ev_11), (8, ev_12), (10, ev_1183), (13, ev_1106), (16, ev_13), (17, ev_1558), (20, ev_12), (22, ev_1183), (25, ev_16), (26, ev_316), (27, ev_100), (28, ev_489)]
noncomputable def zi_351_1 : ZIs := [(29, ev_485), (30, ev_194), (31, ev_1176), (34, ev_13), (35, ev_1558), (38, ev_12), (40, ev_316), (41, ev_100), (42, ev_489), (43, ev_457), (44, ev_194), (45, ev_260)]
set_option maxRecDepth 100000 in
theorem xi_w351 : zall cX12_push [zi_351_0, zi_351_1] := zall_w _ _ (by decide +kernel)
noncomputable def xi_351 (pc : Nat) : XIs := cond (Nat.blt pc 29) (zx zi_351_0) (zx zi_351_1)
theorem xi_ok351 (pc : Nat) : xi_ok cX12_push (xi_351 pc) = true := xi_c (zq1 xi_w351) (zq1 (zq2 xi_w351))
noncomputable def zi_352_0 : ZIs := [(0, ev_10), (1, ev_295), (2, ev_198), (3, ev_529), (6, ev_1114), (9, ev_13), (10, ev_1558), (13, ev_198), (14, ev_230), (15, ev_194), (16, ev_300), (19, ev_1509), (22, ev_230), (23, ev_924), (24, ev_13), (25, ev_192)]
noncomputable def zi_352_1 : ZIs := [(26, ev_1564), (29, ev_13), (30, ev_738), (33, ev_197), (34, ev_18), (35, ev_1565), (38, ev_1566), (41, ev_574), (43, ev_197), (44, ev_275), (46, ev_276), (48, ev_192), (49, ev_1411), (52, ev_13), (53, ev_276), (55, ev_1567)]
noncomputable def zi_352_2 : ZIs := [(58, ev_501), (60, ev_103), (61, ev_1568), (64, ev_13), (65, ev_276), (67, ev_1567), (70, ev_638), (73, ev_501), (75, ev_574), (77, ev_13), (78, ev_276), (80, ev_1569), (83, ev_275), (85, ev_719), (88, ev_197), (89, ev_275)]
noncomputable def zi_352_3 : ZIs := [(91, ev_276), (93, ev_192), (94, ev_843), (97, ev_13), (98, ev_276), (100, ev_1569), (103, ev_313), (105, ev_13), (106, ev_276), (108, ev_501), (110, ev_1570), (113, ev_314), (115, ev_275), (117, ev_562), (120, ev_484), (121, ev_501)]
noncomputable def zi_352_4 : ZIs := [(123, ev_457), (124, ev_924), (125, ev_13), (126, ev_192), (127, ev_1564), (130, ev_1571), (133, ev_484), (134, ev_481)]
set_option maxRecDepth 100000 in
theorem xi_w352 : zall cX12_most [zi_352_0, zi_352_1, zi_352_2, zi_352_3, zi_352_4] := zall_w _ _ (by decide +kernel)
noncomputable def xi_352 (pc : Nat) : XIs := cond (Nat.blt pc 58) (cond (Nat.blt pc 26) (zx zi_352_0) (zx zi_352_1)) (cond (Nat.blt pc 91) (zx zi_352_2) (cond (Nat.blt pc 123) (zx zi_352_3) (zx zi_352_4)))
theorem xi_ok352 (pc : Nat) : xi_ok cX12_most (xi_352 pc) = true := xi_c (xi_c (zq1 xi_w352) (zq1 (zq2 xi_w352))) (xi_c (zq1 (zq2 (zq2 xi_w352))) (xi_c (zq1 (zq2 (zq2 (zq2 xi_w352)))) (zq1 (zq2 (zq2 (zq2 (zq2 xi_w352)))))))
noncomputable def zi_353_0 : ZIs := [(0, ev_13), (1, ev_192), (2, ev_1335), (5, ev_680), (8, ev_13), (9, ev_197), (10, ev_1335), (13, ev_649), (16, ev_192), (17, ev_197), (18, ev_681), (21, ev_7), (22, ev_229), (25, ev_10), (26, ev_98)]
set_option maxRecDepth 100000 in
theorem xi_w353 : zall cX12_twoNodes [zi_353_0] := zall_w _ _ (by decide +kernel)
noncomputable def xi_353 (pc : Nat) : XIs := zx zi_353_0
theorem xi_ok353 (pc : Nat) : xi_ok cX12_twoNodes (xi_353 pc) = true := zq1 xi_w353
noncomputable def zi_354_0 : ZIs := [(0, ev_13), (1, ev_13), (2, ev_192), (3, ev_197), (4, ev_1572), (7, ev_1175), (10, ev_227), (13, ev_230), (14, ev_195), (17, ev_13), (18, ev_192), (19, ev_197), (20, ev_1573), (23, ev_481)]
set_option maxRecDepth 100000 in
theorem xi_w354 : zall cX12_flow [zi_354_0] := zall_w _ _ (by decide +kernel)
noncomputable def xi_354 (pc : Nat) : XIs := zx zi_354_0
theorem xi_ok354 (pc : Nat) : xi_ok cX12_flow (xi_354 pc) = true := zq1 xi_w354
noncomputable def zi_355_0 : ZIs := [(0, ev_13), (1, ev_13), (2, ev_192), (3, ev_197), (4, ev_1572), (7, ev_771), (10, ev_13), (11, ev_198), (12, ev_1335), (15, ev_227), (18, ev_7), (19, ev_229), (22, ev_10), (23, ev_1175), (26, ev_104), (29, ev_10)]
noncomputable def zi_355_1 : ZIs := [(30, ev_98), (31, ev_13), (32, ev_192), (33, ev_197), (34, ev_1573), (37, ev_442), (39, ev_13), (40, ev_738), (43, ev_198), (44, ev_18), (45, ev_831), (48, ev_7), (49, ev_229), (52, ev_10), (53, ev_98)]
set_option maxRecDepth 100000 in
theorem xi_w355 : zall cX12_side [zi_355_0, zi_355_1] := zall_w _ _ (by decide +kernel)
noncomputable def xi_355 (pc : Nat) : XIs := cond (Nat.blt pc 30) (zx zi_355_0) (zx zi_355_1)
theorem xi_ok355 (pc : Nat) : xi_ok cX12_side (xi_355 pc) = true := xi_c (zq1 xi_w355) (zq1 (zq2 xi_w355))
noncomputable def zi_356_0 : ZIs := [(0, ev_10), (1, ev_294), (2, ev_197), (3, ev_13), (4, ev_1288), (7, ev_943), (10, ev_13), (11, ev_1574), (14, ev_197), (15, ev_1333), (18, ev_194), (19, ev_13), (20, ev_738), (23, ev_197), (24, ev_252), (25, ev_299)]
noncomputable def zi_356_1 : ZIs := [(26, ev_304), (29, ev_360), (32, ev_13), (33, ev_1574), (36, ev_192), (37, ev_230), (38, ev_194), (39, ev_13), (40, ev_738), (43, ev_192), (44, ev_803), (47, ev_299), (48, ev_7), (49, ev_294), (50, ev_197), (51, ev_1575)]
noncomputable def zi_356_2 : ZIs := [(54, ev_10), (55, ev_294), (56, ev_10), (57, ev_295), (58, ev_198), (59, ev_529), (62, ev_1576), (65, ev_13), (66, ev_1291), (69, ev_198), (70, ev_22), (71, ev_11), (73, ev_13), (74, ev_1290), (77, ev_12), (79, ev_1292)]
noncomputable def zi_356_3 : ZIs := [(80, ev_1577), (83, ev_13), (84, ev_1558), (87, ev_198), (88, ev_100), (89, ev_13), (90, ev_465), (93, ev_12), (95, ev_18), (96, ev_102), (97, ev_103), (98, ev_1578), (101, ev_13), (102, ev_1574), (105, ev_13), (106, ev_1302)]
noncomputable def zi_356_4 : ZIs := [(109, ev_12), (111, ev_18), (112, ev_100), (113, ev_1333), (116, ev_103), (117, ev_1579), (120, ev_13), (121, ev_1574), (124, ev_13), (125, ev_1302), (128, ev_12), (130, ev_18), (131, ev_100), (132, ev_13), (133, ev_1039), (136, ev_12)]
noncomputable def zi_356_5 : ZIs := [(138, ev_18), (139, ev_102), (140, ev_457), (141, ev_13), (142, ev_1574), (145, ev_13), (146, ev_1038), (149, ev_12), (151, ev_18), (152, ev_100), (153, ev_103), (154, ev_1580), (157, ev_13), (158, ev_1574), (161, ev_13), (162, ev_1038)]
noncomputable def zi_356_6 : ZIs := [(165, ev_12), (167, ev_18), (168, ev_13), (169, ev_1574), (172, ev_13), (173, ev_1302), (176, ev_12), (178, ev_18), (179, ev_100), (180, ev_13), (181, ev_1039), (184, ev_12), (186, ev_18), (187, ev_102), (188, ev_457), (189, ev_194)]
noncomputable def zi_356_7 : ZIs := [(190, ev_13), (191, ev_738), (194, ev_13), (195, ev_1038), (198, ev_12), (200, ev_18), (201, ev_198), (202, ev_299), (203, ev_7), (204, ev_294), (205, ev_13), (206, ev_1558), (209, ev_198), (210, ev_100), (211, ev_230), (212, ev_103)]
noncomputable def zi_356_8 : ZIs := [(213, ev_1581), (216, ev_13), (217, ev_1574), (220, ev_13), (221, ev_1038), (224, ev_12), (226, ev_18), (227, ev_100), (228, ev_1333), (231, ev_103), (232, ev_1582), (235, ev_13), (236, ev_1574), (239, ev_13), (240, ev_1038), (243, ev_12)]
noncomputable def zi_356_9 : ZIs := [(245, ev_18), (246, ev_100), (247, ev_13), (248, ev_1039), (251, ev_12), (253, ev_18), (254, ev_102), (255, ev_485), (256, ev_13), (257, ev_1574), (260, ev_13), (261, ev_1302), (264, ev_12), (266, ev_18), (267, ev_100), (268, ev_103)]
noncomputable def zi_356_10 : ZIs := [(269, ev_1557), (272, ev_13), (273, ev_1574), (276, ev_13), (277, ev_1302), (280, ev_12), (282, ev_18), (283, ev_13), (284, ev_1574), (287, ev_13), (288, ev_1038), (291, ev_12), (293, ev_18), (294, ev_100), (295, ev_13), (296, ev_1039)]
noncomputable def zi_356_11 : ZIs := [(299, ev_12), (301, ev_18), (302, ev_102), (303, ev_485), (304, ev_194), (305, ev_13), (306, ev_738), (309, ev_13), (310, ev_1302), (313, ev_12), (315, ev_18), (316, ev_1183), (319, ev_198), (320, ev_22), (321, ev_299), (322, ev_7)]
noncomputable def zi_356_12 : ZIs := [(323, ev_294), (324, ev_300), (327, ev_1583), (330, ev_1584), (333, ev_260)]
set_option maxRecDepth 100000 in
theorem xi_w356 : zall cX12_cheapest [zi_356_0, zi_356_1, zi_356_2, zi_356_3, zi_356_4, zi_356_5, zi_356_6, zi_356_7, zi_356_8, zi_356_9, zi_356_10, zi_356_11, zi_356_12] := zall_w _ _ (by decide +kernel)
noncomputable def xi_356 (pc : Nat) : XIs := cond (Nat.blt pc 165) (cond (Nat.blt pc 80) (cond (Nat.blt pc 26) (zx zi_356_0) (cond (Nat.blt pc 54) (zx zi_356_1) (zx zi_356_2))) (cond (Nat.blt pc 109) (zx zi_356_3) (cond (Nat.blt pc 138) (zx zi_356_4) (zx zi_356_5)))) (cond (Nat.blt pc 245) (cond (Nat.blt pc 190) (zx zi_356_6) (cond (Nat.blt pc 213) (zx zi_356_7) (zx zi_356_8))) (cond (Nat.blt pc 299) (cond (Nat.blt pc 269) (zx zi_356_9) (zx zi_356_10)) (cond (Nat.blt pc 323) (zx zi_356_11) (zx zi_356_12))))
theorem xi_ok356 (pc : Nat) : xi_ok cX12_cheapest (xi_356 pc) = true := xi_c (xi_c (xi_c (zq1 xi_w356) (xi_c (zq1 (zq2 xi_w356)) (zq1 (zq2 (zq2 xi_w356))))) (xi_c (zq1 (zq2 (zq2 (zq2 xi_w356)))) (xi_c (zq1 (zq2 (zq2 (zq2 (zq2 xi_w356))))) (zq1 (zq2 (zq2 (zq2 (zq2 (zq2 xi_w356))))))))) (xi_c (xi_c (zq1 (zq2 (zq2 (zq2 (zq2 (zq2 (zq2 xi_w356))))))) (xi_c (zq1 (zq2 (zq2 (zq2 (zq2 (zq2 (zq2 (zq2 xi_w356)))))))) (zq1 (zq2 (zq2 (zq2 (zq2 (zq2 (zq2 (zq2 (zq2 xi_w356))))))))))) (xi_c (xi_c (zq1 (zq2 (zq2 (zq2 (zq2 (zq2 (zq2 (zq2 (zq2 (zq2 xi_w356)))))))))) (zq1 (zq2 (zq2 (zq2 (zq2 (zq2 (zq2 (zq2 (zq2 (zq2 (zq2 xi_w356)))))))))))) (xi_c (zq1 (zq2 (zq2 (zq2 (zq2 (zq2 (zq2 (zq2 (zq2 (zq2 (zq2 (zq2 xi_w356)))))))))))) (zq1 (zq2 (zq2 (zq2 (zq2 (zq2 (zq2 (zq2 (zq2 (zq2 (zq2 (zq2 (zq2 xi_w356))))))))))))))))
noncomputable def zi_357_0 : ZIs := [(0, ev_13), (1, ev_13), (2, ev_192), (3, ev_197), (4, ev_1572), (7, ev_488), (10, ev_198), (11, ev_102), (12, ev_230), (13, ev_1585), (16, ev_1316), (19, ev_227), (22, ev_7), (23, ev_229), (26, ev_10), (27, ev_1175)]
noncomputable def zi_357_1 : ZIs := [(30, ev_104), (33, ev_230), (34, ev_481), (35, ev_10), (36, ev_11), (38, ev_12), (40, ev_13), (41, ev_1288), (44, ev_1586), (47, ev_13), (48, ev_584), (51, ev_12), (53, ev_12), (55, ev_192), (56, ev_540), (59, ev_198)]
noncomputable def zi_357_2 : ZIs := [(60, ev_102), (61, ev_759), (64, ev_12), (66, ev_197), (67, ev_410), (70, ev_198), (71, ev_310), (72, ev_102), (73, ev_229), (76, ev_230), (77, ev_194), (78, ev_348), (81, ev_408), (84, ev_10), (85, ev_11), (87, ev_12)]
noncomputable def zi_357_3 : ZIs := [(89, ev_529), (92, ev_1587), (95, ev_13), (96, ev_1291), (99, ev_12), (101, ev_22), (102, ev_25), (104, ev_13), (105, ev_1558), (108, ev_12), (110, ev_13), (111, ev_1290), (114, ev_96), (116, ev_1292), (117, ev_1434), (120, ev_13)]
noncomputable def zi_357_4 : ZIs := [(121, ev_1039), (124, ev_96), (126, ev_18), (127, ev_1588), (130, ev_13), (131, ev_465), (134, ev_96), (136, ev_18), (137, ev_102), (138, ev_229), (141, ev_230), (142, ev_194), (143, ev_13), (144, ev_1290), (147, ev_96), (149, ev_1292)]
noncomputable def zi_357_5 : ZIs := [(150, ev_982), (153, ev_13), (154, ev_584), (157, ev_13), (158, ev_1302), (161, ev_96), (163, ev_18), (164, ev_316), (165, ev_100), (166, ev_13), (167, ev_1558), (170, ev_12), (172, ev_100), (173, ev_485), (174, ev_194), (175, ev_13)]
noncomputable def zi_357_6 : ZIs := [(176, ev_584), (179, ev_13), (180, ev_1038), (183, ev_96), (185, ev_18), (186, ev_316), (187, ev_100), (188, ev_13), (189, ev_1558), (192, ev_12), (194, ev_100), (195, ev_457), (196, ev_194), (197, ev_348), (200, ev_1589), (203, ev_7)]
noncomputable def zi_357_7 : ZIs := [(204, ev_11), (206, ev_10), (207, ev_25), (209, ev_96), (211, ev_13), (212, ev_1288), (215, ev_511), (218, ev_12), (220, ev_1070), (223, ev_13), (224, ev_584), (227, ev_96), (229, ev_100), (230, ev_230), (231, ev_103), (232, ev_746)]
noncomputable def zi_357_8 : ZIs := [(235, ev_12), (237, ev_1004), (240, ev_13), (241, ev_96), (243, ev_1590), (246, ev_11), (248, ev_319), (251, ev_343), (254, ev_730), (257, ev_230), (258, ev_574), (260, ev_10), (261, ev_275), (263, ev_276), (265, ev_529), (268, ev_1591)]
noncomputable def zi_357_9 : ZIs := [(271, ev_501), (273, ev_13), (274, ev_1290), (277, ev_13), (278, ev_1291), (281, ev_276), (283, ev_22), (284, ev_1292), (285, ev_561), (288, ev_13), (289, ev_1558), (292, ev_276), (294, ev_100), (295, ev_13), (296, ev_1039), (299, ev_13)]
noncomputable def zi_357_10 : ZIs := [(300, ev_1291), (303, ev_276), (305, ev_22), (306, ev_18), (307, ev_102), (308, ev_492), (309, ev_229), (312, ev_230), (313, ev_457), (314, ev_574), (316, ev_955), (319, ev_503), (322, ev_12), (324, ev_330), (327, ev_501), (329, ev_209)]
noncomputable def zi_357_11 : ZIs := [(332, ev_1333), (335, ev_481)]
set_option maxRecDepth 100000 in
theorem xi_w357 : zall cX12_cost [zi_357_0, zi_357_1, zi_357_2, zi_357_3, zi_357_4, zi_357_5, zi_357_6, zi_357_7, zi_357_8, zi_357_9, zi_357_10, zi_357_11] := zall_w _ _ (by decide +kernel)
noncomputable def xi_357 (pc : Nat) : XIs := cond (Nat.blt pc 176) (cond (Nat.blt pc 89) (cond (Nat.blt pc 30) (zx zi_357_0) (cond (Nat.blt pc 60) (zx zi_357_1) (zx zi_357_2))) (cond (Nat.blt pc 121) (zx zi_357_3) (cond (Nat.blt pc 150) (zx zi_357_4) (zx zi_357_5)))) (cond (Nat.blt pc 271) (cond (Nat.blt pc 204) (zx zi_357_6) (cond (Nat.blt pc 235) (zx zi_357_7) (zx zi_357_8))) (cond (Nat.blt pc 300) (zx zi_357_9) (cond (Nat.blt pc 332) (zx zi_357_10) (zx zi_357_11))))
theorem xi_ok357 (pc : Nat) : xi_ok cX12_cost (xi_357 pc) = true := xi_c (xi_c (xi_c (zq1 xi_w357) (xi_c (zq1 (zq2 xi_w357)) (zq1 (zq2 (zq2 xi_w357))))) (xi_c (zq1 (zq2 (zq2 (zq2 xi_w357)))) (xi_c (zq1 (zq2 (zq2 (zq2 (zq2 xi_w357))))) (zq1 (zq2 (zq2 (zq2 (zq2 (zq2 xi_w357))))))))) (xi_c (xi_c (zq1 (zq2 (zq2 (zq2 (zq2 (zq2 (zq2 xi_w357))))))) (xi_c (zq1 (zq2 (zq2 (zq2 (zq2 (zq2 (zq2 (zq2 xi_w357)))))))) (zq1 (zq2 (zq2 (zq2 (zq2 (zq2 (zq2 (zq2 (zq2 xi_w357))))))))))) (xi_c (zq1 (zq2 (zq2 (zq2 (zq2 (zq2 (zq2 (zq2 (zq2 (zq2 xi_w357)))))))))) (xi_c (zq1 (zq2 (zq2 (zq2 (zq2 (zq2 (zq2 (zq2 (zq2 (zq2 (zq2 xi_w357))))))))))) (zq1 (zq2 (zq2 (zq2 (zq2 (zq2 (zq2 (zq2 (zq2 (zq2 (zq2 (zq2 xi_w357)))))))))))))))
noncomputable def zi_358_0 : ZIs := [(0, ev_13), (1, ev_192), (2, ev_1592), (5, ev_252), (6, ev_294), (7, ev_10), (8, ev_295), (9, ev_198), (10, ev_13), (11, ev_1288), (14, ev_1593), (17, ev_13), (18, ev_584), (21, ev_198), (22, ev_100), (23, ev_230)]
noncomputable def zi_358_1 : ZIs := [(24, ev_103), (25, ev_1594), (28, ev_13), (29, ev_1574), (32, ev_198), (33, ev_100), (34, ev_1333), (37, ev_103), (38, ev_1595), (41, ev_197), (42, ev_1596), (45, ev_13), (46, ev_1574), (49, ev_198), (50, ev_100), (51, ev_13)]
noncomputable def zi_358_2 : ZIs := [(52, ev_1574), (55, ev_197), (56, ev_100), (57, ev_103), (58, ev_486), (61, ev_198), (62, ev_229), (65, ev_197), (66, ev_294), (67, ev_300), (70, ev_402), (73, ev_197), (74, ev_1548), (77, ev_10), (78, ev_98), (79, ev_13)]
noncomputable def zi_358_3 : ZIs := [(80, ev_584), (83, ev_192), (84, ev_100), (85, ev_13), (86, ev_584), (89, ev_197), (90, ev_100), (91, ev_476), (92, ev_103), (93, ev_1568), (96, ev_13), (97, ev_584), (100, ev_192), (101, ev_100), (102, ev_633), (105, ev_13)]
noncomputable def zi_358_4 : ZIs := [(106, ev_584), (109, ev_197), (110, ev_100), (111, ev_476), (112, ev_924), (113, ev_197), (114, ev_25), (116, ev_96), (118, ev_192), (119, ev_1597), (122, ev_13), (123, ev_96), (125, ev_1567), (128, ev_484), (129, ev_103), (130, ev_1568)]
noncomputable def zi_358_5 : ZIs := [(133, ev_13), (134, ev_96), (136, ev_1567), (139, ev_229), (142, ev_484), (143, ev_924), (144, ev_13), (145, ev_96), (147, ev_1569), (150, ev_25), (152, ev_1015), (155, ev_197), (156, ev_25), (158, ev_96), (160, ev_192), (161, ev_1381)]
noncomputable def zi_358_6 : ZIs := [(164, ev_13), (165, ev_96), (167, ev_1569), (170, ev_28), (172, ev_13), (173, ev_96), (175, ev_484), (176, ev_1570), (179, ev_101), (181, ev_25), (183, ev_319), (186, ev_13), (187, ev_584), (190, ev_192), (191, ev_316), (192, ev_100)]
noncomputable def zi_358_7 : ZIs := [(193, ev_484), (194, ev_485), (195, ev_194), (196, ev_13), (197, ev_584), (200, ev_197), (201, ev_316), (202, ev_100), (203, ev_484), (204, ev_457), (205, ev_194), (206, ev_7), (207, ev_98)]
set_option maxRecDepth 100000 in
theorem xi_w358 : zall cX12_sends [zi_358_0, zi_358_1, zi_358_2, zi_358_3, zi_358_4, zi_358_5, zi_358_6, zi_358_7] := zall_w _ _ (by decide +kernel)
noncomputable def xi_358 (pc : Nat) : XIs := cond (Nat.blt pc 106) (cond (Nat.blt pc 52) (cond (Nat.blt pc 24) (zx zi_358_0) (zx zi_358_1)) (cond (Nat.blt pc 80) (zx zi_358_2) (zx zi_358_3))) (cond (Nat.blt pc 164) (cond (Nat.blt pc 133) (zx zi_358_4) (zx zi_358_5)) (cond (Nat.blt pc 193) (zx zi_358_6) (zx zi_358_7)))
theorem xi_ok358 (pc : Nat) : xi_ok cX12_sends (xi_358 pc) = true := xi_c (xi_c (xi_c (zq1 xi_w358) (zq1 (zq2 xi_w358))) (xi_c (zq1 (zq2 (zq2 xi_w358))) (zq1 (zq2 (zq2 (zq2 xi_w358)))))) (xi_c (xi_c (zq1 (zq2 (zq2 (zq2 (zq2 xi_w358))))) (zq1 (zq2 (zq2 (zq2 (zq2 (zq2 xi_w358))))))) (xi_c (zq1 (zq2 (zq2 (zq2 (zq2 (zq2 (zq2 xi_w358))))))) (zq1 (zq2 (zq2 (zq2 (zq2 (zq2 (zq2 (zq2 xi_w358))))))))))
noncomputable def zi_359_0 : ZIs := [(0, ev_13), (1, ev_1298), (4, ev_176), (6, ev_13), (7, ev_1161), (10, ev_355), (11, ev_192), (12, ev_22), (13, ev_18), (14, ev_655), (16, ev_656), (19, ev_7), (20, ev_229), (23, ev_10), (24, ev_98)]
set_option maxRecDepth 100000 in
theorem xi_w359 : zall cX12_isFirstSort [zi_359_0] := zall_w _ _ (by decide +kernel)
noncomputable def xi_359 (pc : Nat) : XIs := zx zi_359_0
theorem xi_ok359 (pc : Nat) : xi_ok cX12_isFirstSort (xi_359 pc) = true := zq1 xi_w359
noncomputable def zi_360_0 : ZIs := [(0, ev_10), (1, ev_685), (2, ev_192), (3, ev_528), (6, ev_1488), (9, ev_13), (10, ev_446), (13, ev_192), (14, ev_1333), (17, ev_194), (18, ev_688), (21, ev_334), (24, ev_10), (25, ev_685), (26, ev_192), (27, ev_529)]
noncomputable def zi_360_1 : ZIs := [(30, ev_1598), (33, ev_13), (34, ev_192), (35, ev_1178), (38, ev_1599), (41, ev_13), (42, ev_1302), (45, ev_13), (46, ev_1291), (49, ev_192), (50, ev_22), (51, ev_18), (52, ev_294), (53, ev_13), (54, ev_1038), (57, ev_13)]
noncomputable def zi_360_2 : ZIs := [(58, ev_1291), (61, ev_192), (62, ev_22), (63, ev_18), (64, ev_295), (65, ev_13), (66, ev_197), (67, ev_1600), (70, ev_13), (71, ev_198), (72, ev_1600), (75, ev_1601), (78, ev_13), (79, ev_197), (80, ev_1600), (83, ev_649)]
noncomputable def zi_360_3 : ZIs := [(86, ev_176), (88, ev_197), (89, ev_355), (90, ev_198), (91, ev_22), (92, ev_195), (95, ev_176), (97, ev_198), (98, ev_355), (99, ev_197), (100, ev_22), (101, ev_11), (103, ev_13), (104, ev_446), (107, ev_12), (109, ev_13)]
noncomputable def zi_360_4 : ZIs := [(110, ev_1039), (113, ev_13), (114, ev_1291), (117, ev_192), (118, ev_22), (119, ev_18), (120, ev_102), (121, ev_13), (122, ev_446), (125, ev_12), (127, ev_100), (128, ev_103), (129, ev_1602), (132, ev_13), (133, ev_1039), (136, ev_13)]
noncomputable def zi_360_5 : ZIs := [(137, ev_1291), (140, ev_192), (141, ev_22), (142, ev_18), (143, ev_102), (144, ev_633), (147, ev_13), (148, ev_446), (151, ev_12), (153, ev_100), (154, ev_194), (155, ev_688), (158, ev_1603), (161, ev_10), (162, ev_685), (163, ev_192)]
noncomputable def zi_360_6 : ZIs := [(164, ev_13), (165, ev_1288), (168, ev_1114), (171, ev_13), (172, ev_590), (175, ev_192), (176, ev_252), (177, ev_299), (178, ev_688), (181, ev_1476), (184, ev_7), (185, ev_685), (186, ev_192), (187, ev_1362), (190, ev_13), (191, ev_1604)]
noncomputable def zi_360_7 : ZIs := [(194, ev_294), (195, ev_197), (196, ev_831), (199, ev_7), (200, ev_229), (203, ev_10), (204, ev_685), (205, ev_197), (206, ev_1605), (209, ev_13), (210, ev_738), (213, ev_197), (214, ev_18), (215, ev_295), (216, ev_13), (217, ev_590)]
noncomputable def zi_360_8 : ZIs := [(220, ev_198), (221, ev_18), (222, ev_11), (224, ev_13), (225, ev_590), (228, ev_198), (229, ev_197), (230, ev_299), (231, ev_13), (232, ev_590), (235, ev_197), (236, ev_198), (237, ev_299), (238, ev_12), (240, ev_294), (241, ev_1015)]
noncomputable def zi_360_9 : ZIs := [(244, ev_357), (247, ev_260)]
set_option maxRecDepth 100000 in
theorem xi_w360 : zall cX12_pairUp [zi_360_0, zi_360_1, zi_360_2, zi_360_3, zi_360_4, zi_360_5, zi_360_6, zi_360_7, zi_360_8, zi_360_9] := zall_w _ _ (by decide +kernel)
noncomputable def xi_360 (pc : Nat) : XIs := cond (Nat.blt pc 137) (cond (Nat.blt pc 58) (cond (Nat.blt pc 30) (zx zi_360_0) (zx zi_360_1)) (cond (Nat.blt pc 86) (zx zi_360_2) (cond (Nat.blt pc 110) (zx zi_360_3) (zx zi_360_4)))) (cond (Nat.blt pc 194) (cond (Nat.blt pc 164) (zx zi_360_5) (zx zi_360_6)) (cond (Nat.blt pc 220) (zx zi_360_7) (cond (Nat.blt pc 244) (zx zi_360_8) (zx zi_360_9))))
theorem xi_ok360 (pc : Nat) : xi_ok cX12_pairUp (xi_360 pc) = true := xi_c (xi_c (xi_c (zq1 xi_w360) (zq1 (zq2 xi_w360))) (xi_c (zq1 (zq2 (zq2 xi_w360))) (xi_c (zq1 (zq2 (zq2 (zq2 xi_w360)))) (zq1 (zq2 (zq2 (zq2 (zq2 xi_w360)))))))) (xi_c (xi_c (zq1 (zq2 (zq2 (zq2 (zq2 (zq2 xi_w360)))))) (zq1 (zq2 (zq2 (zq2 (zq2 (zq2 (zq2 xi_w360)))))))) (xi_c (zq1 (zq2 (zq2 (zq2 (zq2 (zq2 (zq2 (zq2 xi_w360)))))))) (xi_c (zq1 (zq2 (zq2 (zq2 (zq2 (zq2 (zq2 (zq2 (zq2 xi_w360))))))))) (zq1 (zq2 (zq2 (zq2 (zq2 (zq2 (zq2 (zq2 (zq2 (zq2 xi_w360)))))))))))))
noncomputable def zi_361_0 : ZIs := [(0, ev_10), (1, ev_685), (2, ev_192), (3, ev_13), (4, ev_1288), (7, ev_721), (10, ev_13), (11, ev_1574), (14, ev_192), (15, ev_13), (16, ev_192), (17, ev_1600), (20, ev_417), (23, ev_13), (24, ev_590), (27, ev_192)]
noncomputable def zi_361_1 : ZIs := [(28, ev_18), (29, ev_486), (32, ev_230), (33, ev_209), (36, ev_1333), (39, ev_194), (40, ev_13), (41, ev_738), (44, ev_192), (45, ev_252), (46, ev_299), (47, ev_688), (50, ev_570), (53, ev_7), (54, ev_685), (55, ev_192)]
noncomputable def zi_361_2 : ZIs := [(56, ev_1606), (59, ev_10), (60, ev_685), (61, ev_10), (62, ev_294), (63, ev_197), (64, ev_528), (67, ev_1607), (70, ev_197), (71, ev_176), (73, ev_582), (74, ev_295), (75, ev_197), (76, ev_176), (78, ev_508), (79, ev_11)]
noncomputable def zi_361_3 : ZIs := [(81, ev_13), (82, ev_446), (85, ev_197), (86, ev_100), (87, ev_1333), (90, ev_103), (91, ev_1608), (94, ev_13), (95, ev_1574), (98, ev_198), (99, ev_100), (100, ev_1333), (103, ev_103), (104, ev_1609), (107, ev_13), (108, ev_590)]
noncomputable def zi_361_4 : ZIs := [(111, ev_198), (112, ev_18), (113, ev_12), (115, ev_1610), (118, ev_13), (119, ev_1574), (122, ev_198), (123, ev_100), (124, ev_13), (125, ev_446), (128, ev_197), (129, ev_100), (130, ev_457), (131, ev_13), (132, ev_1574), (135, ev_12)]
noncomputable def zi_361_5 : ZIs := [(137, ev_100), (138, ev_103), (139, ev_1611), (142, ev_13), (143, ev_1574), (146, ev_12), (148, ev_13), (149, ev_1574), (152, ev_198), (153, ev_100), (154, ev_13), (155, ev_446), (158, ev_197), (159, ev_100), (160, ev_457), (161, ev_194)]
noncomputable def zi_361_6 : ZIs := [(162, ev_13), (163, ev_738), (166, ev_12), (168, ev_198), (169, ev_299), (170, ev_7), (171, ev_685), (172, ev_13), (173, ev_590), (176, ev_12), (178, ev_18), (179, ev_1612), (182, ev_13), (183, ev_1574), (186, ev_13), (187, ev_590)]
noncomputable def zi_361_7 : ZIs := [(190, ev_12), (192, ev_18), (193, ev_13), (194, ev_1574), (197, ev_12), (199, ev_100), (200, ev_13), (201, ev_446), (204, ev_176), (206, ev_13), (207, ev_590), (210, ev_12), (212, ev_18), (213, ev_355), (214, ev_12), (216, ev_22)]
noncomputable def zi_361_8 : ZIs := [(217, ev_100), (218, ev_485), (219, ev_194), (220, ev_304), (223, ev_1423), (226, ev_1613), (229, ev_252), (230, ev_294), (231, ev_10), (232, ev_295), (233, ev_198), (234, ev_13), (235, ev_1288), (238, ev_1395), (241, ev_13), (242, ev_198)]
noncomputable def zi_361_9 : ZIs := [(243, ev_1600), (246, ev_1614), (249, ev_13), (250, ev_590), (253, ev_198), (254, ev_18), (255, ev_600), (258, ev_13), (259, ev_1574), (262, ev_198), (263, ev_100), (264, ev_1333), (267, ev_103), (268, ev_486), (271, ev_7), (272, ev_229)]
noncomputable def zi_361_10 : ZIs := [(275, ev_10), (276, ev_11), (278, ev_12), (280, ev_561), (283, ev_197), (284, ev_1596), (287, ev_13), (288, ev_1574), (291, ev_198), (292, ev_100), (293, ev_13), (294, ev_1574), (297, ev_197), (298, ev_100), (299, ev_103), (300, ev_486)]
noncomputable def zi_361_11 : ZIs := [(303, ev_198), (304, ev_229), (307, ev_197), (308, ev_294), (309, ev_300), (312, ev_563), (315, ev_197), (316, ev_98)]
set_option maxRecDepth 100000 in
theorem xi_w361 : zall cX12_cheapestPair [zi_361_0, zi_361_1, zi_361_2, zi_361_3, zi_361_4, zi_361_5, zi_361_6, zi_361_7, zi_361_8, zi_361_9, zi_361_10, zi_361_11] := zall_w _ _ (by decide +kernel)
noncomputable def xi_361 (pc : Nat) : XIs := cond (Nat.blt pc 162) (cond (Nat.blt pc 81) (cond (Nat.blt pc 28) (zx zi_361_0) (cond (Nat.blt pc 56) (zx zi_361_1) (zx zi_361_2))) (cond (Nat.blt pc 111) (zx zi_361_3) (cond (Nat.blt pc 137) (zx zi_361_4) (zx zi_361_5)))) (cond (Nat.blt pc 243) (cond (Nat.blt pc 190) (zx zi_361_6) (cond (Nat.blt pc 217) (zx zi_361_7) (zx zi_361_8))) (cond (Nat.blt pc 275) (zx zi_361_9) (cond (Nat.blt pc 303) (zx zi_361_10) (zx zi_361_11))))
theorem xi_ok361 (pc : Nat) : xi_ok cX12_cheapestPair (xi_361 pc) = true := xi_c (xi_c (xi_c (zq1 xi_w361) (xi_c (zq1 (zq2 xi_w361)) (zq1 (zq2 (zq2 xi_w361))))) (xi_c (zq1 (zq2 (zq2 (zq2 xi_w361)))) (xi_c (zq1 (zq2 (zq2 (zq2 (zq2 xi_w361))))) (zq1 (zq2 (zq2 (zq2 (zq2 (zq2 xi_w361))))))))) (xi_c (xi_c (zq1 (zq2 (zq2 (zq2 (zq2 (zq2 (zq2 xi_w361))))))) (xi_c (zq1 (zq2 (zq2 (zq2 (zq2 (zq2 (zq2 (zq2 xi_w361)))))))) (zq1 (zq2 (zq2 (zq2 (zq2 (zq2 (zq2 (zq2 (zq2 xi_w361))))))))))) (xi_c (zq1 (zq2 (zq2 (zq2 (zq2 (zq2 (zq2 (zq2 (zq2 (zq2 xi_w361)))))))))) (xi_c (zq1 (zq2 (zq2 (zq2 (zq2 (zq2 (zq2 (zq2 (zq2 (zq2 (zq2 xi_w361))))))))))) (zq1 (zq2 (zq2 (zq2 (zq2 (zq2 (zq2 (zq2 (zq2 (zq2 (zq2 (zq2 xi_w361)))))))))))))))
noncomputable def zi_362_0 : ZIs := [(0, ev_13), (1, ev_192), (2, ev_102), (3, ev_230), (4, ev_228), (5, ev_1316), (8, ev_1175), (11, ev_104), (14, ev_230), (15, ev_481), (16, ev_13), (17, ev_1615), (20, ev_230), (21, ev_517), (22, ev_230), (23, ev_442)]
noncomputable def zi_362_1 : ZIs := [(25, ev_10), (26, ev_28), (28, ev_101), (30, ev_13), (31, ev_1288), (34, ev_938), (37, ev_13), (38, ev_101), (40, ev_1600), (43, ev_867), (46, ev_13), (47, ev_590), (50, ev_101), (52, ev_18), (53, ev_1616), (56, ev_489)]
noncomputable def zi_362_2 : ZIs := [(57, ev_228), (58, ev_457), (59, ev_517), (60, ev_247), (62, ev_13), (63, ev_446), (66, ev_176), (68, ev_101), (70, ev_355), (71, ev_13), (72, ev_590), (75, ev_101), (77, ev_18), (78, ev_22), (79, ev_100), (80, ev_457)]
noncomputable def zi_362_3 : ZIs := [(81, ev_442), (83, ev_320), (86, ev_357), (89, ev_192), (90, ev_326), (93, ev_489), (94, ev_638), (97, ev_247), (99, ev_481)]
set_option maxRecDepth 100000 in
theorem xi_w362 : zall cX12_pairing [zi_362_0, zi_362_1, zi_362_2, zi_362_3] := zall_w _ _ (by decide +kernel)
noncomputable def xi_362 (pc : Nat) : XIs := cond (Nat.blt pc 57) (cond (Nat.blt pc 25) (zx zi_362_0) (zx zi_362_1)) (cond (Nat.blt pc 81) (zx zi_362_2) (zx zi_362_3))
theorem xi_ok362 (pc : Nat) : xi_ok cX12_pairing (xi_362 pc) = true := xi_c (xi_c (zq1 xi_w362) (zq1 (zq2 xi_w362))) (xi_c (zq1 (zq2 (zq2 xi_w362))) (zq1 (zq2 (zq2 (zq2 xi_w362)))))
noncomputable def zi_363_0 : ZIs := [(0, ev_13), (1, ev_13), (2, ev_192), (3, ev_1335), (6, ev_1175), (9, ev_104), (12, ev_230), (13, ev_481), (14, ev_10), (15, ev_294), (16, ev_10), (17, ev_295), (18, ev_198), (19, ev_529), (22, ev_815), (25, ev_13)]
noncomputable def zi_363_1 : ZIs := [(26, ev_198), (27, ev_1178), (30, ev_1617), (33, ev_13), (34, ev_450), (37, ev_197), (38, ev_13), (39, ev_1302), (42, ev_13), (43, ev_1291), (46, ev_198), (47, ev_22), (48, ev_18), (49, ev_299), (50, ev_13), (51, ev_452)]
noncomputable def zi_363_2 : ZIs := [(54, ev_197), (55, ev_13), (56, ev_1038), (59, ev_13), (60, ev_1291), (63, ev_198), (64, ev_22), (65, ev_18), (66, ev_299), (67, ev_13), (68, ev_456), (71, ev_197), (72, ev_13), (73, ev_1039), (76, ev_13), (77, ev_1291)]
noncomputable def zi_363_3 : ZIs := [(80, ev_198), (81, ev_22), (82, ev_18), (83, ev_102), (84, ev_194), (85, ev_304), (88, ev_300), (91, ev_1338), (94, ev_13), (95, ev_1288), (98, ev_295), (99, ev_192), (100, ev_11), (102, ev_230), (103, ev_574), (105, ev_198)]
noncomputable def zi_363_4 : ZIs := [(106, ev_7), (107, ev_1618), (110, ev_10), (111, ev_275), (113, ev_276), (115, ev_198), (116, ev_683), (119, ev_13), (120, ev_1619), (123, ev_276), (125, ev_252), (126, ev_299), (127, ev_955), (130, ev_1509), (133, ev_10), (134, ev_275)]
noncomputable def zi_363_5 : ZIs := [(136, ev_276), (138, ev_197), (139, ev_1620), (142, ev_13), (143, ev_450), (146, ev_276), (148, ev_18), (149, ev_13), (150, ev_452), (153, ev_276), (155, ev_18), (156, ev_1621), (159, ev_13), (160, ev_1619), (163, ev_13), (164, ev_452)]
noncomputable def zi_363_6 : ZIs := [(167, ev_276), (169, ev_18), (170, ev_18), (171, ev_1622), (174, ev_13), (175, ev_456), (178, ev_276), (180, ev_100), (181, ev_13), (182, ev_456), (185, ev_13), (186, ev_1619), (189, ev_13), (190, ev_452), (193, ev_276), (195, ev_18)]
noncomputable def zi_363_7 : ZIs := [(196, ev_18), (197, ev_100), (198, ev_103), (199, ev_486), (202, ev_7), (203, ev_229), (206, ev_10), (207, ev_313), (209, ev_13), (210, ev_1619), (213, ev_13), (214, ev_452), (217, ev_276), (219, ev_18), (220, ev_314), (222, ev_330)]
noncomputable def zi_363_8 : ZIs := [(225, ev_276), (227, ev_439), (230, ev_13), (231, ev_1619), (234, ev_13), (235, ev_452), (238, ev_276), (240, ev_18), (241, ev_18), (242, ev_299), (243, ev_955), (246, ev_1483), (249, ev_10), (250, ev_275), (252, ev_276), (254, ev_198)]
noncomputable def zi_363_9 : ZIs := [(255, ev_815), (258, ev_276), (260, ev_12), (262, ev_900), (265, ev_13), (266, ev_1619), (269, ev_276), (271, ev_18), (272, ev_486), (275, ev_1333), (278, ev_481), (279, ev_13), (280, ev_1623), (283, ev_276), (285, ev_276), (287, ev_12)]
noncomputable def zi_363_10 : ZIs := [(289, ev_818), (292, ev_230), (293, ev_439), (296, ev_13), (297, ev_456), (300, ev_13), (301, ev_1619), (304, ev_276), (306, ev_18), (307, ev_100), (308, ev_194), (309, ev_501), (311, ev_13), (312, ev_1623), (315, ev_276), (317, ev_100)]
noncomputable def zi_363_11 : ZIs := [(318, ev_457), (319, ev_574), (321, ev_955), (324, ev_983), (327, ev_13), (328, ev_198), (329, ev_12), (331, ev_1624), (334, ev_275), (336, ev_276), (338, ev_198), (339, ev_774), (342, ev_501), (344, ev_481), (345, ev_10), (346, ev_313)]
noncomputable def zi_363_12 : ZIs := [(348, ev_314), (350, ev_197), (351, ev_636), (354, ev_13), (355, ev_452), (358, ev_314), (360, ev_18), (361, ev_327), (363, ev_13), (364, ev_456), (367, ev_314), (369, ev_316), (370, ev_100), (371, ev_13), (372, ev_450), (375, ev_314)]
noncomputable def zi_363_13 : ZIs := [(377, ev_18), (378, ev_329), (380, ev_618), (383, ev_329), (385, ev_12), (387, ev_1384), (390, ev_13), (391, ev_1623), (394, ev_329), (396, ev_100), (397, ev_229), (400, ev_230), (401, ev_485), (402, ev_194), (403, ev_13), (404, ev_450)]
noncomputable def zi_363_14 : ZIs := [(407, ev_314), (409, ev_13), (410, ev_1625), (413, ev_13), (414, ev_450), (417, ev_314), (419, ev_18), (420, ev_18), (421, ev_299), (422, ev_13), (423, ev_452), (426, ev_314), (428, ev_13), (429, ev_1625), (432, ev_329), (434, ev_18)]
noncomputable def zi_363_15 : ZIs := [(435, ev_299), (436, ev_318), (439, ev_1626), (442, ev_13), (443, ev_1625), (446, ev_12), (448, ev_18), (449, ev_11), (451, ev_276), (453, ev_295), (454, ev_1627), (457, ev_501), (459, ev_481)]
set_option maxRecDepth 100000 in
theorem xi_w363 : zall cX12_tree [zi_363_0, zi_363_1, zi_363_2, zi_363_3, zi_363_4, zi_363_5, zi_363_6, zi_363_7, zi_363_8, zi_363_9, zi_363_10, zi_363_11, zi_363_12, zi_363_13, zi_363_14, zi_363_15] := zall_w _ _ (by decide +kernel)
noncomputable def xi_363 (pc : Nat) : XIs := cond (Nat.blt pc 225) (cond (Nat.blt pc 106) (cond (Nat.blt pc 54) (cond (Nat.blt pc 26) (zx zi_363_0) (zx zi_363_1)) (cond (Nat.blt pc 80) (zx zi_363_2) (zx zi_363_3))) (cond (Nat.blt pc 167) (cond (Nat.blt pc 136) (zx zi_363_4) (zx zi_363_5)) (cond (Nat.blt pc 196) (zx zi_363_6) (zx zi_363_7)))) (cond (Nat.blt pc 348) (cond (Nat.blt pc 289) (cond (Nat.blt pc 255) (zx zi_363_8) (zx zi_363_9)) (cond (Nat.blt pc 318) (zx zi_363_10) (zx zi_363_11))) (cond (Nat.blt pc 407) (cond (Nat.blt pc 377) (zx zi_363_12) (zx zi_363_13)) (cond (Nat.blt pc 435) (zx zi_363_14) (zx zi_363_15))))
theorem xi_ok363 (pc : Nat) : xi_ok cX12_tree (xi_363 pc) = true := xi_c (xi_c (xi_c (xi_c (zq1 xi_w363) (zq1 (zq2 xi_w363))) (xi_c (zq1 (zq2 (zq2 xi_w363))) (zq1 (zq2 (zq2 (zq2 xi_w363)))))) (xi_c (xi_c (zq1 (zq2 (zq2 (zq2 (zq2 xi_w363))))) (zq1 (zq2 (zq2 (zq2 (zq2 (zq2 xi_w363))))))) (xi_c (zq1 (zq2 (zq2 (zq2 (zq2 (zq2 (zq2 xi_w363))))))) (zq1 (zq2 (zq2 (zq2 (zq2 (zq2 (zq2 (zq2 xi_w363))))))))))) (xi_c (xi_c (xi_c (zq1 (zq2 (zq2 (zq2 (zq2 (zq2 (zq2 (zq2 (zq2 xi_w363))))))))) (zq1 (zq2 (zq2 (zq2 (zq2 (zq2 (zq2 (zq2 (zq2 (zq2 xi_w363))))))))))) (xi_c (zq1 (zq2 (zq2 (zq2 (zq2 (zq2 (zq2 (zq2 (zq2 (zq2 (zq2 xi_w363))))))))))) (zq1 (zq2 (zq2 (zq2 (zq2 (zq2 (zq2 (zq2 (zq2 (zq2 (zq2 (zq2 xi_w363)))))))))))))) (xi_c (xi_c (zq1 (zq2 (zq2 (zq2 (zq2 (zq2 (zq2 (zq2 (zq2 (zq2 (zq2 (zq2 (zq2 xi_w363))))))))))))) (zq1 (zq2 (zq2 (zq2 (zq2 (zq2 (zq2 (zq2 (zq2 (zq2 (zq2 (zq2 (zq2 (zq2 xi_w363))))))))))))))) (xi_c (zq1 (zq2 (zq2 (zq2 (zq2 (zq2 (zq2 (zq2 (zq2 (zq2 (zq2 (zq2 (zq2 (zq2 (zq2 xi_w363))))))))))))))) (zq1 (zq2 (zq2 (zq2 (zq2 (zq2 (zq2 (zq2 (zq2 (zq2 (zq2 (zq2 (zq2 (zq2 (zq2 (zq2 xi_w363)))))))))))))))))))
noncomputable def zi_364_0 : ZIs := [(0, ev_10), (1, ev_295), (2, ev_198), (3, ev_192), (4, ev_346), (7, ev_13), (8, ev_1625), (11, ev_198), (12, ev_252), (13, ev_299), (14, ev_13), (15, ev_1628), (18, ev_198), (19, ev_252), (20, ev_299), (21, ev_300)]
noncomputable def zi_364_1 : ZIs := [(24, ev_624), (27, ev_10), (28, ev_295), (29, ev_10), (30, ev_11), (32, ev_12), (34, ev_192), (35, ev_1629), (38, ev_12), (40, ev_25), (42, ev_96), (44, ev_197), (45, ev_740), (48, ev_13), (49, ev_1628), (52, ev_96)]
noncomputable def zi_364_2 : ZIs := [(54, ev_18), (55, ev_1630), (58, ev_13), (59, ev_1625), (62, ev_96), (64, ev_18), (65, ev_1631), (68, ev_13), (69, ev_1628), (72, ev_96), (74, ev_12), (76, ev_299), (77, ev_13), (78, ev_450), (81, ev_13), (82, ev_1619)]
noncomputable def zi_364_3 : ZIs := [(85, ev_96), (87, ev_18), (88, ev_18), (89, ev_25), (91, ev_653), (94, ev_96), (96, ev_197), (97, ev_700), (100, ev_13), (101, ev_1625), (104, ev_96), (106, ev_18), (107, ev_1632), (110, ev_13), (111, ev_1628), (114, ev_96)]
noncomputable def zi_364_4 : ZIs := [(116, ev_18), (117, ev_12), (119, ev_1633), (122, ev_96), (124, ev_28), (126, ev_13), (127, ev_1625), (130, ev_101), (132, ev_18), (133, ev_745), (136, ev_13), (137, ev_1625), (140, ev_101), (142, ev_198), (143, ev_299), (144, ev_13)]
noncomputable def zi_364_5 : ZIs := [(145, ev_450), (148, ev_13), (149, ev_1619), (152, ev_101), (154, ev_18), (155, ev_18), (156, ev_28), (158, ev_693), (161, ev_300), (164, ev_348), (167, ev_1634), (170, ev_10), (171, ev_11), (173, ev_12), (175, ev_192), (176, ev_929)]
noncomputable def zi_364_6 : ZIs := [(179, ev_13), (180, ev_1625), (183, ev_12), (185, ev_18), (186, ev_1588), (189, ev_13), (190, ev_1625), (193, ev_12), (195, ev_198), (196, ev_299), (197, ev_300), (200, ev_348), (203, ev_645), (206, ev_198), (207, ev_98)]
set_option maxRecDepth 100000 in
theorem xi_w364 : zall cX12_rings [zi_364_0, zi_364_1, zi_364_2, zi_364_3, zi_364_4, zi_364_5, zi_364_6] := zall_w _ _ (by decide +kernel)
noncomputable def xi_364 (pc : Nat) : XIs := cond (Nat.blt pc 85) (cond (Nat.blt pc 24) (zx zi_364_0) (cond (Nat.blt pc 54) (zx zi_364_1) (zx zi_364_2))) (cond (Nat.blt pc 145) (cond (Nat.blt pc 116) (zx zi_364_3) (zx zi_364_4)) (cond (Nat.blt pc 179) (zx zi_364_5) (zx zi_364_6)))
theorem xi_ok364 (pc : Nat) : xi_ok cX12_rings (xi_364 pc) = true := xi_c (xi_c (zq1 xi_w364) (xi_c (zq1 (zq2 xi_w364)) (zq1 (zq2 (zq2 xi_w364))))) (xi_c (xi_c (zq1 (zq2 (zq2 (zq2 xi_w364)))) (zq1 (zq2 (zq2 (zq2 (zq2 xi_w364)))))) (xi_c (zq1 (zq2 (zq2 (zq2 (zq2 (zq2 xi_w364)))))) (zq1 (zq2 (zq2 (zq2 (zq2 (zq2 (zq2 xi_w364)))))))))
noncomputable def zi_365_0 : ZIs := [(0, ev_13), (1, ev_13), (2, ev_192), (3, ev_1492), (6, ev_1175), (9, ev_104), (12, ev_10), (13, ev_98), (14, ev_13), (15, ev_192), (16, ev_1178), (19, ev_378), (22, ev_10), (23, ev_98), (24, ev_10), (25, ev_294)]
noncomputable def zi_365_1 : ZIs := [(26, ev_197), (27, ev_13), (28, ev_1288), (31, ev_1114), (34, ev_13), (35, ev_1635), (38, ev_197), (39, ev_197), (40, ev_299), (41, ev_304), (44, ev_1476), (47, ev_13), (48, ev_13), (49, ev_1291), (52, ev_192), (53, ev_22)]
noncomputable def zi_365_2 : ZIs := [(54, ev_192), (55, ev_1636), (58, ev_517), (59, ev_10), (60, ev_11), (62, ev_12), (64, ev_13), (65, ev_1288), (68, ev_1637), (71, ev_10), (72, ev_25), (74, ev_96), (76, ev_529), (79, ev_1638), (82, ev_13), (83, ev_96)]
noncomputable def zi_365_3 : ZIs := [(85, ev_1178), (88, ev_1639), (91, ev_13), (92, ev_13), (93, ev_1291), (96, ev_96), (98, ev_22), (99, ev_96), (101, ev_1636), (104, ev_489), (105, ev_103), (106, ev_1640), (109, ev_13), (110, ev_1635), (113, ev_13), (114, ev_1302)]
noncomputable def zi_365_4 : ZIs := [(117, ev_13), (118, ev_1291), (121, ev_96), (123, ev_22), (124, ev_18), (125, ev_18), (126, ev_28), (128, ev_13), (129, ev_1635), (132, ev_13), (133, ev_1038), (136, ev_13), (137, ev_1291), (140, ev_96), (142, ev_22), (143, ev_18)]
noncomputable def zi_365_5 : ZIs := [(144, ev_18), (145, ev_275), (147, ev_101), (149, ev_276), (151, ev_860), (154, ev_101), (156, ev_638), (159, ev_276), (161, ev_313), (163, ev_13), (164, ev_1635), (167, ev_13), (168, ev_1302), (171, ev_13), (172, ev_1291), (175, ev_96)]
noncomputable def zi_365_6 : ZIs := [(177, ev_22), (178, ev_18), (179, ev_314), (181, ev_299), (182, ev_13), (183, ev_1635), (186, ev_13), (187, ev_1038), (190, ev_13), (191, ev_1291), (194, ev_96), (196, ev_22), (197, ev_18), (198, ev_314), (200, ev_299), (201, ev_343)]
noncomputable def zi_365_7 : ZIs := [(204, ev_1641), (207, ev_348), (210, ev_1642), (213, ev_13), (214, ev_1635), (217, ev_13), (218, ev_1302), (221, ev_13), (222, ev_1291), (225, ev_192), (226, ev_22), (227, ev_18), (228, ev_18), (229, ev_13), (230, ev_1635), (233, ev_13)]
noncomputable def zi_365_8 : ZIs := [(234, ev_1038), (237, ev_13), (238, ev_1291), (241, ev_192), (242, ev_22), (243, ev_18), (244, ev_18), (245, ev_681), (248, ev_7), (249, ev_229), (252, ev_10), (253, ev_98)]
set_option maxRecDepth 100000 in
theorem xi_w365 : zall cX12_span [zi_365_0, zi_365_1, zi_365_2, zi_365_3, zi_365_4, zi_365_5, zi_365_6, zi_365_7, zi_365_8] := zall_w _ _ (by decide +kernel)
noncomputable def xi_365 (pc : Nat) : XIs := cond (Nat.blt pc 117) (cond (Nat.blt pc 54) (cond (Nat.blt pc 26) (zx zi_365_0) (zx zi_365_1)) (cond (Nat.blt pc 85) (zx zi_365_2) (zx zi_365_3))) (cond (Nat.blt pc 177) (cond (Nat.blt pc 144) (zx zi_365_4) (zx zi_365_5)) (cond (Nat.blt pc 204) (zx zi_365_6) (cond (Nat.blt pc 234) (zx zi_365_7) (zx zi_365_8))))
theorem xi_ok365 (pc : Nat) : xi_ok cX12_span (xi_365 pc) = true := xi_c (xi_c (xi_c (zq1 xi_w365) (zq1 (zq2 xi_w365))) (xi_c (zq1 (zq2 (zq2 xi_w365))) (zq1 (zq2 (zq2 (zq2 xi_w365)))))) (xi_c (xi_c (zq1 (zq2 (zq2 (zq2 (zq2 xi_w365))))) (zq1 (zq2 (zq2 (zq2 (zq2 (zq2 xi_w365))))))) (xi_c (zq1 (zq2 (zq2 (zq2 (zq2 (zq2 (zq2 xi_w365))))))) (xi_c (zq1 (zq2 (zq2 (zq2 (zq2 (zq2 (zq2 (zq2 xi_w365)))))))) (zq1 (zq2 (zq2 (zq2 (zq2 (zq2 (zq2 (zq2 (zq2 xi_w365))))))))))))
noncomputable def zi_366_0 : ZIs := [(0, ev_1643), (3, ev_13), (4, ev_1039), (7, ev_192), (8, ev_18), (9, ev_102), (10, ev_1315), (13, ev_457), (14, ev_492), (15, ev_197), (16, ev_102), (17, ev_457), (18, ev_481)]
set_option maxRecDepth 100000 in
theorem xi_w366 : zall cX12_orderOf [zi_366_0] := zall_w _ _ (by decide +kernel)
noncomputable def xi_366 (pc : Nat) : XIs := zx zi_366_0
theorem xi_ok366 (pc : Nat) : xi_ok cX12_orderOf (xi_366 pc) = true := zq1 xi_w366
noncomputable def zi_367_0 : ZIs := [(0, ev_228), (1, ev_442), (3, ev_487), (4, ev_58), (6, ev_489), (7, ev_445), (9, ev_462), (11, ev_230), (12, ev_103), (13, ev_1644), (16, ev_462), (18, ev_1645), (21, ev_527), (22, ev_228), (23, ev_103), (24, ev_99)]
noncomputable def zi_367_1 : ZIs := [(27, ev_247), (29, ev_460), (31, ev_492), (32, ev_1646), (35, ev_527), (36, ev_638), (39, ev_247), (41, ev_442), (43, ev_460), (45, ev_460), (47, ev_492), (48, ev_1646), (51, ev_527), (52, ev_58), (54, ev_462), (56, ev_1645)]
noncomputable def zi_367_2 : ZIs := [(59, ev_490), (60, ev_445), (62, ev_1528), (65, ev_247), (67, ev_481)]
set_option maxRecDepth 100000 in
theorem xi_w367 : zall cX12_power [zi_367_0, zi_367_1, zi_367_2] := zall_w _ _ (by decide +kernel)
noncomputable def xi_367 (pc : Nat) : XIs := cond (Nat.blt pc 27) (zx zi_367_0) (cond (Nat.blt pc 59) (zx zi_367_1) (zx zi_367_2))
theorem xi_ok367 (pc : Nat) : xi_ok cX12_power (xi_367 pc) = true := xi_c (zq1 xi_w367) (xi_c (zq1 (zq2 xi_w367)) (zq1 (zq2 (zq2 xi_w367))))
noncomputable def zi_368_0 : ZIs := [(0, ev_13), (1, ev_10), (2, ev_1286), (5, ev_13), (6, ev_1288), (9, ev_378), (12, ev_10), (13, ev_98), (14, ev_10), (15, ev_685), (16, ev_192), (17, ev_528), (20, ev_1114), (23, ev_13), (24, ev_1647), (27, ev_192)]
noncomputable def zi_368_1 : ZIs := [(28, ev_230), (29, ev_194), (30, ev_688), (33, ev_1509), (36, ev_10), (37, ev_685), (38, ev_192), (39, ev_529), (42, ev_1648), (45, ev_13), (46, ev_192), (47, ev_1178), (50, ev_1649), (53, ev_13), (54, ev_1302), (57, ev_13)]
noncomputable def zi_368_2 : ZIs := [(58, ev_1291), (61, ev_192), (62, ev_22), (63, ev_18), (64, ev_294), (65, ev_13), (66, ev_1038), (69, ev_13), (70, ev_1291), (73, ev_192), (74, ev_22), (75, ev_18), (76, ev_295), (77, ev_13), (78, ev_1647), (81, ev_525)]
noncomputable def zi_368_3 : ZIs := [(83, ev_197), (84, ev_355), (85, ev_316), (86, ev_100), (87, ev_228), (88, ev_457), (89, ev_194), (90, ev_13), (91, ev_1647), (94, ev_525), (96, ev_198), (97, ev_355), (98, ev_316), (99, ev_100), (100, ev_228), (101, ev_457)]
noncomputable def zi_368_4 : ZIs := [(102, ev_194), (103, ev_13), (104, ev_1647), (107, ev_176), (109, ev_197), (110, ev_355), (111, ev_198), (112, ev_22), (113, ev_316), (114, ev_100), (115, ev_1650), (118, ev_457), (119, ev_194), (120, ev_13), (121, ev_1647), (124, ev_176)]
noncomputable def zi_368_5 : ZIs := [(126, ev_198), (127, ev_355), (128, ev_197), (129, ev_22), (130, ev_316), (131, ev_100), (132, ev_1650), (135, ev_457), (136, ev_194), (137, ev_688), (140, ev_650), (143, ev_10), (144, ev_685), (145, ev_192), (146, ev_528), (149, ev_364)]
noncomputable def zi_368_6 : ZIs := [(152, ev_13), (153, ev_1647), (156, ev_192), (157, ev_316), (158, ev_100), (159, ev_1646), (162, ev_527), (163, ev_194), (164, ev_688), (167, ev_624), (170, ev_228), (171, ev_1651), (172, ev_7), (173, ev_295), (174, ev_198), (175, ev_13)]
noncomputable def zi_368_7 : ZIs := [(176, ev_1288), (179, ev_1652), (182, ev_198), (183, ev_11), (185, ev_12), (187, ev_13), (188, ev_1288), (191, ev_359), (194, ev_13), (195, ev_1647), (198, ev_176), (200, ev_12), (202, ev_355), (203, ev_198), (204, ev_22), (205, ev_100)]
noncomputable def zi_368_8 : ZIs := [(206, ev_230), (207, ev_103), (208, ev_992), (211, ev_348), (214, ev_853), (217, ev_12), (219, ev_13), (220, ev_1288), (223, ev_691), (226, ev_10), (227, ev_98), (228, ev_10), (229, ev_25), (231, ev_96), (233, ev_13), (234, ev_1288)]
noncomputable def zi_368_9 : ZIs := [(237, ev_1470), (240, ev_12), (242, ev_198), (243, ev_648), (246, ev_13), (247, ev_1647), (250, ev_176), (252, ev_12), (254, ev_355), (255, ev_96), (257, ev_22), (258, ev_100), (259, ev_58), (261, ev_13), (262, ev_1647), (265, ev_176)]
noncomputable def zi_368_10 : ZIs := [(267, ev_12), (269, ev_355), (270, ev_96), (272, ev_22), (273, ev_13), (274, ev_1647), (277, ev_176), (279, ev_198), (280, ev_355), (281, ev_96), (283, ev_22), (284, ev_100), (285, ev_194), (286, ev_13), (287, ev_1647), (290, ev_176)]
noncomputable def zi_368_11 : ZIs := [(292, ev_198), (293, ev_355), (294, ev_96), (296, ev_22), (297, ev_460), (299, ev_194), (300, ev_343), (303, ev_983), (306, ev_12), (308, ev_198), (309, ev_742), (312, ev_1646), (315, ev_483), (316, ev_485), (317, ev_1646), (320, ev_527)]
noncomputable def zi_368_12 : ZIs := [(321, ev_229), (324, ev_483), (325, ev_1651), (326, ev_483), (327, ev_13), (328, ev_1647), (331, ev_525), (333, ev_198), (334, ev_355), (335, ev_100), (336, ev_492), (337, ev_1646), (340, ev_527), (341, ev_1651), (342, ev_13), (343, ev_1647)]
noncomputable def zi_368_13 : ZIs := [(346, ev_525), (348, ev_198), (349, ev_355), (350, ev_100), (351, ev_1653), (354, ev_1654), (357, ev_574), (359, ev_198), (360, ev_7), (361, ev_22), (362, ev_275), (364, ev_276), (366, ev_13), (367, ev_1288), (370, ev_1655), (373, ev_13)]
noncomputable def zi_368_14 : ZIs := [(374, ev_1647), (377, ev_176), (379, ev_276), (381, ev_355), (382, ev_198), (383, ev_22), (384, ev_100), (385, ev_501), (387, ev_492), (388, ev_1646), (391, ev_527), (392, ev_445), (394, ev_198), (395, ev_447), (397, ev_448), (399, ev_13)]
noncomputable def zi_368_15 : ZIs := [(400, ev_1288), (403, ev_1593), (406, ev_13), (407, ev_1647), (410, ev_176), (412, ev_276), (414, ev_355), (415, ev_448), (417, ev_22), (418, ev_13), (419, ev_1647), (422, ev_176), (424, ev_276), (426, ev_355), (427, ev_448), (429, ev_22)]
noncomputable def zi_368_16 : ZIs := [(430, ev_100), (431, ev_1646), (434, ev_462), (436, ev_485), (437, ev_13), (438, ev_1647), (441, ev_176), (443, ev_198), (444, ev_355), (445, ev_448), (447, ev_22), (448, ev_100), (449, ev_492), (450, ev_457), (451, ev_1646), (454, ev_527)]
noncomputable def zi_368_17 : ZIs := [(455, ev_194), (456, ev_464), (459, ev_279), (462, ev_955), (465, ev_1571), (468, ev_300), (471, ev_1656), (474, ev_483), (475, ev_991), (476, ev_98)]
set_option maxRecDepth 100000 in
theorem xi_w368 : zall cX12_trees [zi_368_0, zi_368_1, zi_368_2, zi_368_3, zi_368_4, zi_368_5, zi_368_6, zi_368_7, zi_368_8, zi_368_9, zi_368_10, zi_368_11, zi_368_12, zi_368_13, zi_368_14, zi_368_15, zi_368_16, zi_368_17] := zall_w _ _ (by decide +kernel)
noncomputable def xi_368 (pc : Nat) : XIs := cond (Nat.blt pc 237) (cond (Nat.blt pc 102) (cond (Nat.blt pc 58) (cond (Nat.blt pc 28) (zx zi_368_0) (zx zi_368_1)) (cond (Nat.blt pc 83) (zx zi_368_2) (zx zi_368_3))) (cond (Nat.blt pc 152) (cond (Nat.blt pc 126) (zx zi_368_4) (zx zi_368_5)) (cond (Nat.blt pc 176) (zx zi_368_6) (cond (Nat.blt pc 206) (zx zi_368_7) (zx zi_368_8))))) (cond (Nat.blt pc 346) (cond (Nat.blt pc 292) (cond (Nat.blt pc 267) (zx zi_368_9) (zx zi_368_10)) (cond (Nat.blt pc 321) (zx zi_368_11) (zx zi_368_12))) (cond (Nat.blt pc 400) (cond (Nat.blt pc 374) (zx zi_368_13) (zx zi_368_14)) (cond (Nat.blt pc 430) (zx zi_368_15) (cond (Nat.blt pc 455) (zx zi_368_16) (zx zi_368_17)))))
theorem xi_ok368 (pc : Nat) : xi_ok cX12_trees (xi_368 pc) = true := xi_c (xi_c (xi_c (xi_c (zq1 xi_w368) (zq1 (zq2 xi_w368))) (xi_c (zq1 (zq2 (zq2 xi_w368))) (zq1 (zq2 (zq2 (zq2 xi_w368)))))) (xi_c (xi_c (zq1 (zq2 (zq2 (zq2 (zq2 xi_w368))))) (zq1 (zq2 (zq2 (zq2 (zq2 (zq2 xi_w368))))))) (xi_c (zq1 (zq2 (zq2 (zq2 (zq2 (zq2 (zq2 xi_w368))))))) (xi_c (zq1 (zq2 (zq2 (zq2 (zq2 (zq2 (zq2 (zq2 xi_w368)))))))) (zq1 (zq2 (zq2 (zq2 (zq2 (zq2 (zq2 (zq2 (zq2 xi_w368))))))))))))) (xi_c (xi_c (xi_c (zq1 (zq2 (zq2 (zq2 (zq2 (zq2 (zq2 (zq2 (zq2 (zq2 xi_w368)))))))))) (zq1 (zq2 (zq2 (zq2 (zq2 (zq2 (zq2 (zq2 (zq2 (zq2 (zq2 xi_w368)))))))))))) (xi_c (zq1 (zq2 (zq2 (zq2 (zq2 (zq2 (zq2 (zq2 (zq2 (zq2 (zq2 (zq2 xi_w368)))))))))))) (zq1 (zq2 (zq2 (zq2 (zq2 (zq2 (zq2 (zq2 (zq2 (zq2 (zq2 (zq2 (zq2 xi_w368))))))))))))))) (xi_c (xi_c (zq1 (zq2 (zq2 (zq2 (zq2 (zq2 (zq2 (zq2 (zq2 (zq2 (zq2 (zq2 (zq2 (zq2 xi_w368)))))))))))))) (zq1 (zq2 (zq2 (zq2 (zq2 (zq2 (zq2 (zq2 (zq2 (zq2 (zq2 (zq2 (zq2 (zq2 (zq2 xi_w368)))))))))))))))) (xi_c (zq1 (zq2 (zq2 (zq2 (zq2 (zq2 (zq2 (zq2 (zq2 (zq2 (zq2 (zq2 (zq2 (zq2 (zq2 (zq2 xi_w368)))))))))))))))) (xi_c (zq1 (zq2 (zq2 (zq2 (zq2 (zq2 (zq2 (zq2 (zq2 (zq2 (zq2 (zq2 (zq2 (zq2 (zq2 (zq2 (zq2 xi_w368))))))))))))))))) (zq1 (zq2 (zq2 (zq2 (zq2 (zq2 (zq2 (zq2 (zq2 (zq2 (zq2 (zq2 (zq2 (zq2 (zq2 (zq2 (zq2 (zq2 xi_w368))))))))))))))))))))))
noncomputable def zi_369_0 : ZIs := [(0, ev_13), (1, ev_13), (2, ev_192), (3, ev_1335), (6, ev_488), (9, ev_197), (10, ev_102), (11, ev_230), (12, ev_1657), (15, ev_1316), (18, ev_227), (21, ev_7), (22, ev_229), (25, ev_10), (26, ev_1175), (29, ev_104)]
noncomputable def zi_369_1 : ZIs := [(32, ev_230), (33, ev_481), (34, ev_10), (35, ev_295), (36, ev_198), (37, ev_13), (38, ev_1288), (41, ev_943), (44, ev_13), (45, ev_1658), (48, ev_198), (49, ev_1659), (52, ev_194), (53, ev_13), (54, ev_1660), (57, ev_198)]
noncomputable def zi_369_2 : ZIs := [(58, ev_10), (59, ev_299), (60, ev_300), (63, ev_360), (66, ev_13), (67, ev_1291), (70, ev_295), (71, ev_198), (72, ev_13), (73, ev_1291), (76, ev_529), (79, ev_22), (80, ev_340), (83, ev_13), (84, ev_1290), (87, ev_198)]
noncomputable def zi_369_3 : ZIs := [(88, ev_1292), (89, ev_393), (92, ev_13), (93, ev_1660), (96, ev_13), (97, ev_1302), (100, ev_198), (101, ev_18), (102, ev_316), (103, ev_18), (104, ev_7), (105, ev_22), (106, ev_299), (107, ev_300), (110, ev_719), (113, ev_10)]
noncomputable def zi_369_4 : ZIs := [(114, ev_295), (115, ev_198), (116, ev_197), (117, ev_1661), (120, ev_230), (121, ev_442), (123, ev_10), (124, ev_28), (126, ev_101), (128, ev_13), (129, ev_1288), (132, ev_863), (135, ev_247), (137, ev_13), (138, ev_1658), (141, ev_101)]
noncomputable def zi_369_5 : ZIs := [(143, ev_100), (144, ev_457), (145, ev_442), (147, ev_13), (148, ev_1662), (151, ev_101), (153, ev_230), (154, ev_194), (155, ev_320), (158, ev_693), (161, ev_13), (162, ev_1291), (165, ev_28), (167, ev_101), (169, ev_13), (170, ev_1291)]
noncomputable def zi_369_6 : ZIs := [(173, ev_529), (176, ev_22), (177, ev_965), (180, ev_13), (181, ev_1290), (184, ev_101), (186, ev_1292), (187, ev_272), (190, ev_13), (191, ev_1658), (194, ev_13), (195, ev_1302), (198, ev_101), (200, ev_18), (201, ev_100), (202, ev_1663)]
noncomputable def zi_369_7 : ZIs := [(205, ev_492), (206, ev_1664), (209, ev_13), (210, ev_1660), (213, ev_13), (214, ev_1302), (217, ev_101), (219, ev_18), (220, ev_18), (221, ev_102), (222, ev_492), (223, ev_490), (224, ev_921), (226, ev_13), (227, ev_1662), (230, ev_13)]
noncomputable def zi_369_8 : ZIs := [(231, ev_1038), (234, ev_101), (236, ev_18), (237, ev_316), (238, ev_100), (239, ev_922), (241, ev_457), (242, ev_194), (243, ev_247), (245, ev_922), (247, ev_485), (248, ev_442), (250, ev_320), (253, ev_1503), (256, ev_10), (257, ev_28)]
noncomputable def zi_369_9 : ZIs := [(259, ev_101), (261, ev_13), (262, ev_1288), (265, ev_1665), (268, ev_13), (269, ev_1658), (272, ev_101), (274, ev_13), (275, ev_1662), (278, ev_101), (280, ev_100), (281, ev_247), (283, ev_13), (284, ev_1288), (287, ev_102), (288, ev_490)]
noncomputable def zi_369_10 : ZIs := [(289, ev_457), (290, ev_101), (292, ev_102), (293, ev_247), (295, ev_13), (296, ev_1288), (299, ev_102), (300, ev_527), (301, ev_103), (302, ev_486), (305, ev_228), (306, ev_229), (309, ev_230), (310, ev_457), (311, ev_194), (312, ev_320)]
noncomputable def zi_369_11 : ZIs := [(315, ev_503), (318, ev_300), (321, ev_1666), (324, ev_13), (325, ev_1658), (328, ev_192), (329, ev_100), (330, ev_481)]
set_option maxRecDepth 100000 in
theorem xi_w369 : zall cX12_rank [zi_369_0, zi_369_1, zi_369_2, zi_369_3, zi_369_4, zi_369_5, zi_369_6, zi_369_7, zi_369_8, zi_369_9, zi_369_10, zi_369_11] := zall_w _ _ (by decide +kernel)
noncomputable def xi_369 (pc : Nat) : XIs := cond (Nat.blt pc 173) (cond (Nat.blt pc 88) (cond (Nat.blt pc 32) (zx zi_369_0) (cond (Nat.blt pc 58) (zx zi_369_1) (zx zi_369_2))) (cond (Nat.blt pc 114) (zx zi_369_3) (cond (Nat.blt pc 143) (zx zi_369_4) (zx zi_369_5)))) (cond (Nat.blt pc 259) (cond (Nat.blt pc 205) (zx zi_369_6) (cond (Nat.blt pc 231) (zx zi_369_7) (zx zi_369_8))) (cond (Nat.blt pc 289) (zx zi_369_9) (cond (Nat.blt pc 315) (zx zi_369_10) (zx zi_369_11))))
theorem xi_ok369 (pc : Nat) : xi_ok cX12_rank (xi_369 pc) = true := xi_c (xi_c (xi_c (zq1 xi_w369) (xi_c (zq1 (zq2 xi_w369)) (zq1 (zq2 (zq2 xi_w369))))) (xi_c (zq1 (zq2 (zq2 (zq2 xi_w369)))) (xi_c (zq1 (zq2 (zq2 (zq2 (zq2 xi_w369))))) (zq1 (zq2 (zq2 (zq2 (zq2 (zq2 xi_w369))))))))) (xi_c (xi_c (zq1 (zq2 (zq2 (zq2 (zq2 (zq2 (zq2 xi_w369))))))) (xi_c (zq1 (zq2 (zq2 (zq2 (zq2 (zq2 (zq2 (zq2 xi_w369)))))))) (zq1 (zq2 (zq2 (zq2 (zq2 (zq2 (zq2 (zq2 (zq2 xi_w369))))))))))) (xi_c (zq1 (zq2 (zq2 (zq2 (zq2 (zq2 (zq2 (zq2 (zq2 (zq2 xi_w369)))))))))) (xi_c (zq1 (zq2 (zq2 (zq2 (zq2 (zq2 (zq2 (zq2 (zq2 (zq2 (zq2 xi_w369))))))))))) (zq1 (zq2 (zq2 (zq2 (zq2 (zq2 (zq2 (zq2 (zq2 (zq2 (zq2 (zq2 xi_w369)))))))))))))))
end
section
noncomputable def zi_370_0 : ZIs := [(0, ev_10), (1, ev_25), (3, ev_96), (5, ev_13), (6, ev_1288), (9, ev_1586), (12, ev_23), (13, ev_96), (15, ev_96), (17, ev_192), (18, ev_818), (21, ev_10), (22, ev_229), (25, ev_252), (26, ev_299), (27, ev_203)]
noncomputable def zi_370_1 : ZIs := [(29, ev_96), (31, ev_96), (33, ev_192), (34, ev_818), (37, ev_228), (38, ev_229), (41, ev_230), (42, ev_194), (43, ev_343), (46, ev_408), (49, ev_10), (50, ev_25), (52, ev_96), (54, ev_13), (55, ev_1288), (58, ev_1637)]
noncomputable def zi_370_2 : ZIs := [(61, ev_13), (62, ev_1291), (65, ev_28), (67, ev_101), (69, ev_13), (70, ev_1291), (73, ev_529), (76, ev_22), (77, ev_470), (80, ev_197), (81, ev_634), (84, ev_13), (85, ev_1038), (88, ev_101), (90, ev_18), (91, ev_633)]
noncomputable def zi_370_3 : ZIs := [(94, ev_13), (95, ev_1302), (98, ev_101), (100, ev_18), (101, ev_275), (103, ev_197), (104, ev_634), (107, ev_13), (108, ev_1302), (111, ev_101), (113, ev_18), (114, ev_633), (117, ev_13), (118, ev_1038), (121, ev_101), (123, ev_18)]
noncomputable def zi_370_4 : ZIs := [(124, ev_313), (126, ev_13), (127, ev_1290), (130, ev_101), (132, ev_1292), (133, ev_1617), (136, ev_23), (137, ev_276), (139, ev_18), (140, ev_96), (142, ev_975), (145, ev_23), (146, ev_314), (148, ev_18), (149, ev_1158), (152, ev_23)]
noncomputable def zi_370_5 : ZIs := [(153, ev_314), (155, ev_18), (156, ev_96), (158, ev_7), (159, ev_22), (160, ev_891), (163, ev_23), (164, ev_314), (166, ev_96), (168, ev_7), (169, ev_22), (170, ev_299), (171, ev_203), (173, ev_314), (175, ev_203), (177, ev_314)]
noncomputable def zi_370_6 : ZIs := [(179, ev_100), (180, ev_203), (182, ev_276), (184, ev_100), (185, ev_457), (186, ev_1646), (189, ev_527), (190, ev_194), (191, ev_320), (194, ev_1667), (197, ev_343), (200, ev_1642), (203, ev_260)]
set_option maxRecDepth 100000 in
theorem xi_w370 : zall cX12_hop [zi_370_0, zi_370_1, zi_370_2, zi_370_3, zi_370_4, zi_370_5, zi_370_6] := zall_w _ _ (by decide +kernel)
noncomputable def xi_370 (pc : Nat) : XIs := cond (Nat.blt pc 94) (cond (Nat.blt pc 29) (zx zi_370_0) (cond (Nat.blt pc 61) (zx zi_370_1) (zx zi_370_2))) (cond (Nat.blt pc 153) (cond (Nat.blt pc 124) (zx zi_370_3) (zx zi_370_4)) (cond (Nat.blt pc 179) (zx zi_370_5) (zx zi_370_6)))
theorem xi_ok370 (pc : Nat) : xi_ok cX12_hop (xi_370 pc) = true := xi_c (xi_c (zq1 xi_w370) (xi_c (zq1 (zq2 xi_w370)) (zq1 (zq2 (zq2 xi_w370))))) (xi_c (xi_c (zq1 (zq2 (zq2 (zq2 xi_w370)))) (zq1 (zq2 (zq2 (zq2 (zq2 xi_w370)))))) (xi_c (zq1 (zq2 (zq2 (zq2 (zq2 (zq2 xi_w370)))))) (zq1 (zq2 (zq2 (zq2 (zq2 (zq2 (zq2 xi_w370)))))))))
noncomputable def zi_371_0 : ZIs := [(0, ev_13), (1, ev_13), (2, ev_192), (3, ev_1335), (6, ev_1396), (9, ev_13), (10, ev_197), (11, ev_1335), (14, ev_617), (17, ev_198), (18, ev_102), (19, ev_230), (20, ev_1645), (23, ev_1316), (26, ev_417), (29, ev_13)]
noncomputable def zi_371_1 : ZIs := [(30, ev_12), (32, ev_1335), (35, ev_227), (38, ev_7), (39, ev_229), (42, ev_10), (43, ev_1175), (46, ev_104), (49, ev_10), (50, ev_98), (51, ev_13), (52, ev_192), (53, ev_10), (54, ev_13), (55, ev_1068), (58, ev_13)]
noncomputable def zi_371_2 : ZIs := [(59, ev_1668), (62, ev_1669), (65, ev_13), (66, ev_197), (67, ev_7), (68, ev_13), (69, ev_1670), (72, ev_13), (73, ev_1671), (76, ev_1669), (79, ev_198), (80, ev_381), (83, ev_13), (84, ev_1068), (87, ev_197), (88, ev_18)]
noncomputable def zi_371_3 : ZIs := [(89, ev_98), (90, ev_198), (91, ev_7), (92, ev_706), (95, ev_13), (96, ev_1668), (99, ev_197), (100, ev_100), (101, ev_991), (102, ev_98), (103, ev_13), (104, ev_1068), (107, ev_12), (109, ev_18), (110, ev_1612), (113, ev_13)]
noncomputable def zi_371_4 : ZIs := [(114, ev_1670), (117, ev_12), (119, ev_18), (120, ev_1622), (123, ev_13), (124, ev_1068), (127, ev_12), (129, ev_18), (130, ev_13), (131, ev_1670), (134, ev_12), (136, ev_18), (137, ev_22), (138, ev_13), (139, ev_1068), (142, ev_197)]
noncomputable def zi_371_5 : ZIs := [(143, ev_18), (144, ev_818), (147, ev_7), (148, ev_229), (151, ev_10), (152, ev_25), (154, ev_96), (156, ev_1169), (159, ev_13), (160, ev_1668), (163, ev_12), (165, ev_100), (166, ev_13), (167, ev_1671), (170, ev_12), (172, ev_100)]
noncomputable def zi_371_6 : ZIs := [(173, ev_492), (174, ev_1646), (177, ev_527), (178, ev_991), (179, ev_229), (182, ev_10), (183, ev_98)]
set_option maxRecDepth 100000 in
theorem xi_w371 : zall cX12_shortest [zi_371_0, zi_371_1, zi_371_2, zi_371_3, zi_371_4, zi_371_5, zi_371_6] := zall_w _ _ (by decide +kernel)
noncomputable def xi_371 (pc : Nat) : XIs := cond (Nat.blt pc 89) (cond (Nat.blt pc 30) (zx zi_371_0) (cond (Nat.blt pc 59) (zx zi_371_1) (zx zi_371_2))) (cond (Nat.blt pc 143) (cond (Nat.blt pc 114) (zx zi_371_3) (zx zi_371_4)) (cond (Nat.blt pc 173) (zx zi_371_5) (zx zi_371_6)))
theorem xi_ok371 (pc : Nat) : xi_ok cX12_shortest (xi_371 pc) = true := xi_c (xi_c (zq1 xi_w371) (xi_c (zq1 (zq2 xi_w371)) (zq1 (zq2 (zq2 xi_w371))))) (xi_c (xi_c (zq1 (zq2 (zq2 (zq2 xi_w371)))) (zq1 (zq2 (zq2 (zq2 (zq2 xi_w371)))))) (xi_c (zq1 (zq2 (zq2 (zq2 (zq2 (zq2 xi_w371)))))) (zq1 (zq2 (zq2 (zq2 (zq2 (zq2 (zq2 xi_w371)))))))))
noncomputable def zi_372_0 : ZIs := [(0, ev_1645), (3, ev_13), (4, ev_1672), (7, ev_102), (8, ev_492), (9, ev_13), (10, ev_1673), (13, ev_176), (15, ev_192), (16, ev_355), (17, ev_197), (18, ev_22), (19, ev_18), (20, ev_102), (21, ev_492), (22, ev_13)]
noncomputable def zi_372_1 : ZIs := [(23, ev_1674), (26, ev_192), (27, ev_18), (28, ev_102), (29, ev_13), (30, ev_1674), (33, ev_197), (34, ev_18), (35, ev_102), (36, ev_492), (37, ev_485), (38, ev_481)]
set_option maxRecDepth 100000 in
theorem xi_w372 : zall cX12_gainOf [zi_372_0, zi_372_1] := zall_w _ _ (by decide +kernel)
noncomputable def xi_372 (pc : Nat) : XIs := cond (Nat.blt pc 23) (zx zi_372_0) (zx zi_372_1)
theorem xi_ok372 (pc : Nat) : xi_ok cX12_gainOf (xi_372 pc) = true := xi_c (zq1 xi_w372) (zq1 (zq2 xi_w372))
noncomputable def zi_373_0 : ZIs := [(0, ev_230), (1, ev_924), (2, ev_10), (3, ev_25), (5, ev_96), (7, ev_13), (8, ev_1288), (11, ev_1586), (14, ev_484), (15, ev_96), (17, ev_192), (18, ev_1481), (21, ev_13), (22, ev_1675), (25, ev_96), (27, ev_18)]
noncomputable def zi_373_1 : ZIs := [(28, ev_197), (29, ev_927), (32, ev_13), (33, ev_192), (34, ev_96), (36, ev_1676), (39, ev_229), (42, ev_230), (43, ev_457), (44, ev_924), (45, ev_343), (48, ev_408), (51, ev_484), (52, ev_481)]
set_option maxRecDepth 100000 in
theorem xi_w373 : zall cX12_gainIn [zi_373_0, zi_373_1] := zall_w _ _ (by decide +kernel)
noncomputable def xi_373 (pc : Nat) : XIs := cond (Nat.blt pc 28) (zx zi_373_0) (zx zi_373_1)
theorem xi_ok373 (pc : Nat) : xi_ok cX12_gainIn (xi_373 pc) = true := xi_c (zq1 xi_w373) (zq1 (zq2 xi_w373))
noncomputable def zi_374_0 : ZIs := [(0, ev_13), (1, ev_10), (2, ev_1677), (5, ev_10), (6, ev_685), (7, ev_192), (8, ev_528), (11, ev_1114), (14, ev_13), (15, ev_1673), (18, ev_192), (19, ev_10), (20, ev_299), (21, ev_688), (24, ev_1509), (27, ev_10)]
noncomputable def zi_374_1 : ZIs := [(28, ev_685), (29, ev_192), (30, ev_13), (31, ev_1288), (34, ev_346), (37, ev_13), (38, ev_1674), (41, ev_192), (42, ev_10), (43, ev_299), (44, ev_13), (45, ev_1675), (48, ev_192), (49, ev_192), (50, ev_299), (51, ev_688)]
noncomputable def zi_374_2 : ZIs := [(54, ev_319), (57, ev_10), (58, ev_685), (59, ev_192), (60, ev_529), (63, ev_1678), (66, ev_13), (67, ev_192), (68, ev_1178), (71, ev_1419), (74, ev_13), (75, ev_1), (76, ev_1672), (79, ev_7), (80, ev_22), (81, ev_1677)]
noncomputable def zi_374_3 : ZIs := [(84, ev_13), (85, ev_1674), (88, ev_13), (89, ev_1302), (92, ev_13), (93, ev_1291), (96, ev_192), (97, ev_22), (98, ev_18), (99, ev_316), (100, ev_18), (101, ev_7), (102, ev_22), (103, ev_299), (104, ev_13), (105, ev_1674)]
noncomputable def zi_374_4 : ZIs := [(108, ev_13), (109, ev_1038), (112, ev_13), (113, ev_1291), (116, ev_192), (117, ev_22), (118, ev_18), (119, ev_316), (120, ev_18), (121, ev_7), (122, ev_22), (123, ev_299), (124, ev_13), (125, ev_1673), (128, ev_176), (130, ev_13)]
noncomputable def zi_374_5 : ZIs := [(131, ev_1302), (134, ev_13), (135, ev_1291), (138, ev_192), (139, ev_22), (140, ev_18), (141, ev_355), (142, ev_13), (143, ev_1038), (146, ev_13), (147, ev_1291), (150, ev_192), (151, ev_22), (152, ev_18), (153, ev_22), (154, ev_316)]
noncomputable def zi_374_6 : ZIs := [(155, ev_18), (156, ev_7), (157, ev_22), (158, ev_299), (159, ev_13), (160, ev_1673), (163, ev_176), (165, ev_13), (166, ev_1038), (169, ev_13), (170, ev_1291), (173, ev_192), (174, ev_22), (175, ev_18), (176, ev_355), (177, ev_13)]
noncomputable def zi_374_7 : ZIs := [(178, ev_1302), (181, ev_13), (182, ev_1291), (185, ev_192), (186, ev_22), (187, ev_18), (188, ev_22), (189, ev_316), (190, ev_18), (191, ev_7), (192, ev_22), (193, ev_299), (194, ev_688), (197, ev_977), (200, ev_7), (201, ev_685)]
noncomputable def zi_374_8 : ZIs := [(202, ev_10), (203, ev_294), (204, ev_197), (205, ev_732), (207, ev_505), (210, ev_192), (211, ev_272), (214, ev_10), (215, ev_685), (216, ev_10), (217, ev_295), (218, ev_198), (219, ev_13), (220, ev_1288), (223, ev_848), (226, ev_13)]
noncomputable def zi_374_9 : ZIs := [(227, ev_198), (228, ev_1679), (231, ev_11), (233, ev_192), (234, ev_390), (237, ev_12), (239, ev_13), (240, ev_1675), (243, ev_198), (244, ev_18), (245, ev_681), (248, ev_7), (249, ev_229), (252, ev_10), (253, ev_685), (254, ev_13)]
noncomputable def zi_374_10 : ZIs := [(255, ev_1675), (258, ev_198), (259, ev_12), (261, ev_299), (262, ev_300), (265, ev_850), (268, ev_304), (271, ev_1413), (274, ev_260)]
set_option maxRecDepth 100000 in
theorem xi_w374 : zall cX12_findGroups [zi_374_0, zi_374_1, zi_374_2, zi_374_3, zi_374_4, zi_374_5, zi_374_6, zi_374_7, zi_374_8, zi_374_9, zi_374_10] := zall_w _ _ (by decide +kernel)
noncomputable def xi_374 (pc : Nat) : XIs := cond (Nat.blt pc 131) (cond (Nat.blt pc 54) (cond (Nat.blt pc 28) (zx zi_374_0) (zx zi_374_1)) (cond (Nat.blt pc 84) (zx zi_374_2) (cond (Nat.blt pc 108) (zx zi_374_3) (zx zi_374_4)))) (cond (Nat.blt pc 202) (cond (Nat.blt pc 155) (zx zi_374_5) (cond (Nat.blt pc 178) (zx zi_374_6) (zx zi_374_7))) (cond (Nat.blt pc 227) (zx zi_374_8) (cond (Nat.blt pc 255) (zx zi_374_9) (zx zi_374_10))))
theorem xi_ok374 (pc : Nat) : xi_ok cX12_findGroups (xi_374 pc) = true := xi_c (xi_c (xi_c (zq1 xi_w374) (zq1 (zq2 xi_w374))) (xi_c (zq1 (zq2 (zq2 xi_w374))) (xi_c (zq1 (zq2 (zq2 (zq2 xi_w374)))) (zq1 (zq2 (zq2 (zq2 (zq2 xi_w374)))))))) (xi_c (xi_c (zq1 (zq2 (zq2 (zq2 (zq2 (zq2 xi_w374)))))) (xi_c (zq1 (zq2 (zq2 (zq2 (zq2 (zq2 (zq2 xi_w374))))))) (zq1 (zq2 (zq2 (zq2 (zq2 (zq2 (zq2 (zq2 xi_w374)))))))))) (xi_c (zq1 (zq2 (zq2 (zq2 (zq2 (zq2 (zq2 (zq2 (zq2 xi_w374))))))))) (xi_c (zq1 (zq2 (zq2 (zq2 (zq2 (zq2 (zq2 (zq2 (zq2 (zq2 xi_w374)))))))))) (zq1 (zq2 (zq2 (zq2 (zq2 (zq2 (zq2 (zq2 (zq2 (zq2 (zq2 xi_w374))))))))))))))
noncomputable def zi_375_0 : ZIs := [(0, ev_412), (2, ev_295), (3, ev_13), (4, ev_1288), (7, ev_7), (8, ev_16), (9, ev_11), (11, ev_12), (13, ev_1680), (16, ev_13), (17, ev_1675), (20, ev_12), (22, ev_18), (23, ev_192), (24, ev_798), (27, ev_12)]
noncomputable def zi_375_1 : ZIs := [(29, ev_197), (30, ev_1681), (33, ev_12), (35, ev_229), (38, ev_198), (39, ev_295), (40, ev_1682), (43, ev_693), (46, ev_198), (47, ev_98)]
set_option maxRecDepth 100000 in
theorem xi_w375 : zall cX12_leastOf [zi_375_0, zi_375_1] := zall_w _ _ (by decide +kernel)
noncomputable def xi_375 (pc : Nat) : XIs := cond (Nat.blt pc 29) (zx zi_375_0) (zx zi_375_1)
theorem xi_ok375 (pc : Nat) : xi_ok cX12_leastOf (xi_375 pc) = true := xi_c (zq1 xi_w375) (zq1 (zq2 xi_w375))
noncomputable def zi_376_0 : ZIs := [(0, ev_13), (1, ev_192), (2, ev_13), (3, ev_1675), (6, ev_192), (7, ev_18), (8, ev_1683), (11, ev_517), (12, ev_13), (13, ev_1675), (16, ev_192), (17, ev_18), (18, ev_11), (20, ev_252), (21, ev_25), (23, ev_13)]
noncomputable def zi_376_1 : ZIs := [(24, ev_13), (25, ev_1675), (28, ev_192), (29, ev_18), (30, ev_192), (31, ev_1684), (34, ev_412), (36, ev_818), (39, ev_7), (40, ev_229), (43, ev_10), (44, ev_28), (46, ev_10), (47, ev_275), (49, ev_276), (51, ev_13)]
noncomputable def zi_376_2 : ZIs := [(52, ev_1288), (55, ev_1685), (58, ev_276), (60, ev_192), (61, ev_1686), (64, ev_13), (65, ev_1673), (68, ev_176), (70, ev_192), (71, ev_355), (72, ev_276), (74, ev_22), (75, ev_18), (76, ev_1072), (79, ev_13), (80, ev_1675)]
noncomputable def zi_376_3 : ZIs := [(83, ev_276), (85, ev_18), (86, ev_13), (87, ev_1675), (90, ev_192), (91, ev_18), (92, ev_1687), (95, ev_13), (96, ev_192), (97, ev_13), (98, ev_1675), (101, ev_276), (103, ev_18), (104, ev_1683), (107, ev_445), (109, ev_13)]
noncomputable def zi_376_4 : ZIs := [(110, ev_13), (111, ev_1675), (114, ev_276), (116, ev_18), (117, ev_192), (118, ev_1684), (121, ev_447), (123, ev_462), (125, ev_489), (126, ev_103), (127, ev_1688), (130, ev_462), (132, ev_489), (133, ev_103), (134, ev_1689), (137, ev_96)]
noncomputable def zi_376_5 : ZIs := [(139, ev_1690), (142, ev_448), (144, ev_96), (146, ev_622), (149, ev_462), (151, ev_517), (152, ev_13), (153, ev_1675), (156, ev_276), (158, ev_18), (159, ev_11), (161, ev_448), (163, ev_25), (165, ev_955), (168, ev_989), (171, ev_101)]
noncomputable def zi_376_6 : ZIs := [(173, ev_390), (176, ev_489), (177, ev_230), (178, ev_103), (179, ev_1400), (182, ev_13), (183, ev_1691), (186, ev_98), (187, ev_12), (189, ev_98)]
set_option maxRecDepth 100000 in
theorem xi_w376 : zall cX12_bestGroup [zi_376_0, zi_376_1, zi_376_2, zi_376_3, zi_376_4, zi_376_5, zi_376_6] := zall_w _ _ (by decide +kernel)
noncomputable def xi_376 (pc : Nat) : XIs := cond (Nat.blt pc 83) (cond (Nat.blt pc 24) (zx zi_376_0) (cond (Nat.blt pc 52) (zx zi_376_1) (zx zi_376_2))) (cond (Nat.blt pc 139) (cond (Nat.blt pc 110) (zx zi_376_3) (zx zi_376_4)) (cond (Nat.blt pc 173) (zx zi_376_5) (zx zi_376_6)))
theorem xi_ok376 (pc : Nat) : xi_ok cX12_bestGroup (xi_376 pc) = true := xi_c (xi_c (zq1 xi_w376) (xi_c (zq1 (zq2 xi_w376)) (zq1 (zq2 (zq2 xi_w376))))) (xi_c (xi_c (zq1 (zq2 (zq2 (zq2 xi_w376)))) (zq1 (zq2 (zq2 (zq2 (zq2 xi_w376)))))) (xi_c (zq1 (zq2 (zq2 (zq2 (zq2 (zq2 xi_w376)))))) (zq1 (zq2 (zq2 (zq2 (zq2 (zq2 (zq2 xi_w376)))))))))
noncomputable def zi_377_0 : ZIs := [(0, ev_10), (1, ev_685), (2, ev_13), (3, ev_192), (4, ev_252), (5, ev_1684), (8, ev_412), (10, ev_472), (13, ev_688), (16, ev_1154), (19, ev_192), (20, ev_98)]
set_option maxRecDepth 100000 in
theorem xi_w377 : zall cX12_freeGroup [zi_377_0] := zall_w _ _ (by decide +kernel)
noncomputable def xi_377 (pc : Nat) : XIs := zx zi_377_0
theorem xi_ok377 (pc : Nat) : xi_ok cX12_freeGroup (xi_377 pc) = true := zq1 xi_w377
noncomputable def zi_378_0 : ZIs := [(0, ev_13), (1, ev_13), (2, ev_192), (3, ev_1335), (6, ev_1175), (9, ev_104), (12, ev_10), (13, ev_98), (14, ev_13), (15, ev_1692), (18, ev_13), (19, ev_13), (20, ev_1675), (23, ev_192), (24, ev_18), (25, ev_252)]
noncomputable def zi_378_1 : ZIs := [(26, ev_1684), (29, ev_98)]
set_option maxRecDepth 100000 in
theorem xi_w378 : zall cX12_group [zi_378_0, zi_378_1] := zall_w _ _ (by decide +kernel)
noncomputable def xi_378 (pc : Nat) : XIs := cond (Nat.blt pc 26) (zx zi_378_0) (zx zi_378_1)
theorem xi_ok378 (pc : Nat) : xi_ok cX12_group (xi_378 pc) = true := xi_c (zq1 xi_w378) (zq1 (zq2 xi_w378))
noncomputable def zi_379_0 : ZIs := [(0, ev_13), (1, ev_10), (2, ev_1286), (5, ev_13), (6, ev_1692), (9, ev_230), (10, ev_1651), (11, ev_10), (12, ev_295), (13, ev_198), (14, ev_13), (15, ev_1288), (18, ev_346), (21, ev_483), (22, ev_13), (23, ev_198)]
noncomputable def zi_379_1 : ZIs := [(24, ev_13), (25, ev_1675), (28, ev_198), (29, ev_18), (30, ev_1683), (33, ev_457), (34, ev_1651), (35, ev_300), (38, ev_319), (41, ev_483), (42, ev_481)]
set_option maxRecDepth 100000 in
theorem xi_w379 : zall cX12_gain [zi_379_0, zi_379_1] := zall_w _ _ (by decide +kernel)
noncomputable def xi_379 (pc : Nat) : XIs := cond (Nat.blt pc 24) (zx zi_379_0) (zx zi_379_1)
theorem xi_ok379 (pc : Nat) : xi_ok cX12_gain (xi_379 pc) = true := xi_c (zq1 xi_w379) (zq1 (zq2 xi_w379))
noncomputable def zi_380_0 : ZIs := [(0, ev_13), (1, ev_192), (2, ev_102), (3, ev_230), (4, ev_228), (5, ev_1316), (8, ev_1175), (11, ev_104), (14, ev_230), (15, ev_481), (16, ev_13), (17, ev_1510), (20, ev_230), (21, ev_517), (22, ev_10), (23, ev_11)]
noncomputable def zi_380_1 : ZIs := [(25, ev_12), (27, ev_13), (28, ev_1288), (31, ev_588), (34, ev_12), (36, ev_7), (37, ev_22), (38, ev_25), (40, ev_96), (42, ev_13), (43, ev_1288), (46, ev_449), (49, ev_13), (50, ev_1506), (53, ev_12), (55, ev_18)]
noncomputable def zi_380_2 : ZIs := [(56, ev_13), (57, ev_1506), (60, ev_96), (62, ev_18), (63, ev_20), (64, ev_1515), (67, ev_102), (68, ev_58), (70, ev_489), (71, ev_192), (72, ev_7), (73, ev_1497), (76, ev_460), (78, ev_460), (80, ev_228), (81, ev_485)]
noncomputable def zi_380_3 : ZIs := [(82, ev_492), (83, ev_1645), (86, ev_490), (87, ev_1436), (90, ev_13), (91, ev_1506), (94, ev_12), (96, ev_18), (97, ev_96), (99, ev_1418), (102, ev_330), (105, ev_460), (107, ev_229), (110, ev_230), (111, ev_457), (112, ev_517)]
noncomputable def zi_380_4 : ZIs := [(113, ev_343), (116, ev_820), (119, ev_348), (122, ev_595), (125, ev_192), (126, ev_1116), (129, ev_489), (130, ev_1330), (133, ev_490), (134, ev_986), (137, ev_489), (138, ev_1645), (141, ev_490), (142, ev_481)]
set_option maxRecDepth 100000 in
theorem xi_w380 : zall cX12_figures [zi_380_0, zi_380_1, zi_380_2, zi_380_3, zi_380_4] := zall_w _ _ (by decide +kernel)
noncomputable def xi_380 (pc : Nat) : XIs := cond (Nat.blt pc 56) (cond (Nat.blt pc 25) (zx zi_380_0) (zx zi_380_1)) (cond (Nat.blt pc 82) (zx zi_380_2) (cond (Nat.blt pc 113) (zx zi_380_3) (zx zi_380_4)))
theorem xi_ok380 (pc : Nat) : xi_ok cX12_figures (xi_380 pc) = true := xi_c (xi_c (zq1 xi_w380) (zq1 (zq2 xi_w380))) (xi_c (zq1 (zq2 (zq2 xi_w380))) (xi_c (zq1 (zq2 (zq2 (zq2 xi_w380)))) (zq1 (zq2 (zq2 (zq2 (zq2 xi_w380)))))))
noncomputable def zi_381_0 : ZIs := [(0, ev_13), (1, ev_1693), (4, ev_13), (5, ev_1694), (8, ev_10), (9, ev_1301), (10, ev_13), (11, ev_1695), (14, ev_13), (15, ev_1694), (18, ev_10), (19, ev_1301), (20, ev_13), (21, ev_1137), (24, ev_13), (25, ev_1694)]
noncomputable def zi_381_1 : ZIs := [(28, ev_230), (29, ev_194), (30, ev_13), (31, ev_1138), (34, ev_13), (35, ev_1694), (38, ev_230), (39, ev_194), (40, ev_13), (41, ev_1696), (44, ev_260)]
set_option maxRecDepth 100000 in
theorem xi_w381 : zall cX12_beginAlternative [zi_381_0, zi_381_1] := zall_w _ _ (by decide +kernel)
noncomputable def xi_381 (pc : Nat) : XIs := cond (Nat.blt pc 28) (zx zi_381_0) (zx zi_381_1)
theorem xi_ok381 (pc : Nat) : xi_ok cX12_beginAlternative (xi_381 pc) = true := xi_c (zq1 xi_w381) (zq1 (zq2 xi_w381))
noncomputable def zi_382_0 : ZIs := [(0, ev_13), (1, ev_1697), (4, ev_13), (5, ev_1694), (8, ev_7), (9, ev_1301), (10, ev_13), (11, ev_1698), (14, ev_13), (15, ev_1694), (18, ev_230), (19, ev_194), (20, ev_13), (21, ev_1699), (24, ev_13), (25, ev_1694)]
noncomputable def zi_382_1 : ZIs := [(28, ev_230), (29, ev_194), (30, ev_13), (31, ev_10), (32, ev_1700), (35, ev_13), (36, ev_10), (37, ev_1701), (40, ev_260)]
set_option maxRecDepth 100000 in
theorem xi_w382 : zall cX12_beginSequence [zi_382_0, zi_382_1] := zall_w _ _ (by decide +kernel)
noncomputable def xi_382 (pc : Nat) : XIs := cond (Nat.blt pc 28) (zx zi_382_0) (zx zi_382_1)
theorem xi_ok382 (pc : Nat) : xi_ok cX12_beginSequence (xi_382 pc) = true := xi_c (zq1 xi_w382) (zq1 (zq2 xi_w382))
noncomputable def zi_383_0 : ZIs := [(0, ev_10), (1, ev_25), (3, ev_96), (5, ev_389), (7, ev_297), (10, ev_13), (11, ev_1702), (14, ev_96), (16, ev_316), (17, ev_100), (18, ev_483), (19, ev_96), (21, ev_907), (22, ev_228), (23, ev_179), (24, ev_228)]
noncomputable def zi_383_1 : ZIs := [(25, ev_103), (26, ev_326), (29, ev_484), (30, ev_229), (33, ev_230), (34, ev_180), (35, ev_194), (36, ev_343), (39, ev_1015), (42, ev_260)]
set_option maxRecDepth 100000 in
theorem xi_w383 : zall cX12_follow [zi_383_0, zi_383_1] := zall_w _ _ (by decide +kernel)
noncomputable def xi_383 (pc : Nat) : XIs := cond (Nat.blt pc 25) (zx zi_383_0) (zx zi_383_1)
theorem xi_ok383 (pc : Nat) : xi_ok cX12_follow (xi_383 pc) = true := xi_c (zq1 xi_w383) (zq1 (zq2 xi_w383))
noncomputable def zi_384_0 : ZIs := [(0, ev_13), (1, ev_1703), (4, ev_1704), (7, ev_13), (8, ev_13), (9, ev_1699), (12, ev_13), (13, ev_1694), (16, ev_100), (17, ev_13), (18, ev_1705), (21, ev_1706), (24, ev_13), (25, ev_1698), (28, ev_13), (29, ev_1694)]
noncomputable def zi_384_1 : ZIs := [(32, ev_316), (33, ev_100), (34, ev_13), (35, ev_1697), (38, ev_13), (39, ev_1694), (42, ev_1292), (43, ev_385), (46, ev_13), (47, ev_1705), (50, ev_229), (53, ev_230), (54, ev_180), (55, ev_194), (56, ev_13), (57, ev_1699)]
noncomputable def zi_384_2 : ZIs := [(60, ev_13), (61, ev_1694), (64, ev_13), (65, ev_1707), (68, ev_13), (69, ev_1708), (72, ev_771), (75, ev_13), (76, ev_1699), (79, ev_13), (80, ev_1694), (83, ev_100), (84, ev_229), (87, ev_230), (88, ev_180), (89, ev_194)]
noncomputable def zi_384_3 : ZIs := [(90, ev_13), (91, ev_1697), (94, ev_13), (95, ev_1694), (98, ev_13), (99, ev_1697), (102, ev_13), (103, ev_1694), (106, ev_1292), (107, ev_1004), (110, ev_13), (111, ev_1708), (114, ev_227), (117, ev_7), (118, ev_229), (121, ev_10)]
noncomputable def zi_384_4 : ZIs := [(122, ev_1301), (123, ev_13), (124, ev_10), (125, ev_1700), (128, ev_13), (129, ev_10), (130, ev_1701), (133, ev_260)]
set_option maxRecDepth 100000 in
theorem xi_w384 : zall cX12_flush [zi_384_0, zi_384_1, zi_384_2, zi_384_3, zi_384_4] := zall_w _ _ (by decide +kernel)
noncomputable def xi_384 (pc : Nat) : XIs := cond (Nat.blt pc 60) (cond (Nat.blt pc 32) (zx zi_384_0) (zx zi_384_1)) (cond (Nat.blt pc 90) (zx zi_384_2) (cond (Nat.blt pc 122) (zx zi_384_3) (zx zi_384_4)))
theorem xi_ok384 (pc : Nat) : xi_ok cX12_flush (xi_384 pc) = true := xi_c (xi_c (zq1 xi_w384) (zq1 (zq2 xi_w384))) (xi_c (zq1 (zq2 (zq2 xi_w384))) (xi_c (zq1 (zq2 (zq2 (zq2 xi_w384)))) (zq1 (zq2 (zq2 (zq2 (zq2 xi_w384)))))))
noncomputable def zi_385_0 : ZIs := [(0, ev_13), (1, ev_1709), (4, ev_13), (5, ev_1693), (8, ev_13), (9, ev_1694), (12, ev_7), (13, ev_1301), (14, ev_13), (15, ev_1695), (18, ev_13), (19, ev_1694), (22, ev_13), (23, ev_1695), (26, ev_13), (27, ev_1694)]
noncomputable def zi_385_1 : ZIs := [(30, ev_1292), (31, ev_99), (34, ev_13), (35, ev_1697), (38, ev_13), (39, ev_1694), (42, ev_1292), (43, ev_227), (46, ev_7), (47, ev_229), (50, ev_10), (51, ev_1301), (52, ev_13), (53, ev_1137), (56, ev_13), (57, ev_1694)]
noncomputable def zi_385_2 : ZIs := [(60, ev_316), (61, ev_100), (62, ev_13), (63, ev_1698), (66, ev_13), (67, ev_1694), (70, ev_100), (71, ev_180), (72, ev_194), (73, ev_13), (74, ev_1138), (77, ev_13), (78, ev_1694), (81, ev_316), (82, ev_100), (83, ev_13)]
noncomputable def zi_385_3 : ZIs := [(84, ev_1699), (87, ev_13), (88, ev_1694), (91, ev_100), (92, ev_180), (93, ev_194), (94, ev_260)]
set_option maxRecDepth 100000 in
theorem xi_w385 : zall cX12_endSequence [zi_385_0, zi_385_1, zi_385_2, zi_385_3] := zall_w _ _ (by decide +kernel)
noncomputable def xi_385 (pc : Nat) : XIs := cond (Nat.blt pc 60) (cond (Nat.blt pc 30) (zx zi_385_0) (zx zi_385_1)) (cond (Nat.blt pc 84) (zx zi_385_2) (zx zi_385_3))
theorem xi_ok385 (pc : Nat) : xi_ok cX12_endSequence (xi_385 pc) = true := xi_c (xi_c (zq1 xi_w385) (zq1 (zq2 xi_w385))) (xi_c (zq1 (zq2 (zq2 xi_w385))) (zq1 (zq2 (zq2 (zq2 xi_w385)))))
noncomputable def zi_386_0 : ZIs := [(0, ev_13), (1, ev_10), (2, ev_1286), (5, ev_13), (6, ev_10), (7, ev_1345), (10, ev_13), (11, ev_1190), (14, ev_389), (16, ev_1524), (19, ev_13), (20, ev_30), (21, ev_389), (23, ev_1361), (26, ev_808), (28, ev_98)]
noncomputable def zi_386_1 : ZIs := [(29, ev_10), (30, ev_685), (31, ev_10), (32, ev_294), (33, ev_197), (34, ev_389), (36, ev_1114), (39, ev_13), (40, ev_1702), (43, ev_197), (44, ev_230), (45, ev_194), (46, ev_304), (49, ev_1071), (52, ev_13), (53, ev_10)]
noncomputable def zi_386_2 : ZIs := [(54, ev_1710), (57, ev_13), (58, ev_1711), (61, ev_10), (62, ev_294), (63, ev_197), (64, ev_13), (65, ev_1190), (68, ev_1501), (71, ev_13), (72, ev_1342), (75, ev_1712), (78, ev_13), (79, ev_840), (82, ev_197), (83, ev_18)]
noncomputable def zi_386_3 : ZIs := [(84, ev_295), (85, ev_198), (86, ev_1357), (89, ev_992), (92, ev_198), (93, ev_884), (95, ev_1633), (98, ev_13), (99, ev_1709), (102, ev_13), (103, ev_1713), (106, ev_192), (107, ev_198), (108, ev_884), (110, ev_540), (113, ev_874)]
noncomputable def zi_386_4 : ZIs := [(115, ev_212), (118, ev_198), (119, ev_422), (121, ev_16), (122, ev_299), (123, ev_13), (124, ev_10), (125, ev_228), (126, ev_192), (127, ev_177), (128, ev_228), (129, ev_192), (130, ev_177), (131, ev_1714), (134, ev_688), (137, ev_195)]
noncomputable def zi_386_5 : ZIs := [(140, ev_13), (141, ev_198), (142, ev_197), (143, ev_1715), (146, ev_304), (149, ev_1503), (152, ev_13), (153, ev_1342), (156, ev_411), (159, ev_13), (160, ev_1694), (163, ev_1716), (166, ev_13), (167, ev_30), (168, ev_13), (169, ev_1190)]
noncomputable def zi_386_6 : ZIs := [(172, ev_1361), (175, ev_13), (176, ev_1342), (179, ev_1372), (182, ev_808), (184, ev_98), (185, ev_13), (186, ev_1717), (189, ev_13), (190, ev_192), (191, ev_1718), (194, ev_13), (195, ev_13), (196, ev_1695), (199, ev_10), (200, ev_1292)]
noncomputable def zi_386_7 : ZIs := [(201, ev_1260), (204, ev_13), (205, ev_13), (206, ev_1137), (209, ev_10), (210, ev_100), (211, ev_1719), (214, ev_13), (215, ev_13), (216, ev_1138), (219, ev_10), (220, ev_100), (221, ev_1720), (224, ev_10), (225, ev_294), (226, ev_197)]
noncomputable def zi_386_8 : ZIs := [(227, ev_389), (229, ev_340), (232, ev_13), (233, ev_1721), (236, ev_197), (237, ev_13), (238, ev_1713), (241, ev_197), (242, ev_18), (243, ev_299), (244, ev_13), (245, ev_1722), (248, ev_197), (249, ev_13), (250, ev_1702), (253, ev_197)]
noncomputable def zi_386_9 : ZIs := [(254, ev_100), (255, ev_194), (256, ev_304), (259, ev_861), (262, ev_10), (263, ev_98)]
set_option maxRecDepth 100000 in
theorem xi_w386 : zall cX12_pattern [zi_386_0, zi_386_1, zi_386_2, zi_386_3, zi_386_4, zi_386_5, zi_386_6, zi_386_7, zi_386_8, zi_386_9] := zall_w _ _ (by decide +kernel)
noncomputable def xi_386 (pc : Nat) : XIs := cond (Nat.blt pc 140) (cond (Nat.blt pc 54) (cond (Nat.blt pc 29) (zx zi_386_0) (zx zi_386_1)) (cond (Nat.blt pc 84) (zx zi_386_2) (cond (Nat.blt pc 115) (zx zi_386_3) (zx zi_386_4)))) (cond (Nat.blt pc 201) (cond (Nat.blt pc 172) (zx zi_386_5) (zx zi_386_6)) (cond (Nat.blt pc 227) (zx zi_386_7) (cond (Nat.blt pc 254) (zx zi_386_8) (zx zi_386_9))))
theorem xi_ok386 (pc : Nat) : xi_ok cX12_pattern (xi_386 pc) = true := xi_c (xi_c (xi_c (zq1 xi_w386) (zq1 (zq2 xi_w386))) (xi_c (zq1 (zq2 (zq2 xi_w386))) (xi_c (zq1 (zq2 (zq2 (zq2 xi_w386)))) (zq1 (zq2 (zq2 (zq2 (zq2 xi_w386)))))))) (xi_c (xi_c (zq1 (zq2 (zq2 (zq2 (zq2 (zq2 xi_w386)))))) (zq1 (zq2 (zq2 (zq2 (zq2 (zq2 (zq2 xi_w386)))))))) (xi_c (zq1 (zq2 (zq2 (zq2 (zq2 (zq2 (zq2 (zq2 xi_w386)))))))) (xi_c (zq1 (zq2 (zq2 (zq2 (zq2 (zq2 (zq2 (zq2 (zq2 xi_w386))))))))) (zq1 (zq2 (zq2 (zq2 (zq2 (zq2 (zq2 (zq2 (zq2 (zq2 xi_w386)))))))))))))
noncomputable def zi_387_0 : ZIs := [(0, ev_13), (1, ev_7), (2, ev_1700), (5, ev_13), (6, ev_7), (7, ev_1701), (10, ev_13), (11, ev_192), (12, ev_1723), (15, ev_13), (16, ev_489), (17, ev_1724), (20, ev_13), (21, ev_247), (23, ev_1725), (26, ev_260)]
set_option maxRecDepth 100000 in
theorem xi_w387 : zall cX12_setAtom [zi_387_0] := zall_w _ _ (by decide +kernel)
noncomputable def xi_387 (pc : Nat) : XIs := zx zi_387_0
theorem xi_ok387 (pc : Nat) : xi_ok cX12_setAtom (xi_387 pc) = true := zq1 xi_w387
noncomputable def zi_388_0 : ZIs := [(0, ev_192)]
noncomputable def xi_388_1 : XIs := [(1, .lookupswitch 241 #[(40, 70), (41, 107), (42, 179), (43, 179), (63, 179), (124, 59)], 59)]
set_option maxRecDepth 100000 in
theorem xi_ok388_1 : xi_ok cX12_sign xi_388_1 = true := by decide +kernel
noncomputable def zi_388_2 : ZIs := [(60, ev_13), (61, ev_1717), (64, ev_13), (65, ev_1696), (68, ev_1726), (71, ev_13), (72, ev_1694), (75, ev_413), (77, ev_810), (80, ev_13), (81, ev_31), (82, ev_197), (83, ev_1361), (86, ev_260), (87, ev_13), (88, ev_1709)]
noncomputable def zi_388_3 : ZIs := [(91, ev_13), (92, ev_1), (93, ev_1694), (96, ev_7), (97, ev_22), (98, ev_1710), (101, ev_13), (102, ev_1711), (105, ev_1727), (108, ev_13), (109, ev_1694), (112, ev_381), (115, ev_13), (116, ev_30), (117, ev_197), (118, ev_1361)]
noncomputable def zi_388_4 : ZIs := [(121, ev_260), (122, ev_13), (123, ev_1717), (126, ev_13), (127, ev_1695), (130, ev_13), (131, ev_1694), (134, ev_1292), (135, ev_295), (136, ev_13), (137, ev_1137), (140, ev_13), (141, ev_1694), (144, ev_100), (145, ev_442), (147, ev_13)]
noncomputable def zi_388_5 : ZIs := [(148, ev_1138), (151, ev_13), (152, ev_1694), (155, ev_100), (156, ev_58), (158, ev_13), (159, ev_1), (160, ev_1694), (163, ev_7), (164, ev_16), (165, ev_1710), (168, ev_13), (169, ev_198), (170, ev_247), (172, ev_460), (174, ev_1714)]
noncomputable def zi_388_6 : ZIs := [(177, ev_1728), (180, ev_13), (181, ev_1729), (184, ev_381), (187, ev_13), (188, ev_30), (189, ev_197), (190, ev_1361), (193, ev_260), (194, ev_192), (195, ev_19), (197, ev_742), (200, ev_13), (201, ev_13), (202, ev_1707), (205, ev_13)]
noncomputable def zi_388_7 : ZIs := [(206, ev_1705), (209, ev_1706), (212, ev_13), (213, ev_13), (214, ev_1708), (217, ev_992), (220, ev_192), (221, ev_398), (223, ev_681), (226, ev_7), (227, ev_229), (230, ev_10), (231, ev_1723), (234, ev_13), (235, ev_10), (236, ev_1701)]
noncomputable def zi_388_8 : ZIs := [(239, ev_195), (242, ev_13), (243, ev_7), (244, ev_197), (245, ev_1361), (248, ev_260)]
set_option maxRecDepth 100000 in
theorem xi_w388 : zall cX12_sign [zi_388_0, zi_388_2, zi_388_3, zi_388_4, zi_388_5, zi_388_6, zi_388_7, zi_388_8] := zall_w _ _ (by decide +kernel)
noncomputable def xi_388 (pc : Nat) : XIs := cond (Nat.blt pc 121) (cond (Nat.blt pc 60) (cond (Nat.blt pc 1) (zx zi_388_0) (xi_388_1)) (cond (Nat.blt pc 91) (zx zi_388_2) (zx zi_388_3))) (cond (Nat.blt pc 177) (cond (Nat.blt pc 148) (zx zi_388_4) (zx zi_388_5)) (cond (Nat.blt pc 206) (zx zi_388_6) (cond (Nat.blt pc 239) (zx zi_388_7) (zx zi_388_8))))
theorem xi_ok388 (pc : Nat) : xi_ok cX12_sign (xi_388 pc) = true := xi_c (xi_c (xi_c (zq1 xi_w388) (xi_ok388_1)) (xi_c (zq1 (zq2 xi_w388)) (zq1 (zq2 (zq2 xi_w388))))) (xi_c (xi_c (zq1 (zq2 (zq2 (zq2 xi_w388)))) (zq1 (zq2 (zq2 (zq2 (zq2 xi_w388)))))) (xi_c (zq1 (zq2 (zq2 (zq2 (zq2 (zq2 xi_w388)))))) (xi_c (zq1 (zq2 (zq2 (zq2 (zq2 (zq2 (zq2 xi_w388))))))) (zq1 (zq2 (zq2 (zq2 (zq2 (zq2 (zq2 (zq2 xi_w388)))))))))))
noncomputable def zi_389_0 : ZIs := [(0, ev_13), (1, ev_13), (2, ev_192), (3, ev_1335), (6, ev_771), (9, ev_13), (10, ev_197), (11, ev_1335), (14, ev_227), (17, ev_7), (18, ev_229), (21, ev_10), (22, ev_1175), (25, ev_104), (28, ev_10), (29, ev_98)]
noncomputable def zi_389_1 : ZIs := [(30, ev_10), (31, ev_295), (32, ev_198), (33, ev_1045), (36, ev_1114), (39, ev_13), (40, ev_1730), (43, ev_198), (44, ev_252), (45, ev_299), (46, ev_300), (49, ev_1509), (52, ev_10), (53, ev_295), (54, ev_7), (55, ev_11)]
noncomputable def zi_389_2 : ZIs := [(57, ev_13), (58, ev_961), (61, ev_10), (62, ev_391), (64, ev_192), (65, ev_355), (66, ev_299), (67, ev_13), (68, ev_1730), (71, ev_391), (73, ev_192), (74, ev_355), (75, ev_10), (76, ev_299), (77, ev_198), (78, ev_12)]
noncomputable def zi_389_3 : ZIs := [(80, ev_1731), (83, ev_13), (84, ev_961), (87, ev_198), (88, ev_18), (89, ev_25), (91, ev_300), (94, ev_96), (96, ev_391), (98, ev_582), (99, ev_28), (101, ev_96), (103, ev_391), (105, ev_508), (106, ev_7), (107, ev_16)]
noncomputable def zi_389_4 : ZIs := [(108, ev_275), (110, ev_276), (112, ev_1328), (115, ev_13), (116, ev_1732), (119, ev_713), (122, ev_13), (123, ev_1733), (126, ev_276), (128, ev_907), (129, ev_228), (130, ev_179), (131, ev_228), (132, ev_103), (133, ev_326), (136, ev_7)]
noncomputable def zi_389_5 : ZIs := [(137, ev_229), (140, ev_10), (141, ev_313), (143, ev_101), (145, ev_197), (146, ev_538), (149, ev_314), (151, ev_931), (154, ev_13), (155, ev_1730), (158, ev_96), (160, ev_18), (161, ev_98), (162, ev_276), (164, ev_1328), (167, ev_13)]
noncomputable def zi_389_6 : ZIs := [(168, ev_1734), (171, ev_633), (174, ev_13), (175, ev_1722), (178, ev_276), (180, ev_100), (181, ev_998), (183, ev_13), (184, ev_1291), (187, ev_451), (189, ev_453), (191, ev_13), (192, ev_1291), (195, ev_529), (198, ev_22), (199, ev_854)]
noncomputable def zi_389_7 : ZIs := [(202, ev_13), (203, ev_1290), (206, ev_453), (208, ev_1292), (209, ev_1396), (212, ev_13), (213, ev_1302), (216, ev_453), (218, ev_18), (219, ev_101), (221, ev_536), (224, ev_13), (225, ev_453), (227, ev_999), (229, ev_13), (230, ev_1730)]
noncomputable def zi_389_8 : ZIs := [(233, ev_96), (235, ev_18), (236, ev_7), (237, ev_22), (238, ev_12), (240, ev_1735), (243, ev_11), (245, ev_1001), (248, ev_1736), (251, ev_1737), (254, ev_252), (255, ev_98)]
set_option maxRecDepth 100000 in
theorem xi_w389 : zall cX12_fits [zi_389_0, zi_389_1, zi_389_2, zi_389_3, zi_389_4, zi_389_5, zi_389_6, zi_389_7, zi_389_8] := zall_w _ _ (by decide +kernel)
noncomputable def xi_389 (pc : Nat) : XIs := cond (Nat.blt pc 108) (cond (Nat.blt pc 57) (cond (Nat.blt pc 30) (zx zi_389_0) (zx zi_389_1)) (cond (Nat.blt pc 80) (zx zi_389_2) (zx zi_389_3))) (cond (Nat.blt pc 168) (cond (Nat.blt pc 137) (zx zi_389_4) (zx zi_389_5)) (cond (Nat.blt pc 202) (zx zi_389_6) (cond (Nat.blt pc 233) (zx zi_389_7) (zx zi_389_8))))
theorem xi_ok389 (pc : Nat) : xi_ok cX12_fits (xi_389 pc) = true := xi_c (xi_c (xi_c (zq1 xi_w389) (zq1 (zq2 xi_w389))) (xi_c (zq1 (zq2 (zq2 xi_w389))) (zq1 (zq2 (zq2 (zq2 xi_w389)))))) (xi_c (xi_c (zq1 (zq2 (zq2 (zq2 (zq2 xi_w389))))) (zq1 (zq2 (zq2 (zq2 (zq2 (zq2 xi_w389))))))) (xi_c (zq1 (zq2 (zq2 (zq2 (zq2 (zq2 (zq2 xi_w389))))))) (xi_c (zq1 (zq2 (zq2 (zq2 (zq2 (zq2 (zq2 (zq2 xi_w389)))))))) (zq1 (zq2 (zq2 (zq2 (zq2 (zq2 (zq2 (zq2 (zq2 xi_w389))))))))))))
noncomputable def zi_390_0 : ZIs := [(0, ev_96), (2, ev_28), (4, ev_10), (5, ev_275), (7, ev_276), (9, ev_13), (10, ev_1738), (13, ev_1739), (16, ev_489), (17, ev_276), (19, ev_907), (20, ev_228), (21, ev_179), (22, ev_228), (23, ev_103), (24, ev_1011)]
noncomputable def zi_390_1 : ZIs := [(27, ev_13), (28, ev_1721), (31, ev_276), (33, ev_18), (34, ev_874), (36, ev_698), (39, ev_13), (40, ev_1721), (43, ev_276), (45, ev_18), (46, ev_13), (47, ev_434), (50, ev_192), (51, ev_18), (52, ev_818), (55, ev_7)]
noncomputable def zi_390_2 : ZIs := [(56, ev_229), (59, ev_10), (60, ev_313), (62, ev_391), (64, ev_13), (65, ev_1038), (68, ev_192), (69, ev_18), (70, ev_355), (71, ev_276), (73, ev_22), (74, ev_7), (75, ev_22), (76, ev_327), (78, ev_314), (80, ev_406)]
noncomputable def zi_390_3 : ZIs := [(83, ev_13), (84, ev_1730), (87, ev_329), (89, ev_18), (90, ev_1740), (93, ev_13), (94, ev_1730), (97, ev_329), (99, ev_12), (101, ev_299), (102, ev_13), (103, ev_961), (106, ev_101), (108, ev_329), (110, ev_299), (111, ev_320)]
noncomputable def zi_390_4 : ZIs := [(114, ev_955), (117, ev_1483), (120, ev_101), (122, ev_98)]
set_option maxRecDepth 100000 in
theorem xi_w390 : zall cX12_goOn [zi_390_0, zi_390_1, zi_390_2, zi_390_3, zi_390_4] := zall_w _ _ (by decide +kernel)
noncomputable def xi_390 (pc : Nat) : XIs := cond (Nat.blt pc 56) (cond (Nat.blt pc 27) (zx zi_390_0) (zx zi_390_1)) (cond (Nat.blt pc 83) (zx zi_390_2) (cond (Nat.blt pc 114) (zx zi_390_3) (zx zi_390_4)))
theorem xi_ok390 (pc : Nat) : xi_ok cX12_goOn (xi_390 pc) = true := xi_c (xi_c (zq1 xi_w390) (zq1 (zq2 xi_w390))) (xi_c (zq1 (zq2 (zq2 xi_w390))) (xi_c (zq1 (zq2 (zq2 (zq2 xi_w390)))) (zq1 (zq2 (zq2 (zq2 (zq2 xi_w390)))))))
noncomputable def zi_391_0 : ZIs := [(0, ev_13), (1, ev_1741), (4, ev_7), (5, ev_7), (6, ev_299), (7, ev_13), (8, ev_1741), (11, ev_30), (12, ev_30), (13, ev_299), (14, ev_260)]
set_option maxRecDepth 100000 in
theorem xi_w391 : zall cX12_program0 [zi_391_0] := zall_w _ _ (by decide +kernel)
noncomputable def xi_391 (pc : Nat) : XIs := zx zi_391_0
theorem xi_ok391 (pc : Nat) : xi_ok cX12_program0 (xi_391 pc) = true := zq1 xi_w391
noncomputable def zi_392_0 : ZIs := [(0, ev_13), (1, ev_1347), (4, ev_13), (5, ev_1190), (8, ev_929), (11, ev_13), (12, ev_840), (15, ev_13), (16, ev_1347), (19, ev_18), (20, ev_176), (22, ev_538), (25, ev_13), (26, ev_1), (27, ev_1347), (30, ev_7)]
noncomputable def zi_392_1 : ZIs := [(31, ev_22), (32, ev_1348), (35, ev_293), (38, ev_13), (39, ev_13), (40, ev_1347), (43, ev_1349), (46, ev_13), (47, ev_1347), (50, ev_13), (51, ev_1190), (54, ev_410), (57, ev_13), (58, ev_10), (59, ev_1350), (62, ev_260)]
noncomputable def zi_392_2 : ZIs := [(63, ev_13), (64, ev_840), (67, ev_13), (68, ev_1347), (71, ev_18), (72, ev_685), (73, ev_13), (74, ev_192), (75, ev_1351), (78, ev_192), (79, ev_1196), (82, ev_771), (85, ev_13), (86, ev_30), (87, ev_1350), (90, ev_13)]
noncomputable def zi_392_3 : ZIs := [(91, ev_15), (93, ev_1354), (96, ev_260), (97, ev_13), (98, ev_192), (99, ev_1357), (102, ev_227), (105, ev_7), (106, ev_229), (109, ev_31), (110, ev_1350), (113, ev_13), (114, ev_1), (115, ev_1347), (118, ev_7), (119, ev_22)]
noncomputable def zi_392_4 : ZIs := [(120, ev_1348), (123, ev_192), (124, ev_379), (126, ev_1410), (129, ev_192), (130, ev_389), (132, ev_1411), (135, ev_192), (136, ev_391), (138, ev_593), (141, ev_192), (142, ev_398), (144, ev_703), (147, ev_192), (148, ev_400), (150, ev_1742)]
noncomputable def zi_392_5 : ZIs := [(153, ev_192), (154, ev_405), (156, ev_742), (159, ev_192), (160, ev_412), (162, ev_903), (165, ev_192), (166, ev_419), (168, ev_818), (171, ev_7), (172, ev_229), (175, ev_10), (176, ev_294), (177, ev_13), (178, ev_1358), (181, ev_31)]
noncomputable def zi_392_6 : ZIs := [(182, ev_538), (185, ev_197), (186, ev_399), (189, ev_13), (190, ev_7), (191, ev_13), (192, ev_1360), (195, ev_1361), (198, ev_260)]
set_option maxRecDepth 100000 in
theorem xi_w392 : zall cX12_nextOfProgram [zi_392_0, zi_392_1, zi_392_2, zi_392_3, zi_392_4, zi_392_5, zi_392_6] := zall_w _ _ (by decide +kernel)
noncomputable def xi_392 (pc : Nat) : XIs := cond (Nat.blt pc 91) (cond (Nat.blt pc 31) (zx zi_392_0) (cond (Nat.blt pc 63) (zx zi_392_1) (zx zi_392_2))) (cond (Nat.blt pc 153) (cond (Nat.blt pc 120) (zx zi_392_3) (zx zi_392_4)) (cond (Nat.blt pc 182) (zx zi_392_5) (zx zi_392_6)))
theorem xi_ok392 (pc : Nat) : xi_ok cX12_nextOfProgram (xi_392 pc) = true := xi_c (xi_c (zq1 xi_w392) (xi_c (zq1 (zq2 xi_w392)) (zq1 (zq2 (zq2 xi_w392))))) (xi_c (xi_c (zq1 (zq2 (zq2 (zq2 xi_w392)))) (zq1 (zq2 (zq2 (zq2 (zq2 xi_w392)))))) (xi_c (zq1 (zq2 (zq2 (zq2 (zq2 (zq2 xi_w392)))))) (zq1 (zq2 (zq2 (zq2 (zq2 (zq2 (zq2 xi_w392)))))))))
noncomputable def zi_393_0 : ZIs := [(0, ev_13), (1, ev_1743), (4, ev_13), (5, ev_1744), (8, ev_192), (9, ev_299), (10, ev_13), (11, ev_1745), (14, ev_13), (15, ev_1744), (18, ev_197), (19, ev_299), (20, ev_13), (21, ev_1), (22, ev_1744), (25, ev_7)]
noncomputable def zi_393_1 : ZIs := [(26, ev_22), (27, ev_1746), (30, ev_260)]
set_option maxRecDepth 100000 in
theorem xi_w393 : zall cX12_add [zi_393_0, zi_393_1] := zall_w _ _ (by decide +kernel)
noncomputable def xi_393 (pc : Nat) : XIs := cond (Nat.blt pc 26) (zx zi_393_0) (zx zi_393_1)
theorem xi_ok393 (pc : Nat) : xi_ok cX12_add (xi_393 pc) = true := xi_c (zq1 xi_w393) (zq1 (zq2 xi_w393))
noncomputable def zi_394_0 : ZIs := [(0, ev_482)]
noncomputable def xi_394_1 : XIs := [(1, .tableswitch 120 100 120 #[105, 120, 120, 117, 120, 107, 120, 120, 103, 114, 101, 120, 120, 120, 109, 111, 120, 120, 120, 120, 99], 99)]
set_option maxRecDepth 100000 in
theorem xi_ok394_1 : xi_ok cX12_nameOf xi_394_1 = true := by decide +kernel
noncomputable def zi_394_2 : ZIs := [(100, ev_10), (101, ev_98), (102, ev_7), (103, ev_98), (104, ev_30), (105, ev_98), (106, ev_31), (107, ev_98), (108, ev_32), (109, ev_98), (110, ev_33), (111, ev_98), (112, ev_15), (114, ev_98), (115, ev_468), (117, ev_98)]
noncomputable def zi_394_3 : ZIs := [(118, ev_469), (120, ev_98), (121, ev_252), (122, ev_98)]
set_option maxRecDepth 100000 in
theorem xi_w394 : zall cX12_nameOf [zi_394_0, zi_394_2, zi_394_3] := zall_w _ _ (by decide +kernel)
noncomputable def xi_394 (pc : Nat) : XIs := cond (Nat.blt pc 100) (cond (Nat.blt pc 1) (zx zi_394_0) (xi_394_1)) (cond (Nat.blt pc 118) (zx zi_394_2) (zx zi_394_3))
theorem xi_ok394 (pc : Nat) : xi_ok cX12_nameOf (xi_394 pc) = true := xi_c (xi_c (zq1 xi_w394) (xi_ok394_1)) (xi_c (zq1 (zq2 xi_w394)) (zq1 (zq2 (zq2 xi_w394))))
noncomputable def zi_395_0 : ZIs := [(0, ev_13), (1, ev_1747), (4, ev_326), (7, ev_10), (8, ev_1176), (11, ev_13), (12, ev_1748), (15, ev_13), (16, ev_1747), (19, ev_7), (20, ev_16), (21, ev_18), (22, ev_98)]
set_option maxRecDepth 100000 in
theorem xi_w395 : zall cX12_top [zi_395_0] := zall_w _ _ (by decide +kernel)
noncomputable def xi_395 (pc : Nat) : XIs := zx zi_395_0
theorem xi_ok395 (pc : Nat) : xi_ok cX12_top (xi_395 pc) = true := zq1 xi_w395
noncomputable def zi_396_0 : ZIs := [(0, ev_13), (1, ev_1748), (4, ev_13), (5, ev_1747), (8, ev_192), (9, ev_299), (10, ev_13), (11, ev_1), (12, ev_1747), (15, ev_7), (16, ev_22), (17, ev_1749), (20, ev_13), (21, ev_1), (22, ev_1750), (25, ev_192)]
noncomputable def zi_396_1 : ZIs := [(26, ev_30), (27, ev_903), (30, ev_192), (31, ev_412), (33, ev_818), (36, ev_7), (37, ev_229), (40, ev_10), (41, ev_22), (42, ev_1751), (45, ev_260)]
set_option maxRecDepth 100000 in
theorem xi_w396 : zall cX12_hold [zi_396_0, zi_396_1] := zall_w _ _ (by decide +kernel)
noncomputable def xi_396 (pc : Nat) : XIs := cond (Nat.blt pc 26) (zx zi_396_0) (zx zi_396_1)
theorem xi_ok396 (pc : Nat) : xi_ok cX12_hold (xi_396 pc) = true := xi_c (zq1 xi_w396) (zq1 (zq2 xi_w396))
noncomputable def zi_397_0 : ZIs := [(0, ev_13), (1, ev_1), (2, ev_1747), (5, ev_7), (6, ev_16), (7, ev_1749), (10, ev_13), (11, ev_1), (12, ev_1750), (15, ev_13), (16, ev_1748), (19, ev_13), (20, ev_1747), (23, ev_18), (24, ev_30), (25, ev_900)]
noncomputable def zi_397_1 : ZIs := [(28, ev_13), (29, ev_1748), (32, ev_13), (33, ev_1747), (36, ev_18), (37, ev_412), (39, ev_818), (42, ev_7), (43, ev_229), (46, ev_10), (47, ev_16), (48, ev_1751), (51, ev_260)]
set_option maxRecDepth 100000 in
theorem xi_w397 : zall cX12_drop [zi_397_0, zi_397_1] := zall_w _ _ (by decide +kernel)
noncomputable def xi_397 (pc : Nat) : XIs := cond (Nat.blt pc 28) (zx zi_397_0) (zx zi_397_1)
theorem xi_ok397 (pc : Nat) : xi_ok cX12_drop (xi_397 pc) = true := xi_c (zq1 xi_w397) (zq1 (zq2 xi_w397))
noncomputable def zi_398_0 : ZIs := [(0, ev_482), (1, ev_405), (3, ev_818), (6, ev_31), (7, ev_477), (10, ev_482), (11, ev_398), (13, ev_903), (16, ev_482), (17, ev_400), (19, ev_818), (22, ev_30), (23, ev_1464), (26, ev_482), (27, ev_389), (29, ev_903)]
noncomputable def zi_398_1 : ZIs := [(32, ev_482), (33, ev_391), (35, ev_818), (38, ev_7), (39, ev_229), (42, ev_10), (43, ev_98)]
set_option maxRecDepth 100000 in
theorem xi_w398 : zall cX12_strength [zi_398_0, zi_398_1] := zall_w _ _ (by decide +kernel)
noncomputable def xi_398 (pc : Nat) : XIs := cond (Nat.blt pc 32) (zx zi_398_0) (zx zi_398_1)
theorem xi_ok398 (pc : Nat) : xi_ok cX12_strength (xi_398 pc) = true := xi_c (zq1 xi_w398) (zq1 (zq2 xi_w398))
noncomputable def zi_399_0 : ZIs := [(0, ev_13), (1, ev_1747), (4, ev_1752), (7, ev_13), (8, ev_1753), (11, ev_1754), (14, ev_192), (15, ev_1755), (18, ev_13), (19, ev_13), (20, ev_1753), (23, ev_10), (24, ev_1756), (27, ev_13), (28, ev_1757), (31, ev_610)]
noncomputable def zi_399_1 : ZIs := [(34, ev_260)]
set_option maxRecDepth 100000 in
theorem xi_w399 : zall cX12_settle [zi_399_0, zi_399_1] := zall_w _ _ (by decide +kernel)
noncomputable def xi_399 (pc : Nat) : XIs := cond (Nat.blt pc 34) (zx zi_399_0) (zx zi_399_1)
theorem xi_ok399 (pc : Nat) : xi_ok cX12_settle (xi_399 pc) = true := xi_c (zq1 xi_w399) (zq1 (zq2 xi_w399))
noncomputable def zi_400_0 : ZIs := [(0, ev_13), (1, ev_1753), (4, ev_30), (5, ev_538), (8, ev_13), (9, ev_30), (10, ev_10), (11, ev_1756), (14, ev_13), (15, ev_1757), (18, ev_1476), (21, ev_260)]
set_option maxRecDepth 100000 in
theorem xi_w400 : zall cX12_turn [zi_400_0] := zall_w _ _ (by decide +kernel)
noncomputable def xi_400 (pc : Nat) : XIs := zx zi_400_0
theorem xi_ok400 (pc : Nat) : xi_ok cX12_turn (xi_400 pc) = true := zq1 xi_w400
noncomputable def zi_401_0 : ZIs := [(0, ev_13), (1, ev_1358), (4, ev_30), (5, ev_756), (8, ev_13), (9, ev_10), (10, ev_13), (11, ev_1355), (14, ev_991), (15, ev_1756), (18, ev_13), (19, ev_1758), (22, ev_7), (23, ev_98), (24, ev_13), (25, ev_1358)]
noncomputable def zi_401_1 : ZIs := [(28, ev_7), (29, ev_420), (32, ev_13), (33, ev_1380), (36, ev_1759), (39, ev_685), (40, ev_192), (41, ev_1568), (44, ev_13), (45, ev_33), (46, ev_13), (47, ev_1360), (50, ev_1361), (53, ev_13), (54, ev_7), (55, ev_192)]
noncomputable def zi_401_2 : ZIs := [(56, ev_1756), (59, ev_13), (60, ev_1758), (63, ev_7), (64, ev_98), (65, ev_13), (66, ev_1358), (69, ev_31), (70, ev_1389), (73, ev_13), (74, ev_1380), (77, ev_400), (79, ev_1481), (82, ev_13), (83, ev_1380), (86, ev_412)]
noncomputable def zi_401_3 : ZIs := [(88, ev_742), (91, ev_13), (92, ev_30), (93, ev_13), (94, ev_1360), (97, ev_1361), (100, ev_1760), (103, ev_13), (104, ev_1750), (107, ev_413), (109, ev_1761), (112, ev_13), (113, ev_31), (114, ev_13), (115, ev_1360), (118, ev_1361)]
noncomputable def zi_401_4 : ZIs := [(121, ev_713), (124, ev_13), (125, ev_13), (126, ev_1380), (129, ev_400), (131, ev_818), (134, ev_30), (135, ev_638), (138, ev_412), (140, ev_1762), (143, ev_10), (144, ev_98)]
set_option maxRecDepth 100000 in
theorem xi_w401 : zall cX12_factor [zi_401_0, zi_401_1, zi_401_2, zi_401_3, zi_401_4] := zall_w _ _ (by decide +kernel)
noncomputable def xi_401 (pc : Nat) : XIs := cond (Nat.blt pc 56) (cond (Nat.blt pc 28) (zx zi_401_0) (zx zi_401_1)) (cond (Nat.blt pc 88) (zx zi_401_2) (cond (Nat.blt pc 121) (zx zi_401_3) (zx zi_401_4)))
theorem xi_ok401 (pc : Nat) : xi_ok cX12_factor (xi_401 pc) = true := xi_c (xi_c (zq1 xi_w401) (zq1 (zq2 xi_w401))) (xi_c (zq1 (zq2 (zq2 xi_w401))) (xi_c (zq1 (zq2 (zq2 (zq2 xi_w401)))) (zq1 (zq2 (zq2 (zq2 (zq2 xi_w401)))))))
noncomputable def zi_402_0 : ZIs := [(0, ev_13), (1, ev_1358), (4, ev_680), (7, ev_13), (8, ev_1358), (11, ev_31), (12, ev_1763), (15, ev_13), (16, ev_1380), (19, ev_379), (21, ev_1764), (24, ev_13), (25, ev_7), (26, ev_1765), (29, ev_13), (30, ev_1747)]
noncomputable def zi_402_1 : ZIs := [(33, ev_1766), (36, ev_192), (37, ev_13), (38, ev_1358), (41, ev_31), (42, ev_818), (45, ev_7), (46, ev_229), (49, ev_10), (50, ev_1359), (53, ev_13), (54, ev_30), (55, ev_13), (56, ev_1360), (59, ev_1361), (62, ev_30)]
noncomputable def zi_402_2 : ZIs := [(63, ev_98), (64, ev_13), (65, ev_1358), (68, ev_31), (69, ev_927), (72, ev_13), (73, ev_1380), (76, ev_1754), (79, ev_229), (82, ev_10), (83, ev_294), (84, ev_197), (85, ev_7), (86, ev_1767), (89, ev_13), (90, ev_197)]
noncomputable def zi_402_3 : ZIs := [(91, ev_1765), (94, ev_13), (95, ev_13), (96, ev_1380), (99, ev_1762), (102, ev_10), (103, ev_98), (104, ev_197), (105, ev_7), (106, ev_1768), (109, ev_13), (110, ev_30), (111, ev_1765), (114, ev_13), (115, ev_1753), (118, ev_1754)]
noncomputable def zi_402_4 : ZIs := [(121, ev_7), (122, ev_690), (125, ev_13), (126, ev_30), (127, ev_13), (128, ev_1360), (131, ev_1361), (134, ev_13), (135, ev_13), (136, ev_1380), (139, ev_1762), (142, ev_10), (143, ev_98), (144, ev_13), (145, ev_1358), (148, ev_31)]
noncomputable def zi_402_5 : ZIs := [(149, ev_1769), (152, ev_13), (153, ev_1380), (156, ev_419), (158, ev_1768), (161, ev_13), (162, ev_7), (163, ev_1765), (166, ev_13), (167, ev_1753), (170, ev_412), (172, ev_1032), (175, ev_13), (176, ev_30), (177, ev_13), (178, ev_1360)]
noncomputable def zi_402_6 : ZIs := [(181, ev_1361), (184, ev_7), (185, ev_98), (186, ev_13), (187, ev_1757), (190, ev_13), (191, ev_1758), (194, ev_7), (195, ev_98), (196, ev_13), (197, ev_30), (198, ev_13), (199, ev_1360), (202, ev_1361), (205, ev_7), (206, ev_98)]
set_option maxRecDepth 100000 in
theorem xi_w402 : zall cX12_behindFactor [zi_402_0, zi_402_1, zi_402_2, zi_402_3, zi_402_4, zi_402_5, zi_402_6] := zall_w _ _ (by decide +kernel)
noncomputable def xi_402 (pc : Nat) : XIs := cond (Nat.blt pc 91) (cond (Nat.blt pc 33) (zx zi_402_0) (cond (Nat.blt pc 63) (zx zi_402_1) (zx zi_402_2))) (cond (Nat.blt pc 149) (cond (Nat.blt pc 121) (zx zi_402_3) (zx zi_402_4)) (cond (Nat.blt pc 181) (zx zi_402_5) (zx zi_402_6)))
theorem xi_ok402 (pc : Nat) : xi_ok cX12_behindFactor (xi_402 pc) = true := xi_c (xi_c (zq1 xi_w402) (xi_c (zq1 (zq2 xi_w402)) (zq1 (zq2 (zq2 xi_w402))))) (xi_c (xi_c (zq1 (zq2 (zq2 (zq2 xi_w402)))) (zq1 (zq2 (zq2 (zq2 (zq2 xi_w402)))))) (xi_c (zq1 (zq2 (zq2 (zq2 (zq2 (zq2 xi_w402)))))) (zq1 (zq2 (zq2 (zq2 (zq2 (zq2 (zq2 xi_w402)))))))))
noncomputable def zi_403_0 : ZIs := [(0, ev_13), (1, ev_10), (2, ev_1749), (5, ev_13), (6, ev_10), (7, ev_1751), (10, ev_7), (11, ev_294), (12, ev_7), (13, ev_295), (14, ev_198), (15, ev_337), (18, ev_13), (19, ev_1342), (22, ev_1770), (25, ev_13)]
noncomputable def zi_403_1 : ZIs := [(26, ev_1771), (29, ev_13), (30, ev_1342), (33, ev_1772), (36, ev_197), (37, ev_488), (40, ev_13), (41, ev_1773), (44, ev_326), (47, ev_7), (48, ev_229), (51, ev_10), (52, ev_294), (53, ev_719), (56, ev_13), (57, ev_1342)]
noncomputable def zi_403_2 : ZIs := [(60, ev_1774), (63, ev_13), (64, ev_192), (65, ev_1775), (68, ev_11), (70, ev_12), (72, ev_326), (75, ev_7), (76, ev_229), (79, ev_10), (80, ev_294), (81, ev_12), (83, ev_30), (84, ev_656), (87, ev_7), (88, ev_229)]
noncomputable def zi_403_3 : ZIs := [(91, ev_10), (92, ev_295), (93, ev_563), (96, ev_260)]
set_option maxRecDepth 100000 in
theorem xi_w403 : zall cX12_expression [zi_403_0, zi_403_1, zi_403_2, zi_403_3] := zall_w _ _ (by decide +kernel)
noncomputable def xi_403 (pc : Nat) : XIs := cond (Nat.blt pc 60) (cond (Nat.blt pc 26) (zx zi_403_0) (zx zi_403_1)) (cond (Nat.blt pc 91) (zx zi_403_2) (zx zi_403_3))
theorem xi_ok403 (pc : Nat) : xi_ok cX12_expression (xi_403 pc) = true := xi_c (xi_c (zq1 xi_w403) (zq1 (zq2 xi_w403))) (xi_c (zq1 (zq2 (zq2 xi_w403))) (zq1 (zq2 (zq2 (zq2 xi_w403)))))
noncomputable def zi_404_0 : ZIs := [(0, ev_13), (1, ev_10), (2, ev_1286), (5, ev_13), (6, ev_10), (7, ev_1345), (10, ev_13), (11, ev_1190), (14, ev_366), (16, ev_1524), (19, ev_13), (20, ev_30), (21, ev_366), (23, ev_1361), (26, ev_808), (28, ev_98)]
noncomputable def zi_404_1 : ZIs := [(29, ev_13), (30, ev_10), (31, ev_1348), (34, ev_13), (35, ev_10), (36, ev_1746), (39, ev_13), (40, ev_7), (41, ev_1776), (44, ev_13), (45, ev_1777), (48, ev_7), (49, ev_13), (50, ev_1744), (53, ev_299), (54, ev_13)]
noncomputable def zi_404_2 : ZIs := [(55, ev_1342), (58, ev_852), (61, ev_13), (62, ev_10), (63, ev_1776), (66, ev_13), (67, ev_1777), (70, ev_30), (71, ev_13), (72, ev_1744), (75, ev_299), (76, ev_13), (77, ev_1342), (80, ev_1372), (83, ev_808), (85, ev_98)]
noncomputable def zi_404_3 : ZIs := [(86, ev_10), (87, ev_685), (88, ev_192), (89, ev_13), (90, ev_1744), (93, ev_340), (96, ev_13), (97, ev_1778), (100, ev_192), (101, ev_13), (102, ev_1743), (105, ev_192), (106, ev_18), (107, ev_299), (108, ev_13), (109, ev_1779)]
noncomputable def zi_404_4 : ZIs := [(112, ev_192), (113, ev_13), (114, ev_1745), (117, ev_192), (118, ev_18), (119, ev_299), (120, ev_688), (123, ev_293), (126, ev_13), (127, ev_1741), (130, ev_7), (131, ev_13), (132, ev_1777), (135, ev_7), (136, ev_18), (137, ev_299)]
noncomputable def zi_404_5 : ZIs := [(138, ev_13), (139, ev_1741), (142, ev_30), (143, ev_13), (144, ev_1777), (147, ev_30), (148, ev_18), (149, ev_299), (150, ev_10), (151, ev_98)]
set_option maxRecDepth 100000 in
theorem xi_w404 : zall cX12_program [zi_404_0, zi_404_1, zi_404_2, zi_404_3, zi_404_4, zi_404_5] := zall_w _ _ (by decide +kernel)
noncomputable def xi_404 (pc : Nat) : XIs := cond (Nat.blt pc 86) (cond (Nat.blt pc 29) (zx zi_404_0) (cond (Nat.blt pc 55) (zx zi_404_1) (zx zi_404_2))) (cond (Nat.blt pc 112) (zx zi_404_3) (cond (Nat.blt pc 138) (zx zi_404_4) (zx zi_404_5)))
theorem xi_ok404 (pc : Nat) : xi_ok cX12_program (xi_404 pc) = true := xi_c (xi_c (zq1 xi_w404) (xi_c (zq1 (zq2 xi_w404)) (zq1 (zq2 (zq2 xi_w404))))) (xi_c (zq1 (zq2 (zq2 (zq2 xi_w404)))) (xi_c (zq1 (zq2 (zq2 (zq2 (zq2 xi_w404))))) (zq1 (zq2 (zq2 (zq2 (zq2 (zq2 xi_w404))))))))
noncomputable def zi_405_0 : ZIs := [(0, ev_487), (1, ev_1659), (4, ev_103), (5, ev_1780), (8, ev_1659), (11, ev_1343), (14, ev_487), (15, ev_1781), (18, ev_103), (19, ev_950), (22, ev_1781), (25, ev_229), (28, ev_487), (29, ev_481)]
set_option maxRecDepth 100000 in
theorem xi_w405 : zall cX12_fit [zi_405_0] := zall_w _ _ (by decide +kernel)
noncomputable def xi_405 (pc : Nat) : XIs := zx zi_405_0
theorem xi_ok405 (pc : Nat) : xi_ok cX12_fit (xi_405 pc) = true := zq1 xi_w405
noncomputable def zi_406_0 : ZIs := [(0, ev_487), (1, ev_230), (2, ev_103), (3, ev_347), (6, ev_489), (7, ev_230), (8, ev_103), (9, ev_378), (12, ev_230), (13, ev_481), (14, ev_487), (15, ev_230), (16, ev_103), (17, ev_1400), (20, ev_487), (21, ev_476)]
noncomputable def zi_406_1 : ZIs := [(22, ev_229), (25, ev_487), (26, ev_442), (28, ev_489), (29, ev_230), (30, ev_103), (31, ev_1400), (34, ev_489), (35, ev_476), (36, ev_229), (39, ev_489), (40, ev_58), (42, ev_247), (44, ev_1659), (47, ev_460), (49, ev_490)]
noncomputable def zi_406_2 : ZIs := [(50, ev_103), (51, ev_1780), (54, ev_1659), (57, ev_986), (60, ev_247), (62, ev_460), (64, ev_492), (65, ev_445), (67, ev_487), (68, ev_230), (69, ev_103), (70, ev_486), (73, ev_7), (74, ev_229), (77, ev_10), (78, ev_489)]
noncomputable def zi_406_3 : ZIs := [(79, ev_230), (80, ev_103), (81, ev_486), (84, ev_7), (85, ev_229), (88, ev_10), (89, ev_540), (92, ev_462), (94, ev_209), (97, ev_462), (99, ev_476), (100, ev_481)]
set_option maxRecDepth 100000 in
theorem xi_w406 : zall cX12_product [zi_406_0, zi_406_1, zi_406_2, zi_406_3] := zall_w _ _ (by decide +kernel)
noncomputable def xi_406 (pc : Nat) : XIs := cond (Nat.blt pc 50) (cond (Nat.blt pc 22) (zx zi_406_0) (zx zi_406_1)) (cond (Nat.blt pc 79) (zx zi_406_2) (zx zi_406_3))
theorem xi_ok406 (pc : Nat) : xi_ok cX12_product (xi_406 pc) = true := xi_c (xi_c (zq1 xi_w406) (zq1 (zq2 xi_w406))) (xi_c (zq1 (zq2 (zq2 xi_w406))) (zq1 (zq2 (zq2 (zq2 xi_w406)))))
noncomputable def zi_407_0 : ZIs := [(0, ev_13), (1, ev_1782), (4, ev_10), (5, ev_13), (6, ev_1783), (9, ev_192), (10, ev_100), (11, ev_194), (12, ev_13), (13, ev_1782), (16, ev_7), (17, ev_192), (18, ev_102), (19, ev_194), (20, ev_13), (21, ev_1782)]
noncomputable def zi_407_1 : ZIs := [(24, ev_30), (25, ev_13), (26, ev_1298), (29, ev_176), (31, ev_13), (32, ev_1161), (35, ev_355), (36, ev_192), (37, ev_22), (38, ev_18), (39, ev_102), (40, ev_194), (41, ev_13), (42, ev_1782), (45, ev_31), (46, ev_230)]
noncomputable def zi_407_2 : ZIs := [(47, ev_194), (48, ev_13), (49, ev_1782), (52, ev_32), (53, ev_230), (54, ev_194), (55, ev_13), (56, ev_1782), (59, ev_33), (60, ev_197), (61, ev_102), (62, ev_194), (63, ev_13), (64, ev_1782), (67, ev_15), (69, ev_230)]
noncomputable def zi_407_3 : ZIs := [(70, ev_194), (71, ev_13), (72, ev_1782), (75, ev_468), (77, ev_1659), (80, ev_194), (81, ev_13), (82, ev_1782), (85, ev_469), (87, ev_1781), (90, ev_194), (91, ev_13), (92, ev_1291), (95, ev_295), (96, ev_198), (97, ev_13)]
noncomputable def zi_407_4 : ZIs := [(98, ev_1291), (101, ev_529), (104, ev_22), (105, ev_1784), (108, ev_13), (109, ev_1290), (112, ev_198), (113, ev_1292), (114, ev_769), (117, ev_13), (118, ev_1302), (121, ev_198), (122, ev_18), (123, ev_192), (124, ev_927), (127, ev_13)]
noncomputable def zi_407_5 : ZIs := [(128, ev_1782), (131, ev_31), (132, ev_316), (133, ev_100), (134, ev_228), (135, ev_457), (136, ev_194), (137, ev_13), (138, ev_1290), (141, ev_198), (142, ev_1292), (143, ev_1385), (146, ev_13), (147, ev_1038), (150, ev_198), (151, ev_18)]
noncomputable def zi_407_6 : ZIs := [(152, ev_192), (153, ev_1785), (156, ev_13), (157, ev_1783), (160, ev_13), (161, ev_1302), (164, ev_198), (165, ev_18), (166, ev_100), (167, ev_442), (169, ev_247), (171, ev_13), (172, ev_1039), (175, ev_198), (176, ev_18), (177, ev_102)]
noncomputable def zi_407_7 : ZIs := [(178, ev_457), (179, ev_1786), (182, ev_58), (184, ev_13), (185, ev_1782), (188, ev_32), (189, ev_316), (190, ev_100), (191, ev_228), (192, ev_457), (193, ev_194), (194, ev_13), (195, ev_1782), (198, ev_15), (200, ev_316), (201, ev_100)]
noncomputable def zi_407_8 : ZIs := [(202, ev_247), (204, ev_457), (205, ev_194), (206, ev_13), (207, ev_1782), (210, ev_468), (212, ev_460), (214, ev_13), (215, ev_1782), (218, ev_468), (220, ev_100), (221, ev_103), (222, ev_1400), (225, ev_460), (227, ev_633), (230, ev_13)]
noncomputable def zi_407_9 : ZIs := [(231, ev_1782), (234, ev_468), (236, ev_100), (237, ev_194), (238, ev_13), (239, ev_1782), (242, ev_469), (244, ev_460), (246, ev_13), (247, ev_1782), (250, ev_469), (252, ev_100), (253, ev_103), (254, ev_1787), (257, ev_460), (259, ev_633)]
noncomputable def zi_407_10 : ZIs := [(262, ev_13), (263, ev_1782), (266, ev_469), (268, ev_100), (269, ev_194), (270, ev_300), (273, ev_1788), (276, ev_13), (277, ev_1782), (280, ev_15), (282, ev_13), (283, ev_1782), (286, ev_15), (288, ev_100), (289, ev_1786), (292, ev_194)]
noncomputable def zi_407_11 : ZIs := [(293, ev_260)]
set_option maxRecDepth 100000 in
theorem xi_w407 : zall cX12_nameAll [zi_407_0, zi_407_1, zi_407_2, zi_407_3, zi_407_4, zi_407_5, zi_407_6, zi_407_7, zi_407_8, zi_407_9, zi_407_10, zi_407_11] := zall_w _ _ (by decide +kernel)
noncomputable def xi_407 (pc : Nat) : XIs := cond (Nat.blt pc 152) (cond (Nat.blt pc 70) (cond (Nat.blt pc 24) (zx zi_407_0) (cond (Nat.blt pc 47) (zx zi_407_1) (zx zi_407_2))) (cond (Nat.blt pc 98) (zx zi_407_3) (cond (Nat.blt pc 128) (zx zi_407_4) (zx zi_407_5)))) (cond (Nat.blt pc 231) (cond (Nat.blt pc 178) (zx zi_407_6) (cond (Nat.blt pc 202) (zx zi_407_7) (zx zi_407_8))) (cond (Nat.blt pc 262) (zx zi_407_9) (cond (Nat.blt pc 293) (zx zi_407_10) (zx zi_407_11))))
theorem xi_ok407 (pc : Nat) : xi_ok cX12_nameAll (xi_407 pc) = true := xi_c (xi_c (xi_c (zq1 xi_w407) (xi_c (zq1 (zq2 xi_w407)) (zq1 (zq2 (zq2 xi_w407))))) (xi_c (zq1 (zq2 (zq2 (zq2 xi_w407)))) (xi_c (zq1 (zq2 (zq2 (zq2 (zq2 xi_w407))))) (zq1 (zq2 (zq2 (zq2 (zq2 (zq2 xi_w407))))))))) (xi_c (xi_c (zq1 (zq2 (zq2 (zq2 (zq2 (zq2 (zq2 xi_w407))))))) (xi_c (zq1 (zq2 (zq2 (zq2 (zq2 (zq2 (zq2 (zq2 xi_w407)))))))) (zq1 (zq2 (zq2 (zq2 (zq2 (zq2 (zq2 (zq2 (zq2 xi_w407))))))))))) (xi_c (zq1 (zq2 (zq2 (zq2 (zq2 (zq2 (zq2 (zq2 (zq2 (zq2 xi_w407)))))))))) (xi_c (zq1 (zq2 (zq2 (zq2 (zq2 (zq2 (zq2 (zq2 (zq2 (zq2 (zq2 xi_w407))))))))))) (zq1 (zq2 (zq2 (zq2 (zq2 (zq2 (zq2 (zq2 (zq2 (zq2 (zq2 (zq2 xi_w407)))))))))))))))
noncomputable def zi_408_0 : ZIs := [(0, ev_10), (1, ev_294), (2, ev_192), (3, ev_326), (6, ev_10), (7, ev_195), (10, ev_13), (11, ev_1741), (14, ev_7), (15, ev_18), (16, ev_295), (17, ev_198), (18, ev_13), (19, ev_1741), (22, ev_192), (23, ev_7)]
noncomputable def zi_408_1 : ZIs := [(24, ev_22), (25, ev_18), (26, ev_1789), (29, ev_13), (30, ev_1778), (33, ev_198), (34, ev_18), (35, ev_11), (37, ev_12), (39, ev_30), (40, ev_689), (43, ev_13), (44, ev_1790), (47, ev_197), (48, ev_12), (50, ev_1132)]
noncomputable def zi_408_2 : ZIs := [(53, ev_13), (54, ev_1779), (57, ev_198), (58, ev_18), (59, ev_102), (60, ev_1176), (63, ev_13), (64, ev_1782), (67, ev_13), (68, ev_1779), (71, ev_198), (72, ev_18), (73, ev_100), (74, ev_194), (75, ev_304), (78, ev_1791)]
noncomputable def zi_408_3 : ZIs := [(81, ev_12), (83, ev_30), (84, ev_976), (87, ev_13), (88, ev_1790), (91, ev_197), (92, ev_7), (93, ev_16), (94, ev_13), (95, ev_1790), (98, ev_197), (99, ev_7), (100, ev_16), (101, ev_100), (102, ev_476), (103, ev_1786)]
noncomputable def zi_408_4 : ZIs := [(106, ev_194), (107, ev_1792), (110, ev_893), (113, ev_13), (114, ev_1790), (117, ev_197), (118, ev_7), (119, ev_16), (120, ev_100), (121, ev_574), (123, ev_13), (124, ev_1790), (127, ev_197), (128, ev_100), (129, ev_921), (131, ev_13)]
noncomputable def zi_408_5 : ZIs := [(132, ev_1790), (135, ev_197), (136, ev_7), (137, ev_16), (138, ev_12), (140, ev_405), (142, ev_538), (145, ev_501), (147, ev_922), (149, ev_1793), (152, ev_1786), (155, ev_1794), (158, ev_12), (160, ev_398), (162, ev_798), (165, ev_501)]
noncomputable def zi_408_6 : ZIs := [(167, ev_922), (169, ev_457), (170, ev_1786), (173, ev_1795), (176, ev_12), (178, ev_400), (180, ev_798), (183, ev_501), (185, ev_922), (187, ev_485), (188, ev_1786), (191, ev_1796), (194, ev_12), (196, ev_389), (198, ev_798), (201, ev_501)]
noncomputable def zi_408_7 : ZIs := [(203, ev_922), (205, ev_103), (206, ev_1602), (209, ev_200), (212, ev_501), (214, ev_922), (216, ev_103), (217, ev_326), (220, ev_228), (221, ev_229), (224, ev_230), (225, ev_194), (226, ev_300), (229, ev_1797), (232, ev_13), (233, ev_1790)]
noncomputable def zi_408_8 : ZIs := [(236, ev_10), (237, ev_100), (238, ev_481)]
set_option maxRecDepth 100000 in
theorem xi_w408 : zall cX12_workOut [zi_408_0, zi_408_1, zi_408_2, zi_408_3, zi_408_4, zi_408_5, zi_408_6, zi_408_7, zi_408_8] := zall_w _ _ (by decide +kernel)
noncomputable def xi_408 (pc : Nat) : XIs := cond (Nat.blt pc 106) (cond (Nat.blt pc 53) (cond (Nat.blt pc 24) (zx zi_408_0) (zx zi_408_1)) (cond (Nat.blt pc 81) (zx zi_408_2) (zx zi_408_3))) (cond (Nat.blt pc 167) (cond (Nat.blt pc 132) (zx zi_408_4) (zx zi_408_5)) (cond (Nat.blt pc 203) (zx zi_408_6) (cond (Nat.blt pc 236) (zx zi_408_7) (zx zi_408_8))))
theorem xi_ok408 (pc : Nat) : xi_ok cX12_workOut (xi_408 pc) = true := xi_c (xi_c (xi_c (zq1 xi_w408) (zq1 (zq2 xi_w408))) (xi_c (zq1 (zq2 (zq2 xi_w408))) (zq1 (zq2 (zq2 (zq2 xi_w408)))))) (xi_c (xi_c (zq1 (zq2 (zq2 (zq2 (zq2 xi_w408))))) (zq1 (zq2 (zq2 (zq2 (zq2 (zq2 xi_w408))))))) (xi_c (zq1 (zq2 (zq2 (zq2 (zq2 (zq2 (zq2 xi_w408))))))) (xi_c (zq1 (zq2 (zq2 (zq2 (zq2 (zq2 (zq2 (zq2 xi_w408)))))))) (zq1 (zq2 (zq2 (zq2 (zq2 (zq2 (zq2 (zq2 (zq2 xi_w408))))))))))))
noncomputable def zi_409_0 : ZIs := [(0, ev_13), (1, ev_192), (2, ev_102), (3, ev_230), (4, ev_1798), (7, ev_1316), (10, ev_851), (13, ev_197), (14, ev_102), (15, ev_228), (16, ev_1332), (19, ev_1316), (22, ev_488), (25, ev_198), (26, ev_102), (27, ev_230)]
noncomputable def zi_409_1 : ZIs := [(28, ev_1799), (31, ev_1316), (34, ev_227), (37, ev_7), (38, ev_229), (41, ev_10), (42, ev_1175), (45, ev_104), (48, ev_10), (49, ev_98), (50, ev_13), (51, ev_13), (52, ev_1288), (55, ev_1800), (58, ev_13), (59, ev_10)]
noncomputable def zi_409_2 : ZIs := [(60, ev_1801), (63, ev_13), (64, ev_10), (65, ev_1802), (68, ev_13), (69, ev_10), (70, ev_1803), (73, ev_13), (74, ev_230), (75, ev_1804), (78, ev_10), (79, ev_28), (81, ev_101), (83, ev_13), (84, ev_1288), (87, ev_683)]
noncomputable def zi_409_3 : ZIs := [(90, ev_13), (91, ev_1783), (94, ev_101), (96, ev_230), (97, ev_194), (98, ev_320), (101, ev_758), (104, ev_10), (105, ev_28), (107, ev_101), (109, ev_13), (110, ev_1288), (113, ev_643), (116, ev_13), (117, ev_101), (119, ev_10)]
noncomputable def zi_409_4 : ZIs := [(120, ev_1805), (123, ev_13), (124, ev_1806), (127, ev_101), (129, ev_13), (130, ev_10), (131, ev_1807), (134, ev_194), (135, ev_320), (138, ev_610), (141, ev_10), (142, ev_28), (144, ev_101), (146, ev_13), (147, ev_1288), (150, ev_346)]
noncomputable def zi_409_5 : ZIs := [(153, ev_13), (154, ev_1783), (157, ev_101), (159, ev_13), (160, ev_1806), (163, ev_101), (165, ev_100), (166, ev_194), (167, ev_320), (170, ev_562), (173, ev_10), (174, ev_28), (176, ev_7), (177, ev_275), (179, ev_276), (181, ev_1808)]
noncomputable def zi_409_6 : ZIs := [(184, ev_101), (186, ev_192), (187, ev_470), (190, ev_320), (193, ev_13), (194, ev_197), (195, ev_198), (196, ev_247), (198, ev_1809), (201, ev_10), (202, ev_275), (204, ev_10), (205, ev_313), (207, ev_314), (209, ev_13), (210, ev_1288)]
noncomputable def zi_409_7 : ZIs := [(213, ev_1593), (216, ev_13), (217, ev_314), (219, ev_101), (221, ev_1805), (224, ev_13), (225, ev_1806), (228, ev_314), (230, ev_13), (231, ev_7), (232, ev_1807), (235, ev_194), (236, ev_276), (238, ev_1369), (241, ev_13), (242, ev_1806)]
noncomputable def zi_409_8 : ZIs := [(245, ev_314), (247, ev_100), (248, ev_13), (249, ev_1783), (252, ev_314), (254, ev_100), (255, ev_103), (256, ev_227), (259, ev_7), (260, ev_229), (263, ev_10), (264, ev_275), (266, ev_318), (269, ev_279), (272, ev_10), (273, ev_313)]
noncomputable def zi_409_9 : ZIs := [(275, ev_314), (277, ev_13), (278, ev_1288), (281, ev_346), (284, ev_13), (285, ev_1783), (288, ev_314), (290, ev_13), (291, ev_1806), (294, ev_314), (296, ev_100), (297, ev_194), (298, ev_318), (301, ev_562), (304, ev_894), (307, ev_101)]
noncomputable def zi_409_10 : ZIs := [(309, ev_98)]
set_option maxRecDepth 100000 in
theorem xi_w409 : zall cX12_run [zi_409_0, zi_409_1, zi_409_2, zi_409_3, zi_409_4, zi_409_5, zi_409_6, zi_409_7, zi_409_8, zi_409_9, zi_409_10] := zall_w _ _ (by decide +kernel)
noncomputable def xi_409 (pc : Nat) : XIs := cond (Nat.blt pc 153) (cond (Nat.blt pc 60) (cond (Nat.blt pc 28) (zx zi_409_0) (zx zi_409_1)) (cond (Nat.blt pc 90) (zx zi_409_2) (cond (Nat.blt pc 120) (zx zi_409_3) (zx zi_409_4)))) (cond (Nat.blt pc 245) (cond (Nat.blt pc 184) (zx zi_409_5) (cond (Nat.blt pc 213) (zx zi_409_6) (zx zi_409_7))) (cond (Nat.blt pc 275) (zx zi_409_8) (cond (Nat.blt pc 309) (zx zi_409_9) (zx zi_409_10))))
theorem xi_ok409 (pc : Nat) : xi_ok cX12_run (xi_409 pc) = true := xi_c (xi_c (xi_c (zq1 xi_w409) (zq1 (zq2 xi_w409))) (xi_c (zq1 (zq2 (zq2 xi_w409))) (xi_c (zq1 (zq2 (zq2 (zq2 xi_w409)))) (zq1 (zq2 (zq2 (zq2 (zq2 xi_w409)))))))) (xi_c (xi_c (zq1 (zq2 (zq2 (zq2 (zq2 (zq2 xi_w409)))))) (xi_c (zq1 (zq2 (zq2 (zq2 (zq2 (zq2 (zq2 xi_w409))))))) (zq1 (zq2 (zq2 (zq2 (zq2 (zq2 (zq2 (zq2 xi_w409)))))))))) (xi_c (zq1 (zq2 (zq2 (zq2 (zq2 (zq2 (zq2 (zq2 (zq2 xi_w409))))))))) (xi_c (zq1 (zq2 (zq2 (zq2 (zq2 (zq2 (zq2 (zq2 (zq2 (zq2 xi_w409)))))))))) (zq1 (zq2 (zq2 (zq2 (zq2 (zq2 (zq2 (zq2 (zq2 (zq2 (zq2 xi_w409))))))))))))))
noncomputable def zi_410_0 : ZIs := [(0, ev_10), (1, ev_11), (3, ev_13), (4, ev_1291), (7, ev_25), (9, ev_96), (11, ev_13), (12, ev_1291), (15, ev_529), (18, ev_22), (19, ev_938), (22, ev_12), (24, ev_1810), (27, ev_13), (28, ev_1290), (31, ev_96)]
noncomputable def zi_410_1 : ZIs := [(33, ev_1292), (34, ev_851), (37, ev_13), (38, ev_1302), (41, ev_96), (43, ev_18), (44, ev_192), (45, ev_1051), (48, ev_13), (49, ev_1038), (52, ev_96), (54, ev_18), (55, ev_198), (56, ev_508), (57, ev_197), (58, ev_818)]
noncomputable def zi_410_2 : ZIs := [(61, ev_7), (62, ev_229), (65, ev_10), (66, ev_11), (68, ev_343), (71, ev_279), (74, ev_12), (76, ev_1004), (79, ev_192), (80, ev_198), (81, ev_508), (82, ev_197), (83, ev_681), (86, ev_7), (87, ev_229), (90, ev_10)]
noncomputable def zi_410_3 : ZIs := [(91, ev_98)]
set_option maxRecDepth 100000 in
theorem xi_w410 : zall cX12_goesTo [zi_410_0, zi_410_1, zi_410_2, zi_410_3] := zall_w _ _ (by decide +kernel)
noncomputable def xi_410 (pc : Nat) : XIs := cond (Nat.blt pc 61) (cond (Nat.blt pc 33) (zx zi_410_0) (zx zi_410_1)) (cond (Nat.blt pc 91) (zx zi_410_2) (zx zi_410_3))
theorem xi_ok410 (pc : Nat) : xi_ok cX12_goesTo (xi_410 pc) = true := xi_c (xi_c (zq1 xi_w410) (zq1 (zq2 xi_w410))) (xi_c (zq1 (zq2 (zq2 xi_w410))) (zq1 (zq2 (zq2 (zq2 xi_w410)))))
noncomputable def zi_411_0 : ZIs := [(0, ev_10), (1, ev_25), (3, ev_10), (4, ev_28), (6, ev_101), (8, ev_13), (9, ev_1288), (12, ev_721), (15, ev_10), (16, ev_275), (18, ev_276), (20, ev_192), (21, ev_585), (24, ev_96), (26, ev_13), (27, ev_101)]
noncomputable def zi_411_1 : ZIs := [(29, ev_276), (31, ev_192), (32, ev_1811), (35, ev_227), (38, ev_7), (39, ev_229), (42, ev_10), (43, ev_22), (44, ev_25), (46, ev_955), (49, ev_610), (52, ev_320), (55, ev_653), (58, ev_96), (60, ev_1812), (63, ev_13)]
noncomputable def zi_411_2 : ZIs := [(64, ev_1), (65, ev_1813), (68, ev_7), (69, ev_22), (70, ev_1803), (73, ev_10), (74, ev_28), (76, ev_10), (77, ev_275), (79, ev_276), (81, ev_96), (83, ev_588), (86, ev_13), (87, ev_1), (88, ev_1814), (91, ev_228)]
noncomputable def zi_411_3 : ZIs := [(92, ev_457), (93, ev_1804), (96, ev_484), (97, ev_1815), (100, ev_13), (101, ev_1814), (104, ev_492), (105, ev_457), (106, ev_445), (108, ev_462), (110, ev_462), (112, ev_518), (114, ev_519), (115, ev_520), (116, ev_1816), (119, ev_492)]
noncomputable def zi_411_4 : ZIs := [(120, ev_445), (122, ev_462), (124, ev_462), (126, ev_522), (128, ev_519), (129, ev_520), (130, ev_1817), (133, ev_492), (134, ev_445), (136, ev_462), (138, ev_462), (140, ev_524), (142, ev_519), (143, ev_520), (144, ev_445), (146, ev_101)]
noncomputable def zi_411_5 : ZIs := [(148, ev_462), (150, ev_525), (152, ev_519), (153, ev_1664), (156, ev_527), (157, ev_197), (158, ev_102), (159, ev_103), (160, ev_486), (163, ev_7), (164, ev_229), (167, ev_10), (168, ev_22), (169, ev_28), (171, ev_955), (174, ev_956)]
noncomputable def zi_411_6 : ZIs := [(177, ev_13), (178, ev_1), (179, ev_1818), (182, ev_96), (184, ev_22), (185, ev_1801), (188, ev_13), (189, ev_1), (190, ev_1819), (193, ev_101), (195, ev_22), (196, ev_1802), (199, ev_101), (201, ev_25), (203, ev_1820), (206, ev_260)]
set_option maxRecDepth 100000 in
theorem xi_w411 : zall cX12_send [zi_411_0, zi_411_1, zi_411_2, zi_411_3, zi_411_4, zi_411_5, zi_411_6] := zall_w _ _ (by decide +kernel)
noncomputable def xi_411 (pc : Nat) : XIs := cond (Nat.blt pc 92) (cond (Nat.blt pc 29) (zx zi_411_0) (cond (Nat.blt pc 64) (zx zi_411_1) (zx zi_411_2))) (cond (Nat.blt pc 148) (cond (Nat.blt pc 120) (zx zi_411_3) (zx zi_411_4)) (cond (Nat.blt pc 177) (zx zi_411_5) (zx zi_411_6)))
theorem xi_ok411 (pc : Nat) : xi_ok cX12_send (xi_411 pc) = true := xi_c (xi_c (zq1 xi_w411) (xi_c (zq1 (zq2 xi_w411)) (zq1 (zq2 (zq2 xi_w411))))) (xi_c (xi_c (zq1 (zq2 (zq2 (zq2 xi_w411)))) (zq1 (zq2 (zq2 (zq2 (zq2 xi_w411)))))) (xi_c (zq1 (zq2 (zq2 (zq2 (zq2 (zq2 xi_w411)))))) (zq1 (zq2 (zq2 (zq2 (zq2 (zq2 (zq2 xi_w411)))))))))
noncomputable def zi_412_0 : ZIs := [(0, ev_13), (1, ev_192), (2, ev_678), (5, ev_192), (6, ev_13), (7, ev_1821), (10, ev_656), (13, ev_7), (14, ev_229), (17, ev_10), (18, ev_1175), (21, ev_227), (24, ev_230), (25, ev_195), (28, ev_13), (29, ev_1783)]
noncomputable def zi_412_1 : ZIs := [(32, ev_192), (33, ev_100), (34, ev_481)]
set_option maxRecDepth 100000 in
theorem xi_w412 : zall cX12_state [zi_412_0, zi_412_1] := zall_w _ _ (by decide +kernel)
noncomputable def xi_412 (pc : Nat) : XIs := cond (Nat.blt pc 32) (zx zi_412_0) (zx zi_412_1)
theorem xi_ok412 (pc : Nat) : xi_ok cX12_state (xi_412 pc) = true := xi_c (zq1 xi_w412) (zq1 (zq2 xi_w412))
noncomputable def zi_413_0 : ZIs := [(0, ev_13), (1, ev_192), (2, ev_102), (3, ev_230), (4, ev_1645), (7, ev_1316), (10, ev_1175), (13, ev_104), (16, ev_10), (17, ev_98), (18, ev_192), (19, ev_381), (22, ev_13), (23, ev_1818), (26, ev_902), (29, ev_192)]
noncomputable def zi_413_1 : ZIs := [(30, ev_7), (31, ev_810), (34, ev_13), (35, ev_1819), (38, ev_212), (41, ev_13), (42, ev_1813), (45, ev_98)]
set_option maxRecDepth 100000 in
theorem xi_w413 : zall cX12_letters [zi_413_0, zi_413_1] := zall_w _ _ (by decide +kernel)
noncomputable def xi_413 (pc : Nat) : XIs := cond (Nat.blt pc 30) (zx zi_413_0) (zx zi_413_1)
theorem xi_ok413 (pc : Nat) : xi_ok cX12_letters (xi_413 pc) = true := xi_c (zq1 xi_w413) (zq1 (zq2 xi_w413))
noncomputable def zi_414_0 : ZIs := [(0, ev_482), (1, ev_482), (2, ev_7), (3, ev_1822), (4, ev_1823), (7, ev_20), (8, ev_16), (9, ev_1824), (10, ev_482), (11, ev_1825), (14, ev_20), (15, ev_482), (16, ev_30), (17, ev_1822), (18, ev_1825), (21, ev_20)]
noncomputable def zi_414_1 : ZIs := [(22, ev_22), (23, ev_1824), (24, ev_482), (25, ev_482), (26, ev_32), (27, ev_1822), (28, ev_22), (29, ev_1826), (32, ev_20), (33, ev_1824), (34, ev_482), (35, ev_482), (36, ev_469), (38, ev_1822), (39, ev_22), (40, ev_1824)]
noncomputable def zi_414_2 : ZIs := [(41, ev_482), (42, ev_482), (43, ev_581), (45, ev_1822), (46, ev_22), (47, ev_1824), (48, ev_482), (49, ev_19), (51, ev_20), (52, ev_98)]
set_option maxRecDepth 100000 in
theorem xi_w414 : zall cJ6_bitCount_0f7a4 [zi_414_0, zi_414_1, zi_414_2] := zall_w _ _ (by decide +kernel)
noncomputable def xi_414 (pc : Nat) : XIs := cond (Nat.blt pc 22) (zx zi_414_0) (cond (Nat.blt pc 41) (zx zi_414_1) (zx zi_414_2))
theorem xi_ok414 (pc : Nat) : xi_ok cJ6_bitCount_0f7a4 (xi_414 pc) = true := xi_c (zq1 xi_w414) (xi_c (zq1 (zq2 xi_w414)) (zq1 (zq2 (zq2 xi_w414))))
noncomputable def zi_415_0 : ZIs := [(0, ev_487), (1, ev_487), (2, ev_7), (3, ev_519), (4, ev_1827), (7, ev_179), (8, ev_485), (9, ev_1828), (10, ev_487), (11, ev_1829), (14, ev_179), (15, ev_487), (16, ev_30), (17, ev_519), (18, ev_1829), (21, ev_179)]
noncomputable def zi_415_1 : ZIs := [(22, ev_457), (23, ev_1828), (24, ev_487), (25, ev_487), (26, ev_32), (27, ev_519), (28, ev_457), (29, ev_1830), (32, ev_179), (33, ev_1828), (34, ev_487), (35, ev_487), (36, ev_469), (38, ev_519), (39, ev_457), (40, ev_1828)]
noncomputable def zi_415_2 : ZIs := [(41, ev_487), (42, ev_487), (43, ev_581), (45, ev_519), (46, ev_457), (47, ev_1828), (48, ev_487), (49, ev_487), (50, ev_176), (52, ev_519), (53, ev_457), (54, ev_1828), (55, ev_487), (56, ev_991), (57, ev_1831), (59, ev_20)]
noncomputable def zi_415_3 : ZIs := [(60, ev_98)]
set_option maxRecDepth 100000 in
theorem xi_w415 : zall cJ13_bitCount_95d88 [zi_415_0, zi_415_1, zi_415_2, zi_415_3] := zall_w _ _ (by decide +kernel)
noncomputable def xi_415 (pc : Nat) : XIs := cond (Nat.blt pc 41) (cond (Nat.blt pc 22) (zx zi_415_0) (zx zi_415_1)) (cond (Nat.blt pc 60) (zx zi_415_2) (zx zi_415_3))
theorem xi_ok415 (pc : Nat) : xi_ok cJ13_bitCount_95d88 (xi_415 pc) = true := xi_c (xi_c (zq1 xi_w415) (zq1 (zq2 xi_w415))) (xi_c (zq1 (zq2 (zq2 xi_w415))) (zq1 (zq2 (zq2 (zq2 xi_w415)))))
noncomputable def zi_416_0 : ZIs := [(0, ev_10), (1, ev_295), (2, ev_13), (3, ev_14), (4, ev_11), (6, ev_198), (7, ev_12), (9, ev_1449), (12, ev_13), (13, ev_198), (14, ev_483), (15, ev_194), (16, ev_300), (19, ev_801), (22, ev_260)]
set_option maxRecDepth 100000 in
theorem xi_w416 : zall cJ7_fill_d0a16 [zi_416_0] := zall_w _ _ (by decide +kernel)
noncomputable def xi_416 (pc : Nat) : XIs := zx zi_416_0
theorem xi_ok416 (pc : Nat) : xi_ok cJ7_fill_d0a16 (xi_416 pc) = true := zq1 xi_w416
noncomputable def zi_417_0 : ZIs := [(0, ev_10), (1, ev_294), (2, ev_13), (3, ev_14), (4, ev_295), (5, ev_197), (6, ev_198), (7, ev_1449), (10, ev_13), (11, ev_197), (12, ev_192), (13, ev_299), (14, ev_304), (17, ev_1832), (20, ev_260)]
set_option maxRecDepth 100000 in
theorem xi_w417 : zall cJ7_fill_53178 [zi_417_0] := zall_w _ _ (by decide +kernel)
noncomputable def xi_417 (pc : Nat) : XIs := zx zi_417_0
theorem xi_ok417 (pc : Nat) : xi_ok cJ7_fill_53178 (xi_417 pc) = true := zq1 xi_w417
noncomputable def zi_418_0 : ZIs := [(0, ev_487), (1, ev_489), (2, ev_490), (3, ev_442), (5, ev_487), (6, ev_489), (7, ev_520), (8, ev_230), (9, ev_103), (10, ev_1833), (13, ev_247), (15, ev_489), (16, ev_492), (17, ev_487), (18, ev_103), (19, ev_330)]
noncomputable def zi_418_1 : ZIs := [(22, ev_247), (24, ev_228), (25, ev_485), (26, ev_481), (27, ev_247), (29, ev_481)]
set_option maxRecDepth 100000 in
theorem xi_w418 : zall cJ9_floorDiv_f86c9 [zi_418_0, zi_418_1] := zall_w _ _ (by decide +kernel)
noncomputable def xi_418 (pc : Nat) : XIs := cond (Nat.blt pc 22) (zx zi_418_0) (zx zi_418_1)
theorem xi_ok418 (pc : Nat) : xi_ok cJ9_floorDiv_f86c9 (xi_418 pc) = true := xi_c (zq1 xi_w418) (zq1 (zq2 xi_w418))
noncomputable def zi_419_0 : ZIs := [(0, ev_487), (1, ev_489), (2, ev_527), (3, ev_442), (5, ev_487), (6, ev_489), (7, ev_520), (8, ev_230), (9, ev_103), (10, ev_1834), (13, ev_247), (15, ev_230), (16, ev_103), (17, ev_330), (20, ev_247), (22, ev_489)]
noncomputable def zi_419_1 : ZIs := [(23, ev_457), (24, ev_481), (25, ev_247), (27, ev_481)]
set_option maxRecDepth 100000 in
theorem xi_w419 : zall cJ9_floorMod_f86c9 [zi_419_0, zi_419_1] := zall_w _ _ (by decide +kernel)
noncomputable def xi_419 (pc : Nat) : XIs := cond (Nat.blt pc 23) (zx zi_419_0) (zx zi_419_1)
theorem xi_ok419 (pc : Nat) : xi_ok cJ9_floorMod_f86c9 (xi_419 pc) = true := xi_c (zq1 xi_w419) (zq1 (zq2 xi_w419))
noncomputable def zi_420_0 : ZIs := [(0, ev_482), (1, ev_1400), (4, ev_482), (5, ev_310), (6, ev_229), (9, ev_482), (10, ev_98)]
set_option maxRecDepth 100000 in
theorem xi_w420 : zall cJ9_abs_0f7a4 [zi_420_0] := zall_w _ _ (by decide +kernel)
noncomputable def xi_420 (pc : Nat) : XIs := zx zi_420_0
theorem xi_ok420 (pc : Nat) : xi_ok cJ9_abs_0f7a4 (xi_420 pc) = true := zq1 xi_w420
noncomputable def zi_421_0 : ZIs := [(0, ev_487), (1, ev_230), (2, ev_103), (3, ev_1400), (6, ev_487), (7, ev_476), (8, ev_229), (11, ev_487), (12, ev_481)]
set_option maxRecDepth 100000 in
theorem xi_w421 : zall cJ9_abs_067f4 [zi_421_0] := zall_w _ _ (by decide +kernel)
noncomputable def xi_421 (pc : Nat) : XIs := zx zi_421_0
theorem xi_ok421 (pc : Nat) : xi_ok cJ9_abs_067f4 (xi_421 pc) = true := zq1 xi_w421
noncomputable def zi_422_0 : ZIs := [(0, ev_482), (1, ev_192), (2, ev_613), (5, ev_482), (6, ev_229), (9, ev_192), (10, ev_98)]
set_option maxRecDepth 100000 in
theorem xi_w422 : zall cJ9_max_7cf53 [zi_422_0] := zall_w _ _ (by decide +kernel)
noncomputable def xi_422 (pc : Nat) : XIs := zx zi_422_0
theorem xi_ok422 (pc : Nat) : xi_ok cJ9_max_7cf53 (xi_422 pc) = true := zq1 xi_w422
noncomputable def zi_423_0 : ZIs := [(0, ev_487), (1, ev_489), (2, ev_103), (3, ev_831), (6, ev_487), (7, ev_229), (10, ev_489), (11, ev_481)]
set_option maxRecDepth 100000 in
theorem xi_w423 : zall cJ9_max_f86c9 [zi_423_0] := zall_w _ _ (by decide +kernel)
noncomputable def xi_423 (pc : Nat) : XIs := zx zi_423_0
theorem xi_ok423 (pc : Nat) : xi_ok cJ9_max_f86c9 (xi_423 pc) = true := zq1 xi_w423
noncomputable def zi_424_0 : ZIs := [(0, ev_482), (1, ev_192), (2, ev_886), (5, ev_482), (6, ev_229), (9, ev_192), (10, ev_98)]
set_option maxRecDepth 100000 in
theorem xi_w424 : zall cJ9_min_7cf53 [zi_424_0] := zall_w _ _ (by decide +kernel)
noncomputable def xi_424 (pc : Nat) : XIs := zx zi_424_0
theorem xi_ok424 (pc : Nat) : xi_ok cJ9_min_7cf53 (xi_424 pc) = true := zq1 xi_w424
noncomputable def zi_425_0 : ZIs := [(0, ev_487), (1, ev_489), (2, ev_103), (3, ev_491), (6, ev_487), (7, ev_229), (10, ev_489), (11, ev_481)]
set_option maxRecDepth 100000 in
theorem xi_w425 : zall cJ9_min_f86c9 [zi_425_0] := zall_w _ _ (by decide +kernel)
noncomputable def xi_425 (pc : Nat) : XIs := zx zi_425_0
theorem xi_ok425 (pc : Nat) : xi_ok cJ9_min_f86c9 (xi_425 pc) = true := zq1 xi_w425
noncomputable def zi_426_0 : ZIs := [(0, ev_192), (1, ev_13), (2, ev_14), (3, ev_706), (6, ev_13), (7, ev_1835), (10, ev_1836), (13, ev_823), (14, ev_192), (15, ev_255), (17, ev_6), (18, ev_13), (19, ev_10), (20, ev_26), (21, ev_10), (22, ev_13)]
noncomputable def zi_426_1 : ZIs := [(23, ev_14), (24, ev_192), (25, ev_1837), (28, ev_1838), (31, ev_26), (32, ev_823)]
set_option maxRecDepth 100000 in
theorem xi_w426 : zall cJ7_copyOf_59c91 [zi_426_0, zi_426_1] := zall_w _ _ (by decide +kernel)
noncomputable def xi_426 (pc : Nat) : XIs := cond (Nat.blt pc 23) (zx zi_426_0) (zx zi_426_1)
theorem xi_ok426 (pc : Nat) : xi_ok cJ7_copyOf_59c91 (xi_426 pc) = true := xi_c (zq1 xi_w426) (zq1 (zq2 xi_w426))
noncomputable def zi_427_0 : ZIs := [(0, ev_13), (1, ev_261), (4, ev_14), (5, ev_13), (6, ev_1839), (9, ev_303), (10, ev_98)]
set_option maxRecDepth 100000 in
theorem xi_w427 : zall cJ0_length_8abf5 [zi_427_0] := zall_w _ _ (by decide +kernel)
noncomputable def xi_427 (pc : Nat) : XIs := zx zi_427_0
theorem xi_ok427 (pc : Nat) : xi_ok cJ0_length_8abf5 (xi_427 pc) = true := zq1 xi_w427
noncomputable def zi_428_0 : ZIs := [(0, ev_13), (1, ev_261), (4, ev_14), (5, ev_326), (8, ev_7), (9, ev_229), (12, ev_10), (13, ev_98)]
set_option maxRecDepth 100000 in
theorem xi_w428 : zall cJ0_isEmpty_aae02 [zi_428_0] := zall_w _ _ (by decide +kernel)
noncomputable def xi_428 (pc : Nat) : XIs := zx zi_428_0
theorem xi_ok428 (pc : Nat) : xi_ok cJ0_isEmpty_aae02 (xi_428 pc) = true := zq1 xi_w428
noncomputable def zi_429_0 : ZIs := [(0, ev_13), (1, ev_1840), (4, ev_649), (7, ev_13), (8, ev_261), (11, ev_192), (12, ev_1841), (15, ev_98), (16, ev_13), (17, ev_261), (20, ev_192), (21, ev_1842), (24, ev_98)]
set_option maxRecDepth 100000 in
theorem xi_w429 : zall cJ0_charAt_5068e [zi_429_0] := zall_w _ _ (by decide +kernel)
noncomputable def xi_429 (pc : Nat) : XIs := zx zi_429_0
theorem xi_ok429 (pc : Nat) : xi_ok cJ0_charAt_5068e (xi_429 pc) = true := zq1 xi_w429
noncomputable def zi_430_0 : ZIs := [(0, ev_13), (1, ev_192), (2, ev_10), (3, ev_1843), (6, ev_98)]
set_option maxRecDepth 100000 in
theorem xi_w430 : zall cJ0_indexOf_0f7a4 [zi_430_0] := zall_w _ _ (by decide +kernel)
noncomputable def xi_430 (pc : Nat) : XIs := zx zi_430_0
theorem xi_ok430 (pc : Nat) : xi_ok cJ0_indexOf_0f7a4 (xi_430 pc) = true := zq1 xi_w430
noncomputable def zi_431_0 : ZIs := [(0, ev_13), (1, ev_1840), (4, ev_488), (7, ev_13), (8, ev_261), (11, ev_192), (12, ev_197), (13, ev_13), (14, ev_1844), (17, ev_1845), (20, ev_759), (23, ev_13), (24, ev_261), (27, ev_192), (28, ev_197), (29, ev_13)]
noncomputable def zi_431_1 : ZIs := [(30, ev_1844), (33, ev_1846), (36, ev_98)]
set_option maxRecDepth 100000 in
theorem xi_w431 : zall cJ0_indexOf_7cf53 [zi_431_0, zi_431_1] := zall_w _ _ (by decide +kernel)
noncomputable def xi_431 (pc : Nat) : XIs := cond (Nat.blt pc 30) (zx zi_431_0) (zx zi_431_1)
theorem xi_ok431 (pc : Nat) : xi_ok cJ0_indexOf_7cf53 (xi_431 pc) = true := xi_c (zq1 xi_w431) (zq1 (zq2 xi_w431))
noncomputable def zi_432_0 : ZIs := [(0, ev_1847), (3, ev_385), (6, ev_13), (7, ev_280), (10, ev_229), (13, ev_7), (14, ev_98)]
set_option maxRecDepth 100000 in
theorem xi_w432 : zall cJ0_coder_7d493 [zi_432_0] := zall_w _ _ (by decide +kernel)
noncomputable def xi_432 (pc : Nat) : XIs := zx zi_432_0
theorem xi_ok432 (pc : Nat) : xi_ok cJ0_coder_7d493 (xi_432 pc) = true := zq1 xi_w432
noncomputable def zi_433_0 : ZIs := [(0, ev_1847), (3, ev_1004), (6, ev_13), (7, ev_280), (10, ev_326), (13, ev_7), (14, ev_229), (17, ev_10), (18, ev_98)]
set_option maxRecDepth 100000 in
theorem xi_w433 : zall cJ0_isLatin1_aae02 [zi_433_0] := zall_w _ _ (by decide +kernel)
noncomputable def xi_433 (pc : Nat) : XIs := zx zi_433_0
theorem xi_ok433 (pc : Nat) : xi_ok cJ0_isLatin1_aae02 (xi_433 pc) = true := zq1 xi_w433
noncomputable def zi_434_0 : ZIs := [(0, ev_482), (1, ev_192), (2, ev_1848), (5, ev_1849), (8, ev_50), (9, ev_260)]
set_option maxRecDepth 100000 in
theorem xi_w434 : zall cJ0_checkIndex_df160 [zi_434_0] := zall_w _ _ (by decide +kernel)
noncomputable def xi_434 (pc : Nat) : XIs := zx zi_434_0
theorem xi_ok434 (pc : Nat) : xi_ok cJ0_checkIndex_df160 (xi_434 pc) = true := zq1 xi_w434
noncomputable def zi_435_0 : ZIs := [(0, ev_192), (1, ev_13), (2, ev_14), (3, ev_1850), (6, ev_13), (7, ev_192), (8, ev_1292), (9, ev_1851), (12, ev_20), (13, ev_423), (14, ev_98)]
set_option maxRecDepth 100000 in
theorem xi_w435 : zall cJ1_charAt_3b067 [zi_435_0] := zall_w _ _ (by decide +kernel)
noncomputable def xi_435 (pc : Nat) : XIs := zx zi_435_0
theorem xi_ok435 (pc : Nat) : xi_ok cJ1_charAt_3b067 (xi_435 pc) = true := zq1 xi_w435
noncomputable def zi_436_0 : ZIs := [(0, ev_482), (1, ev_1158), (4, ev_482), (5, ev_1851), (8, ev_886), (11, ev_7), (12, ev_229), (15, ev_10), (16, ev_98)]
set_option maxRecDepth 100000 in
theorem xi_w436 : zall cJ1_canEncode_9a6ad [zi_436_0] := zall_w _ _ (by decide +kernel)
noncomputable def xi_436 (pc : Nat) : XIs := zx zi_436_0
theorem xi_ok436 (pc : Nat) : xi_ok cJ1_canEncode_9a6ad (xi_436 pc) = true := zq1 xi_w436
noncomputable def zi_437_0 : ZIs := [(0, ev_192), (1, ev_1852), (4, ev_378), (7, ev_252), (8, ev_98), (9, ev_197), (10, ev_10), (11, ev_1853), (14, ev_294), (15, ev_198), (16, ev_13), (17, ev_14), (18, ev_1854), (21, ev_295), (22, ev_197), (23, ev_198)]
noncomputable def zi_437_1 : ZIs := [(24, ev_993), (27, ev_252), (28, ev_98), (29, ev_13), (30, ev_192), (31, ev_197), (32, ev_198), (33, ev_895), (36, ev_98)]
set_option maxRecDepth 100000 in
theorem xi_w437 : zall cJ1_indexOf_4cfef [zi_437_0, zi_437_1] := zall_w _ _ (by decide +kernel)
noncomputable def xi_437 (pc : Nat) : XIs := cond (Nat.blt pc 24) (zx zi_437_0) (zx zi_437_1)
theorem xi_ok437 (pc : Nat) : xi_ok cJ1_indexOf_4cfef (xi_437 pc) = true := xi_c (zq1 xi_w437) (zq1 (zq2 xi_w437))
noncomputable def zi_438_0 : ZIs := [(0, ev_192), (1, ev_1855), (2, ev_11), (4, ev_197), (5, ev_25), (7, ev_96), (9, ev_198), (10, ev_364), (13, ev_13), (14, ev_96), (16, ev_1292), (17, ev_12), (19, ev_774), (22, ev_96), (24, ev_98), (25, ev_343)]
noncomputable def zi_438_1 : ZIs := [(28, ev_1327), (31, ev_252), (32, ev_98)]
set_option maxRecDepth 100000 in
theorem xi_w438 : zall cJ1_indexOfChar_4cfef [zi_438_0, zi_438_1] := zall_w _ _ (by decide +kernel)
noncomputable def xi_438 (pc : Nat) : XIs := cond (Nat.blt pc 28) (zx zi_438_0) (zx zi_438_1)
theorem xi_ok438 (pc : Nat) : xi_ok cJ1_indexOfChar_4cfef (xi_438 pc) = true := xi_c (zq1 xi_w438) (zq1 (zq2 xi_w438))
noncomputable def zi_439_0 : ZIs := [(0, ev_482), (1, ev_1856), (4, ev_482), (5, ev_192), (6, ev_1549), (9, ev_26), (10, ev_482), (11, ev_192), (12, ev_895), (15, ev_1857), (16, ev_482), (17, ev_98)]
set_option maxRecDepth 100000 in
theorem xi_w439 : zall cJ3_checkIndex_8e157 [zi_439_0] := zall_w _ _ (by decide +kernel)
noncomputable def xi_439 (pc : Nat) : XIs := zx zi_439_0
theorem xi_ok439 (pc : Nat) : xi_ok cJ3_checkIndex_8e157 (xi_439 pc) = true := zq1 xi_w439
end
