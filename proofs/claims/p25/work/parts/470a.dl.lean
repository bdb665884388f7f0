/-! a quick check of an instruction by its bytes -/
noncomputable def foI (c : Int) : Nat := match c with
  | .ofNat m => if m < 6 then 3 + m else 256
  | .negSucc m => if m < 1 then 2 else 256
noncomputable def fo1 (i : Instr) : Nat := match i with
  | .aload_n n => 42 + n.val
  | .iload_n n => 26 + n.val
  | .istore_n n => 59 + n.val
  | .astore_n n => 75 + n.val
  | .lload_n n => 30 + n.val
  | .lstore_n n => 63 + n.val
  | .lconst n => 9 + n.val
  | .iconst c => foI c
  | .iaload => 46
  | .laload => 47
  | .aaload => 50
  | .baload => 51
  | .caload => 52
  | .iastore => 79
  | .lastore => 80
  | .bastore => 84
  | .castore => 85
  | .pop => 87
  | .pop2 => 88
  | .dup => 89
  | .dup_x1 => 90
  | .dup_x2 => 91
  | .dup2 => 92
  | .iadd => 96
  | .ladd => 97
  | .isub => 100
  | .lsub => 101
  | .imul => 104
  | .lmul => 105
  | .idiv => 108
  | .ldiv => 109
  | .irem => 112
  | .lrem => 113
  | .ineg => 116
  | .lneg => 117
  | .ishl => 120
  | .lshl => 121
  | .ishr => 122
  | .lshr => 123
  | .iushr => 124
  | .lushr => 125
  | .iand => 126
  | .land => 127
  | .ior => 128
  | .lor => 129
  | .ixor => 130
  | .lxor => 131
  | .i2l => 133
  | .l2i => 136
  | .i2b => 145
  | .i2c => 146
  | .lcmp => 148
  | .ireturn => 172
  | .lreturn => 173
  | .areturn => 176
  | .return_ => 177
  | .arraylength => 190
  | .athrow => 191
  | _ => 256
theorem fn_aload_n : ∀ n : Fin 4, decode ⟨#[UInt8.ofNat (42 + n.val)]⟩ 0 = .ok (.aload_n n, 1) := by decide +kernel
theorem fn_iload_n : ∀ n : Fin 4, decode ⟨#[UInt8.ofNat (26 + n.val)]⟩ 0 = .ok (.iload_n n, 1) := by decide +kernel
theorem fn_istore_n : ∀ n : Fin 4, decode ⟨#[UInt8.ofNat (59 + n.val)]⟩ 0 = .ok (.istore_n n, 1) := by decide +kernel
theorem fn_astore_n : ∀ n : Fin 4, decode ⟨#[UInt8.ofNat (75 + n.val)]⟩ 0 = .ok (.astore_n n, 1) := by decide +kernel
theorem fn_lload_n : ∀ n : Fin 4, decode ⟨#[UInt8.ofNat (30 + n.val)]⟩ 0 = .ok (.lload_n n, 1) := by decide +kernel
theorem fn_lstore_n : ∀ n : Fin 4, decode ⟨#[UInt8.ofNat (63 + n.val)]⟩ 0 = .ok (.lstore_n n, 1) := by decide +kernel
theorem fn_lconst : ∀ n : Fin 2, decode ⟨#[UInt8.ofNat (9 + n.val)]⟩ 0 = .ok (.lconst n, 1) := by decide +kernel
theorem fn_iconst (c : Int) (h : foI c < 256) : decode ⟨#[UInt8.ofNat (foI c)]⟩ 0 = .ok (.iconst c, 1) := by
  cases c with
  | ofNat m =>
    by_cases q : m < 6
    · rcases m with _ | _ | _ | _ | _ | _ | m
      · decide +kernel
      · decide +kernel
      · decide +kernel
      · decide +kernel
      · decide +kernel
      · decide +kernel
      · exact absurd q (by omega)
    · rw [show foI (.ofNat m) = 256 from if_neg q] at h
      exact absurd h (Nat.lt_irrefl _)
  | negSucc m =>
    by_cases q : m < 1
    · have e : m = 0 := by omega
      subst e
      decide +kernel
    · rw [show foI (.negSucc m) = 256 from if_neg q] at h
      exact absurd h (Nat.lt_irrefl _)
set_option maxHeartbeats 4000000 in
theorem fo1_ok (i : Instr) (b : UInt8) (h : b.toNat = fo1 i) : decode ⟨#[b]⟩ 0 = .ok (i, 1) := by
  have hl : fo1 i < 256 := by
    rw [← h]
    exact b.toNat_lt
  have e : b = UInt8.ofNat (fo1 i) := by rw [← h, UInt8.ofNat_toNat]
  rw [e]
  clear e h
  cases i <;> first | exact absurd (show 256 < 256 from hl) (Nat.lt_irrefl _) | decide +kernel | exact fn_aload_n _ | exact fn_iload_n _ | exact fn_istore_n _ | exact fn_astore_n _ | exact fn_lload_n _ | exact fn_lstore_n _ | exact fn_lconst _ | exact fn_iconst _ hl
noncomputable def fo2 (x : Nat) (i : Instr) : Nat := match i with
  | .iload m => if m = x then 21 else 256
  | .lload m => if m = x then 22 else 256
  | .aload m => if m = x then 25 else 256
  | .istore m => if m = x then 54 else 256
  | .lstore m => if m = x then 55 else 256
  | .astore m => if m = x then 58 else 256
  | .ldc m => if m = x then 18 else 256
  | .bipush c => if c = Jvm.ClassFile.Reader.signed 8 x then 16 else 256
  | _ => 256
theorem f2_iload (x : UInt8) : decode ⟨#[21, x]⟩ 0 = .ok (.iload x.toNat, 2) := rfl
theorem f2_lload (x : UInt8) : decode ⟨#[22, x]⟩ 0 = .ok (.lload x.toNat, 2) := rfl
theorem f2_aload (x : UInt8) : decode ⟨#[25, x]⟩ 0 = .ok (.aload x.toNat, 2) := rfl
theorem f2_istore (x : UInt8) : decode ⟨#[54, x]⟩ 0 = .ok (.istore x.toNat, 2) := rfl
theorem f2_lstore (x : UInt8) : decode ⟨#[55, x]⟩ 0 = .ok (.lstore x.toNat, 2) := rfl
theorem f2_astore (x : UInt8) : decode ⟨#[58, x]⟩ 0 = .ok (.astore x.toNat, 2) := rfl
theorem f2_ldc (x : UInt8) : decode ⟨#[18, x]⟩ 0 = .ok (.ldc x.toNat, 2) := rfl
theorem f2_bipush (x : UInt8) : decode ⟨#[16, x]⟩ 0 = .ok (.bipush (Jvm.ClassFile.Reader.signed 8 x.toNat), 2) := rfl
theorem fo_if {p : Prop} [Decidable p] {b : UInt8} {v : Nat} (h : b.toNat = if p then v else 256) : p ∧ b.toNat = v := by
  by_cases q : p
  · rw [if_pos q] at h
    exact ⟨q, h⟩
  · rw [if_neg q] at h
    have := b.toNat_lt
    omega
set_option maxHeartbeats 4000000 in
theorem fo2_ok (i : Instr) (b x : UInt8) (h : b.toNat = fo2 x.toNat i) : decode ⟨#[b, x]⟩ 0 = .ok (i, 2) := by
  cases i with
  | iload m =>
    obtain ⟨h1, h2⟩ := fo_if h
    rw [show b = 21 from UInt8.toNat_inj.mp h2, h1]
    exact f2_iload x
  | lload m =>
    obtain ⟨h1, h2⟩ := fo_if h
    rw [show b = 22 from UInt8.toNat_inj.mp h2, h1]
    exact f2_lload x
  | aload m =>
    obtain ⟨h1, h2⟩ := fo_if h
    rw [show b = 25 from UInt8.toNat_inj.mp h2, h1]
    exact f2_aload x
  | istore m =>
    obtain ⟨h1, h2⟩ := fo_if h
    rw [show b = 54 from UInt8.toNat_inj.mp h2, h1]
    exact f2_istore x
  | lstore m =>
    obtain ⟨h1, h2⟩ := fo_if h
    rw [show b = 55 from UInt8.toNat_inj.mp h2, h1]
    exact f2_lstore x
  | astore m =>
    obtain ⟨h1, h2⟩ := fo_if h
    rw [show b = 58 from UInt8.toNat_inj.mp h2, h1]
    exact f2_astore x
  | ldc m =>
    obtain ⟨h1, h2⟩ := fo_if h
    rw [show b = 18 from UInt8.toNat_inj.mp h2, h1]
    exact f2_ldc x
  | bipush c =>
    obtain ⟨h1, h2⟩ := fo_if h
    rw [show b = 16 from UInt8.toNat_inj.mp h2, h1]
    exact f2_bipush x
  | _ => exact absurd (show b.toNat = 256 from h) (by have := b.toNat_lt; omega)
noncomputable def foC (k : Jvm.ClassFile.Cond) : Nat := match k with
  | .eq => 0
  | .ne => 1
  | .lt => 2
  | .ge => 3
  | .gt => 4
  | .le => 5
noncomputable def fo3 (x y : Nat) (i : Instr) : Nat := match i with
  | .getfield m => if m = x * 256 + y then 180 else 256
  | .putfield m => if m = x * 256 + y then 181 else 256
  | .getstatic m => if m = x * 256 + y then 178 else 256
  | .putstatic m => if m = x * 256 + y then 179 else 256
  | .invokevirtual m => if m = x * 256 + y then 182 else 256
  | .invokespecial m => if m = x * 256 + y then 183 else 256
  | .invokestatic m => if m = x * 256 + y then 184 else 256
  | .new m => if m = x * 256 + y then 187 else 256
  | .ldc_w m => if m = x * 256 + y then 19 else 256
  | .ldc2_w m => if m = x * 256 + y then 20 else 256
  | .sipush c => if c = Jvm.ClassFile.Reader.signed 16 (x * 256 + y) then 17 else 256
  | .goto c => if c = Jvm.ClassFile.Reader.signed 16 (x * 256 + y) then 167 else 256
  | .ifCond d c => if c = Jvm.ClassFile.Reader.signed 16 (x * 256 + y) then 153 + foC d else 256
  | .if_icmp d c => if c = Jvm.ClassFile.Reader.signed 16 (x * 256 + y) then 159 + foC d else 256
  | .iinc j c => if j = x ∧ c = Jvm.ClassFile.Reader.signed 8 y then 132 else 256
  | _ => 256
theorem f3_getfield (x y : UInt8) : decode ⟨#[180, x, y]⟩ 0 = .ok (.getfield (x.toNat * 256 + y.toNat), 3) := rfl
theorem f3_putfield (x y : UInt8) : decode ⟨#[181, x, y]⟩ 0 = .ok (.putfield (x.toNat * 256 + y.toNat), 3) := rfl
theorem f3_getstatic (x y : UInt8) : decode ⟨#[178, x, y]⟩ 0 = .ok (.getstatic (x.toNat * 256 + y.toNat), 3) := rfl
theorem f3_putstatic (x y : UInt8) : decode ⟨#[179, x, y]⟩ 0 = .ok (.putstatic (x.toNat * 256 + y.toNat), 3) := rfl
theorem f3_invokevirtual (x y : UInt8) : decode ⟨#[182, x, y]⟩ 0 = .ok (.invokevirtual (x.toNat * 256 + y.toNat), 3) := rfl
theorem f3_invokespecial (x y : UInt8) : decode ⟨#[183, x, y]⟩ 0 = .ok (.invokespecial (x.toNat * 256 + y.toNat), 3) := rfl
theorem f3_invokestatic (x y : UInt8) : decode ⟨#[184, x, y]⟩ 0 = .ok (.invokestatic (x.toNat * 256 + y.toNat), 3) := rfl
theorem f3_new (x y : UInt8) : decode ⟨#[187, x, y]⟩ 0 = .ok (.new (x.toNat * 256 + y.toNat), 3) := rfl
theorem f3_ldc_w (x y : UInt8) : decode ⟨#[19, x, y]⟩ 0 = .ok (.ldc_w (x.toNat * 256 + y.toNat), 3) := rfl
theorem f3_ldc2_w (x y : UInt8) : decode ⟨#[20, x, y]⟩ 0 = .ok (.ldc2_w (x.toNat * 256 + y.toNat), 3) := rfl
theorem f3_sipush (x y : UInt8) : decode ⟨#[17, x, y]⟩ 0 = .ok (.sipush (Jvm.ClassFile.Reader.signed 16 (x.toNat * 256 + y.toNat)), 3) := rfl
theorem f3_goto (x y : UInt8) : decode ⟨#[167, x, y]⟩ 0 = .ok (.goto (Jvm.ClassFile.Reader.signed 16 (x.toNat * 256 + y.toNat)), 3) := rfl
theorem f3_ifCond_eq (x y : UInt8) : decode ⟨#[153, x, y]⟩ 0 = .ok (.ifCond .eq (Jvm.ClassFile.Reader.signed 16 (x.toNat * 256 + y.toNat)), 3) := rfl
theorem f3_ifCond_ne (x y : UInt8) : decode ⟨#[154, x, y]⟩ 0 = .ok (.ifCond .ne (Jvm.ClassFile.Reader.signed 16 (x.toNat * 256 + y.toNat)), 3) := rfl
theorem f3_ifCond_lt (x y : UInt8) : decode ⟨#[155, x, y]⟩ 0 = .ok (.ifCond .lt (Jvm.ClassFile.Reader.signed 16 (x.toNat * 256 + y.toNat)), 3) := rfl
theorem f3_ifCond_ge (x y : UInt8) : decode ⟨#[156, x, y]⟩ 0 = .ok (.ifCond .ge (Jvm.ClassFile.Reader.signed 16 (x.toNat * 256 + y.toNat)), 3) := rfl
theorem f3_ifCond_gt (x y : UInt8) : decode ⟨#[157, x, y]⟩ 0 = .ok (.ifCond .gt (Jvm.ClassFile.Reader.signed 16 (x.toNat * 256 + y.toNat)), 3) := rfl
theorem f3_ifCond_le (x y : UInt8) : decode ⟨#[158, x, y]⟩ 0 = .ok (.ifCond .le (Jvm.ClassFile.Reader.signed 16 (x.toNat * 256 + y.toNat)), 3) := rfl
theorem f3_if_icmp_eq (x y : UInt8) : decode ⟨#[159, x, y]⟩ 0 = .ok (.if_icmp .eq (Jvm.ClassFile.Reader.signed 16 (x.toNat * 256 + y.toNat)), 3) := rfl
theorem f3_if_icmp_ne (x y : UInt8) : decode ⟨#[160, x, y]⟩ 0 = .ok (.if_icmp .ne (Jvm.ClassFile.Reader.signed 16 (x.toNat * 256 + y.toNat)), 3) := rfl
theorem f3_if_icmp_lt (x y : UInt8) : decode ⟨#[161, x, y]⟩ 0 = .ok (.if_icmp .lt (Jvm.ClassFile.Reader.signed 16 (x.toNat * 256 + y.toNat)), 3) := rfl
theorem f3_if_icmp_ge (x y : UInt8) : decode ⟨#[162, x, y]⟩ 0 = .ok (.if_icmp .ge (Jvm.ClassFile.Reader.signed 16 (x.toNat * 256 + y.toNat)), 3) := rfl
theorem f3_if_icmp_gt (x y : UInt8) : decode ⟨#[163, x, y]⟩ 0 = .ok (.if_icmp .gt (Jvm.ClassFile.Reader.signed 16 (x.toNat * 256 + y.toNat)), 3) := rfl
theorem f3_if_icmp_le (x y : UInt8) : decode ⟨#[164, x, y]⟩ 0 = .ok (.if_icmp .le (Jvm.ClassFile.Reader.signed 16 (x.toNat * 256 + y.toNat)), 3) := rfl
theorem f3_iinc (x y : UInt8) : decode ⟨#[132, x, y]⟩ 0 = .ok (.iinc x.toNat (Jvm.ClassFile.Reader.signed 8 y.toNat), 3) := rfl
set_option maxHeartbeats 4000000 in
theorem fo3_ok (i : Instr) (b x y : UInt8) (h : b.toNat = fo3 x.toNat y.toNat i) : decode ⟨#[b, x, y]⟩ 0 = .ok (i, 3) := by
  cases i with
  | getfield m =>
    obtain ⟨h1, h2⟩ := fo_if h
    rw [show b = 180 from UInt8.toNat_inj.mp h2, h1]
    exact f3_getfield x y
  | putfield m =>
    obtain ⟨h1, h2⟩ := fo_if h
    rw [show b = 181 from UInt8.toNat_inj.mp h2, h1]
    exact f3_putfield x y
  | getstatic m =>
    obtain ⟨h1, h2⟩ := fo_if h
    rw [show b = 178 from UInt8.toNat_inj.mp h2, h1]
    exact f3_getstatic x y
  | putstatic m =>
    obtain ⟨h1, h2⟩ := fo_if h
    rw [show b = 179 from UInt8.toNat_inj.mp h2, h1]
    exact f3_putstatic x y
  | invokevirtual m =>
    obtain ⟨h1, h2⟩ := fo_if h
    rw [show b = 182 from UInt8.toNat_inj.mp h2, h1]
    exact f3_invokevirtual x y
  | invokespecial m =>
    obtain ⟨h1, h2⟩ := fo_if h
    rw [show b = 183 from UInt8.toNat_inj.mp h2, h1]
    exact f3_invokespecial x y
  | invokestatic m =>
    obtain ⟨h1, h2⟩ := fo_if h
    rw [show b = 184 from UInt8.toNat_inj.mp h2, h1]
    exact f3_invokestatic x y
  | new m =>
    obtain ⟨h1, h2⟩ := fo_if h
    rw [show b = 187 from UInt8.toNat_inj.mp h2, h1]
    exact f3_new x y
  | ldc_w m =>
    obtain ⟨h1, h2⟩ := fo_if h
    rw [show b = 19 from UInt8.toNat_inj.mp h2, h1]
    exact f3_ldc_w x y
  | ldc2_w m =>
    obtain ⟨h1, h2⟩ := fo_if h
    rw [show b = 20 from UInt8.toNat_inj.mp h2, h1]
    exact f3_ldc2_w x y
  | sipush c =>
    obtain ⟨h1, h2⟩ := fo_if h
    rw [show b = 17 from UInt8.toNat_inj.mp h2, h1]
    exact f3_sipush x y
  | goto c =>
    obtain ⟨h1, h2⟩ := fo_if h
    rw [show b = 167 from UInt8.toNat_inj.mp h2, h1]
    exact f3_goto x y
  | ifCond d c =>
    obtain ⟨h1, h2⟩ := fo_if h
    rw [h1]
    cases d with
    | eq =>
      rw [show b = 153 from UInt8.toNat_inj.mp h2]
      exact f3_ifCond_eq x y
    | ne =>
      rw [show b = 154 from UInt8.toNat_inj.mp h2]
      exact f3_ifCond_ne x y
    | lt =>
      rw [show b = 155 from UInt8.toNat_inj.mp h2]
      exact f3_ifCond_lt x y
    | ge =>
      rw [show b = 156 from UInt8.toNat_inj.mp h2]
      exact f3_ifCond_ge x y
    | gt =>
      rw [show b = 157 from UInt8.toNat_inj.mp h2]
      exact f3_ifCond_gt x y
    | le =>
      rw [show b = 158 from UInt8.toNat_inj.mp h2]
      exact f3_ifCond_le x y
  | if_icmp d c =>
    obtain ⟨h1, h2⟩ := fo_if h
    rw [h1]
    cases d with
    | eq =>
      rw [show b = 159 from UInt8.toNat_inj.mp h2]
      exact f3_if_icmp_eq x y
    | ne =>
      rw [show b = 160 from UInt8.toNat_inj.mp h2]
      exact f3_if_icmp_ne x y
    | lt =>
      rw [show b = 161 from UInt8.toNat_inj.mp h2]
      exact f3_if_icmp_lt x y
    | ge =>
      rw [show b = 162 from UInt8.toNat_inj.mp h2]
      exact f3_if_icmp_ge x y
    | gt =>
      rw [show b = 163 from UInt8.toNat_inj.mp h2]
      exact f3_if_icmp_gt x y
    | le =>
      rw [show b = 164 from UInt8.toNat_inj.mp h2]
      exact f3_if_icmp_le x y
  | iinc j c =>
    obtain ⟨⟨h1, h3⟩, h2⟩ := fo_if h
    rw [show b = 132 from UInt8.toNat_inj.mp h2, h1, h3]
    exact f3_iinc x y
  | _ => exact absurd (show b.toNat = 256 from h) (by have := b.toNat_lt; omega)
noncomputable def dl_f3 (b x : UInt8) (t : List UInt8) (q : Nat × Instr × Nat) : Bool := match t with
  | [] => false
  | y :: _ => Nat.beq q.2.2 3 && Nat.beq b.toNat (fo3 x.toNat y.toNat q.2.1)
noncomputable def dl_f2 (b : UInt8) (t : List UInt8) (q : Nat × Instr × Nat) : Bool := match t with
  | [] => false
  | x :: t2 => (Nat.beq q.2.2 2 && Nat.beq b.toNat (fo2 x.toNat q.2.1)) || dl_f3 b x t2 q
noncomputable def dl_fast (l : List UInt8) (q : Nat × Instr × Nat) : Bool := match l with
  | [] => false
  | b :: t => dl_easy b.toNat && ((Nat.beq q.2.2 1 && Nat.beq b.toNat (fo1 q.2.1)) || dl_f2 b t q)
theorem dl_fst : ∀ {l : List UInt8} {q : Nat × Instr × Nat}, dl_fast l q = true → ∃ (b : UInt8) (c' : List UInt8), c'[0]? = some b ∧ dl_easy b.toNat = true ∧ (∀ i x, c'[i]? = some x → l[i]? = some x) ∧ decode ⟨c'.toArray⟩ 0 = .ok (q.2.1, q.2.2)
  | [], _, h => by cases h
  | b :: t, q, h => by
    have h1 : (dl_easy b.toNat && ((Nat.beq q.2.2 1 && Nat.beq b.toNat (fo1 q.2.1)) || dl_f2 b t q)) = true := h
    rw [Bool.and_eq_true, Bool.or_eq_true] at h1
    obtain ⟨he, h1⟩ := h1
    rcases h1 with h1 | h1
    · rw [Bool.and_eq_true] at h1
      refine ⟨b, [b], rfl, he, fun i x hx => ?_, ?_⟩
      · rcases i with _ | i
        · exact hx
        · rw [List.getElem?_cons_succ, List.getElem?_nil] at hx
          cases hx
      · rw [Nat.eq_of_beq_eq_true h1.1]
        exact fo1_ok q.2.1 b (Nat.eq_of_beq_eq_true h1.2)
    · rcases t with _ | ⟨x, t2⟩
      · cases h1
      · have h2 : ((Nat.beq q.2.2 2 && Nat.beq b.toNat (fo2 x.toNat q.2.1)) || dl_f3 b x t2 q) = true := h1
        rw [Bool.or_eq_true] at h2
        rcases h2 with h2 | h2
        · rw [Bool.and_eq_true] at h2
          refine ⟨b, [b, x], rfl, he, fun i z hx => ?_, ?_⟩
          · rcases i with _ | _ | i
            · exact hx
            · exact hx
            · rw [List.getElem?_cons_succ, List.getElem?_cons_succ, List.getElem?_nil] at hx
              cases hx
          · rw [Nat.eq_of_beq_eq_true h2.1]
            exact fo2_ok q.2.1 b x (Nat.eq_of_beq_eq_true h2.2)
        · rcases t2 with _ | ⟨y, t3⟩
          · cases h2
          · have h3 : (Nat.beq q.2.2 3 && Nat.beq b.toNat (fo3 x.toNat y.toNat q.2.1)) = true := h2
            rw [Bool.and_eq_true] at h3
            refine ⟨b, [b, x, y], rfl, he, fun i z hx => ?_, ?_⟩
            · rcases i with _ | _ | _ | i
              · exact hx
              · exact hx
              · exact hx
              · rw [List.getElem?_cons_succ, List.getElem?_cons_succ, List.getElem?_cons_succ, List.getElem?_nil] at hx
                cases hx
            · rw [Nat.eq_of_beq_eq_true h3.1]
              exact fo3_ok q.2.1 b x y (Nat.eq_of_beq_eq_true h3.2)
noncomputable def dn_slow (l : List UInt8) (q : Nat × Instr × Nat) : Bool := match l with
  | [] => false
  | b :: _ => dl_easy b.toNat && decide (decode ⟨(l.take 5).toArray⟩ 0 = .ok (q.2.1, q.2.2))
noncomputable def dn_chk (l : List UInt8) (q : Nat × Instr × Nat) : Bool := dl_fast l q || dn_slow l q
noncomputable def dn_at (b : UInt8) (t : List UInt8) (ih : Nat → XIs → Bool) (is : XIs) : Bool := match is with
  | [] => true
  | q :: r => dn_chk (b :: t) q && (dl_nx q r && ih (dl_gap q r) r)
noncomputable def dn_w (l : List UInt8) : Nat → XIs → Bool :=
  List.rec (motive := fun _ => Nat → XIs → Bool) (fun _ is => is.isEmpty)
    (fun b t ih k is => Nat.rec (motive := fun _ => Bool) (dn_at b t ih is) (fun k' _ => ih k' is) k) l
theorem dn_wok (c : ByteArray) : ∀ (l : List UInt8) (p k : Nat) (is : XIs), (∀ i b, l[i]? = some b → c.data[p + i]? = some b) → (∀ q r, is = q :: r → q.1 = p + k) → dn_w l k is = true → xi_ok c is = true
  | [], p, k, is, hl, hq, h => by
    have h2 : is.isEmpty = true := h
    cases is with
    | nil => rfl
    | cons q r => cases h2
  | b :: t, p, 0, is, hl, hq, h => by
    have h2 : dn_at b t (dn_w t) is = true := h
    cases is with
    | nil => rfl
    | cons q r =>
      have h3 : (dn_chk (b :: t) q && (dl_nx q r && dn_w t (dl_gap q r) r)) = true := h2
      rw [Bool.and_eq_true, Bool.and_eq_true] at h3
      obtain ⟨hc, hn, hw⟩ := h3
      have hp : q.1 = p := hq q r rfl
      have hr := dn_wok c t (p + 1) (dl_gap q r) r (fun i x hx => by
        have := hl (i + 1) x (by rw [List.getElem?_cons_succ]; exact hx)
        rw [show p + 1 + i = p + (i + 1) by omega]
        exact this) (fun q2 r2 e => by
        subst e
        have h5 : q.1 < q2.1 := Nat.blt_eq.mp hn
        show q2.1 = p + 1 + (q2.1 - q.1 - 1)
        omega) hw
      have h7 : decode c p = .ok (q.2.1, q.2.2) := by
        have hc2 : (dl_fast (b :: t) q || dn_slow (b :: t) q) = true := hc
        rw [Bool.or_eq_true] at hc2
        rcases hc2 with hf | hs
        · obtain ⟨b0, c1, e0, e1, e2, e3⟩ := dl_fst hf
          refine dl_dec c ⟨c1.toArray⟩ p q.2.1 q.2.2 (fun i x hx => ?_) b0 ?_ e1 e3
          · have hx2 : c1.toArray[i]? = some x := hx
            rw [List.getElem?_toArray] at hx2
            exact hl i x (e2 i x hx2)
          · show c1.toArray[0]? = some b0
            rw [List.getElem?_toArray]
            exact e0
        · have h6 : (dl_easy b.toNat && decide (decode ⟨((b :: t).take 5).toArray⟩ 0 = .ok (q.2.1, q.2.2))) = true := hs
          rw [Bool.and_eq_true] at h6
          exact dl_dec c ⟨((b :: t).take 5).toArray⟩ p q.2.1 q.2.2 (fun i x hx => by
            have hx2 : ((b :: t).take 5)[i]? = some x := by
              have := hx
              rw [List.getElem?_toArray] at this
              exact this
            rw [List.getElem?_take] at hx2
            split at hx2
            · exact hl i x hx2
            · cases hx2) b rfl h6.1 (of_decide_eq_true h6.2)
      unfold xi_ok at hr ⊢
      rw [List.all_cons, Bool.and_eq_true]
      exact ⟨decide_eq_true (by rw [hp]; exact h7), hr⟩
  | b :: t, p, k + 1, is, hl, hq, h => by
    have h2 : dn_w t k is = true := h
    exact dn_wok c t (p + 1) k is (fun i x hx => by
        have := hl (i + 1) x (by rw [List.getElem?_cons_succ]; exact hx)
        rw [show p + 1 + i = p + (i + 1) by omega]
        exact this) (fun q r e => by rw [hq q r e]; omega) h2
/-- the whole of a method in one walk -/
theorem dn_all (c : ByteArray) (is : XIs) (h : dn_w c.data.toList (dl_k0 is) is = true) : xi_ok c is = true := by
  refine dn_wok c c.data.toList 0 (dl_k0 is) is (fun i b hb => ?_) (fun q r e => ?_) h
  · rw [Nat.zero_add, ← Array.getElem?_toList]
    exact hb
  · subst e
    show q.1 = 0 + q.1
    omega
