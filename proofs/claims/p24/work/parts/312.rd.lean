/-! READS OF WHAT IS KNOWN -/
theorem in_u {x : Int32} {lo hi : Int} (h : In x lo hi) : lo ≤ x.toInt ∧ x.toInt ≤ hi := h
section RD
variable {Z : AmZ} {A : Nat → Nat} {s : GS} {ex : va_W} {q : Nat} {d m N pc : Nat} {ret : AmR} {xp : GX} {f : Nat → Option Value} {r : List Value} {C S : Nat}
theorem g_getIv {i k ci p0 : Nat} {y : Int32} (p : Nat) (hd : GD m pc (.getfield i) 3) (hp : pc + 3 = p) (hf : xfD (xo m) i = some (ci, k, p0)) (hw : wok q ci k 0 = true) (hy : y = s.2.2.1 q k) (h : GG Z d m ret xp N p f (.int y :: r) (WW Z A s ++ ex) C S) : GG Z d m ret xp (N + 1) pc f (.ref (A q) :: r) (WW Z A s ++ ex) C S :=
  g_getI p hd hp hf hw (fun z e => by rw [e, ← hy]; exact h)
theorem g_getZv {i k ci p0 : Nat} {y : Int32} (p : Nat) (hd : GD m pc (.getfield i) 3) (hp : pc + 3 = p) (hf : xfD (xo m) i = some (ci, k, p0)) (hw : wok q ci k 2 = true) (hy : y = s.2.2.1 q k) (h : GG Z d m ret xp N p f (.int y :: r) (WW Z A s ++ ex) C S) : GG Z d m ret xp (N + 1) pc f (.ref (A q) :: r) (WW Z A s ++ ex) C S :=
  g_getZ p hd hp hf hw (fun z e => by rw [e, ← hy]; exact h)
theorem g_ialoadv {x y : Int32} {n : Nat} (p : Nat) (hd : GD m pc .iaload 1) (hp : pc + 1 = p) (hw : wak q 0 n = true) (hx : vp_in x n) (hy : y = s.1 q x.toNatClampNeg) (h : GG Z d m ret xp N p f (.int y :: r) (WW Z A s ++ ex) C S) : GG Z d m ret xp (N + 1) pc f (.int x :: .ref (A q) :: r) (WW Z A s ++ ex) C S :=
  g_iaload p hd hp hw hx (fun z e => by rw [e, ← hy]; exact h)
theorem g_caloadv {x y : Int32} {n : Nat} (p : Nat) (hd : GD m pc .caload 1) (hp : pc + 1 = p) (hw : wak q 2 n = true) (hx : vp_in x n) (hy : y = s.1 q x.toNatClampNeg) (h : GG Z d m ret xp N p f (.int y :: r) (WW Z A s ++ ex) C S) : GG Z d m ret xp (N + 1) pc f (.int x :: .ref (A q) :: r) (WW Z A s ++ ex) C S :=
  g_caload p hd hp hw hx (fun z e => by rw [e, ← hy]; exact h)
theorem g_baloadv {x y : Int32} {n : Nat} (p : Nat) (hd : GD m pc .baload 1) (hp : pc + 1 = p) (hw : wak q 3 n = true) (hx : vp_in x n) (hy : y = s.1 q x.toNatClampNeg) (h : GG Z d m ret xp N p f (.int y :: r) (WW Z A s ++ ex) C S) : GG Z d m ret xp (N + 1) pc f (.int x :: .ref (A q) :: r) (WW Z A s ++ ex) C S :=
  g_baload p hd hp hw hx (fun z e => by rw [e, ← hy]; exact h)
end RD
