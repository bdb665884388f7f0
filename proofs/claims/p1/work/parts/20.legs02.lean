theorem xz_r7s1_0 : xsame (xgo 7300 [xz_t7 (xz_e7.set 1 (((1 : Nat) : Int), ((1 : Nat) : Int)))]) [] = true := by decide +kernel
theorem xz_op7s1 : XFin (xz_t7 (xz_e7.set 1 (((1 : Nat) : Int), ((1 : Nat) : Int)))) := (xgo_fin (xsame_ok xz_r7s1_0) (fun s hs => by cases hs)) _ List.mem_cons_self
theorem xz_r7s2_0 : xsame (xgo 7313 [xz_t7 (xz_e7.set 1 (((2 : Nat) : Int), ((2 : Nat) : Int)))]) [] = true := by decide +kernel
theorem xz_op7s2 : XFin (xz_t7 (xz_e7.set 1 (((2 : Nat) : Int), ((2 : Nat) : Int)))) := (xgo_fin (xsame_ok xz_r7s2_0) (fun s hs => by cases hs)) _ List.mem_cons_self
theorem xz_r7s3_0 : xsame (xgo 7304 [xz_t7 (xz_e7.set 1 (((3 : Nat) : Int), ((3 : Nat) : Int)))]) [] = true := by decide +kernel
theorem xz_op7s3 : XFin (xz_t7 (xz_e7.set 1 (((3 : Nat) : Int), ((3 : Nat) : Int)))) := (xgo_fin (xsame_ok xz_r7s3_0) (fun s hs => by cases hs)) _ List.mem_cons_self
theorem xz_u7 : XFin (xz_t7 xz_e7) := by
  refine xsplit 1 3 rfl (fun v hv => ?_)
  match v, hv with
  | 0, _ => exact xz_op7s0
  | 1, _ => exact xz_op7s1
  | 2, _ => exact xz_op7s2
  | 3, _ => exact xz_op7s3
  | v + 4, hv => exact absurd hv (by omega)
theorem xz_op7 : XFin (xz_S1 (xz_E 7)) := (xgo_fin (xsame_ok xz_r7_0) (fun s hs => by
  rcases List.mem_cons.mp hs with rfl | hs
  · exact xz_u7
  · cases hs)) _ List.mem_cons_self
