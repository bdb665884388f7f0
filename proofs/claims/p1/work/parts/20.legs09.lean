theorem xz_r40_1 : xsame (xgo 5635 xz_w40_0) [] = true := by decide +kernel
theorem xz_op40 : XFin (xz_S1 (xz_E 40)) := (xgo_fin (xsame_ok xz_r40_0) (xgo_fin (xsame_ok xz_r40_1) (fun s hs => by cases hs))) _ List.mem_cons_self
theorem xz_r41_0 : xsame (xgo 3456 [xz_S1 (xz_E 41)]) [] = true := by decide +kernel
theorem xz_op41 : XFin (xz_S1 (xz_E 41)) := (xgo_fin (xsame_ok xz_r41_0) (fun s hs => by cases hs)) _ List.mem_cons_self
theorem xz_r42_0 : xsame (xgo 200 [xz_S1 (xz_E 42)]) [] = true := by decide +kernel
theorem xz_op42 : XFin (xz_S1 (xz_E 42)) := (xgo_fin (xsame_ok xz_r42_0) (fun s hs => by cases hs)) _ List.mem_cons_self
theorem xz_r43_0 : xsame (xgo 281 [xz_S1 (xz_E 43)]) [] = true := by decide +kernel
theorem xz_op43 : XFin (xz_S1 (xz_E 43)) := (xgo_fin (xsame_ok xz_r43_0) (fun s hs => by cases hs)) _ List.mem_cons_self
theorem xz_r44_0 : xsame (xgo 4182 [xz_S1 (xz_E 44)]) [] = true := by decide +kernel
theorem xz_op44 : XFin (xz_S1 (xz_E 44)) := (xgo_fin (xsame_ok xz_r44_0) (fun s hs => by cases hs)) _ List.mem_cons_self
theorem xz_r45_0 : xsame (xgo 154 [xz_S1 (xz_E 45)]) [] = true := by decide +kernel
theorem xz_op45 : XFin (xz_S1 (xz_E 45)) := (xgo_fin (xsame_ok xz_r45_0) (fun s hs => by cases hs)) _ List.mem_cons_self
theorem xz_r46_0 : xsame (xgo 505 [xz_S1 (xz_E 46)]) [] = true := by decide +kernel
theorem xz_op46 : XFin (xz_S1 (xz_E 46)) := (xgo_fin (xsame_ok xz_r46_0) (fun s hs => by cases hs)) _ List.mem_cons_self
theorem xz_r47_0 : xsame (xgo 20 [xz_S1 (xz_E 47)]) [] = true := by decide +kernel
theorem xz_op47 : XFin (xz_S1 (xz_E 47)) := (xgo_fin (xsame_ok xz_r47_0) (fun s hs => by cases hs)) _ List.mem_cons_self
theorem xz_r48_0 : xsame (xgo 20 [xz_S1 (xz_E 48)]) [] = true := by decide +kernel
theorem xz_op48 : XFin (xz_S1 (xz_E 48)) := (xgo_fin (xsame_ok xz_r48_0) (fun s hs => by cases hs)) _ List.mem_cons_self
theorem xz_r49_0 : xsame (xgo 20 [xz_S1 (xz_E 49)]) [] = true := by decide +kernel
theorem xz_op49 : XFin (xz_S1 (xz_E 49)) := (xgo_fin (xsame_ok xz_r49_0) (fun s hs => by cases hs)) _ List.mem_cons_self
theorem xz_r50_0 : xsame (xgo 20 [xz_S1 (xz_E 50)]) [] = true := by decide +kernel
theorem xz_op50 : XFin (xz_S1 (xz_E 50)) := (xgo_fin (xsame_ok xz_r50_0) (fun s hs => by cases hs)) _ List.mem_cons_self
theorem xz_r51_0 : xsame (xgo 20 [xz_S1 (xz_E 51)]) [] = true := by decide +kernel
theorem xz_op51 : XFin (xz_S1 (xz_E 51)) := (xgo_fin (xsame_ok xz_r51_0) (fun s hs => by cases hs)) _ List.mem_cons_self
theorem xz_r52_0 : xsame (xgo 20 [xz_S1 (xz_E 52)]) [] = true := by decide +kernel
theorem xz_op52 : XFin (xz_S1 (xz_E 52)) := (xgo_fin (xsame_ok xz_r52_0) (fun s hs => by cases hs)) _ List.mem_cons_self
theorem xz_r53_0 : xsame (xgo 20 [xz_S1 (xz_E 53)]) [] = true := by decide +kernel
theorem xz_op53 : XFin (xz_S1 (xz_E 53)) := (xgo_fin (xsame_ok xz_r53_0) (fun s hs => by cases hs)) _ List.mem_cons_self
theorem xz_r54_0 : xsame (xgo 20 [xz_S1 (xz_E 54)]) [] = true := by decide +kernel
theorem xz_op54 : XFin (xz_S1 (xz_E 54)) := (xgo_fin (xsame_ok xz_r54_0) (fun s hs => by cases hs)) _ List.mem_cons_self
theorem xz_r55_0 : xsame (xgo 20 [xz_S1 (xz_E 55)]) [] = true := by decide +kernel
theorem xz_op55 : XFin (xz_S1 (xz_E 55)) := (xgo_fin (xsame_ok xz_r55_0) (fun s hs => by cases hs)) _ List.mem_cons_self
theorem xz_r56_0 : xsame (xgo 20 [xz_S1 (xz_E 56)]) [] = true := by decide +kernel
theorem xz_op56 : XFin (xz_S1 (xz_E 56)) := (xgo_fin (xsame_ok xz_r56_0) (fun s hs => by cases hs)) _ List.mem_cons_self
theorem xz_r57_0 : xsame (xgo 20 [xz_S1 (xz_E 57)]) [] = true := by decide +kernel
theorem xz_op57 : XFin (xz_S1 (xz_E 57)) := (xgo_fin (xsame_ok xz_r57_0) (fun s hs => by cases hs)) _ List.mem_cons_self
theorem xz_r58_0 : xsame (xgo 20 [xz_S1 (xz_E 58)]) [] = true := by decide +kernel
theorem xz_op58 : XFin (xz_S1 (xz_E 58)) := (xgo_fin (xsame_ok xz_r58_0) (fun s hs => by cases hs)) _ List.mem_cons_self
theorem xz_r59_0 : xsame (xgo 20 [xz_S1 (xz_E 59)]) [] = true := by decide +kernel
theorem xz_op59 : XFin (xz_S1 (xz_E 59)) := (xgo_fin (xsame_ok xz_r59_0) (fun s hs => by cases hs)) _ List.mem_cons_self
theorem xz_r60_0 : xsame (xgo 20 [xz_S1 (xz_E 60)]) [] = true := by decide +kernel
theorem xz_op60 : XFin (xz_S1 (xz_E 60)) := (xgo_fin (xsame_ok xz_r60_0) (fun s hs => by cases hs)) _ List.mem_cons_self
theorem xz_r61_0 : xsame (xgo 20 [xz_S1 (xz_E 61)]) [] = true := by decide +kernel
theorem xz_op61 : XFin (xz_S1 (xz_E 61)) := (xgo_fin (xsame_ok xz_r61_0) (fun s hs => by cases hs)) _ List.mem_cons_self
theorem xz_r62_0 : xsame (xgo 20 [xz_S1 (xz_E 62)]) [] = true := by decide +kernel
theorem xz_op62 : XFin (xz_S1 (xz_E 62)) := (xgo_fin (xsame_ok xz_r62_0) (fun s hs => by cases hs)) _ List.mem_cons_self
theorem xz_r63_0 : xsame (xgo 20 [xz_S1 (xz_E 63)]) [] = true := by decide +kernel
theorem xz_op63 : XFin (xz_S1 (xz_E 63)) := (xgo_fin (xsame_ok xz_r63_0) (fun s hs => by cases hs)) _ List.mem_cons_self
