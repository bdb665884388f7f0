theorem xz_r32_9 : xsame (xgo 6000 xz_w32_8) xz_w32_9 = true := by decide +kernel
theorem xz_r32_10 : xsame (xgo 8134 xz_w32_9) [] = true := by decide +kernel
theorem xz_op32 : XFin (xz_S1 (xz_E 32)) := (xgo_fin (xsame_ok xz_r32_0) (xgo_fin (xsame_ok xz_r32_1) (xgo_fin (xsame_ok xz_r32_2) (xgo_fin (xsame_ok xz_r32_3) (xgo_fin (xsame_ok xz_r32_4) (xgo_fin (xsame_ok xz_r32_5) (xgo_fin (xsame_ok xz_r32_6) (xgo_fin (xsame_ok xz_r32_7) (xgo_fin (xsame_ok xz_r32_8) (xgo_fin (xsame_ok xz_r32_9) (xgo_fin (xsame_ok xz_r32_10) (fun s hs => by cases hs)))))))))))) _ List.mem_cons_self
theorem xz_r33_0 : xsame (xgo 176 [xz_S1 (xz_E 33)]) [] = true := by decide +kernel
theorem xz_op33 : XFin (xz_S1 (xz_E 33)) := (xgo_fin (xsame_ok xz_r33_0) (fun s hs => by cases hs)) _ List.mem_cons_self
theorem xz_r34_0 : xsame (xgo 227 [xz_S1 (xz_E 34)]) [] = true := by decide +kernel
theorem xz_op34 : XFin (xz_S1 (xz_E 34)) := (xgo_fin (xsame_ok xz_r34_0) (fun s hs => by cases hs)) _ List.mem_cons_self
theorem xz_r35_0 : xsame (xgo 67 [xz_S1 (xz_E 35)]) [] = true := by decide +kernel
theorem xz_op35 : XFin (xz_S1 (xz_E 35)) := (xgo_fin (xsame_ok xz_r35_0) (fun s hs => by cases hs)) _ List.mem_cons_self
theorem xz_r36_0 : xsame (xgo 200 [xz_S1 (xz_E 36)]) [] = true := by decide +kernel
theorem xz_op36 : XFin (xz_S1 (xz_E 36)) := (xgo_fin (xsame_ok xz_r36_0) (fun s hs => by cases hs)) _ List.mem_cons_self
theorem xz_r37_0 : xsame (xgo 232 [xz_S1 (xz_E 37)]) [] = true := by decide +kernel
theorem xz_op37 : XFin (xz_S1 (xz_E 37)) := (xgo_fin (xsame_ok xz_r37_0) (fun s hs => by cases hs)) _ List.mem_cons_self
theorem xz_r38_0 : xsame (xgo 176 [xz_S1 (xz_E 38)]) [] = true := by decide +kernel
theorem xz_op38 : XFin (xz_S1 (xz_E 38)) := (xgo_fin (xsame_ok xz_r38_0) (fun s hs => by cases hs)) _ List.mem_cons_self
noncomputable def xz_w39_0 : List XS := [([(374, 20, [(1, xvi 272), (0, xvr' 112)], [xvi 0, xvi 272, xvr' 174], 0, 0, 0), (379, 6, [(0, xvr' 112)], [], 0, 0, 0), (0, 2575, [(4, xvi 0), (3, xvr' 198), (2, xvr' 112), (1, xvr' 3), (0, xvr' 2)], [xvl 0], 599566, 7092079, 0)], xz_h6, [((-2147483648), 2147483647), ((-2147483648), 2147483647), ((-2147483648), 2147483647), ((-2147483648), 2147483647), ((-2147483648), 2147483647), ((-2147483648), 2147483647), (39, 39), (6, 6)])]
theorem xz_r39_0 : xsame (xgo 6000 [xz_S1 (xz_E 39)]) xz_w39_0 = true := by decide +kernel
noncomputable def xz_w39_1 : List XS := [([(374, 20, [(1, xvi 872), (0, xvr' 112)], [xvi 0, xvi 872, xvr' 174], 0, 0, 0), (379, 6, [(0, xvr' 112)], [], 0, 0, 0), (0, 2575, [(4, xvi 0), (3, xvr' 198), (2, xvr' 112), (1, xvr' 3), (0, xvr' 2)], [xvl 0], 599566, 7092079, 0)], xz_h6, [((-2147483648), 2147483647), ((-2147483648), 2147483647), ((-2147483648), 2147483647), ((-2147483648), 2147483647), ((-2147483648), 2147483647), ((-2147483648), 2147483647), (39, 39), (6, 6)])]
