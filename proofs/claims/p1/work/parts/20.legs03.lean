theorem xz_r8_0 : xsame (xgo 518 [xz_S1 (xz_E 8)]) [] = true := by decide +kernel
theorem xz_op8 : XFin (xz_S1 (xz_E 8)) := (xgo_fin (xsame_ok xz_r8_0) (fun s hs => by cases hs)) _ List.mem_cons_self
theorem xz_r9_0 : xsame (xgo 178 [xz_S1 (xz_E 9)]) [] = true := by decide +kernel
theorem xz_op9 : XFin (xz_S1 (xz_E 9)) := (xgo_fin (xsame_ok xz_r9_0) (fun s hs => by cases hs)) _ List.mem_cons_self
theorem xz_r10_0 : xsame (xgo 216 [xz_S1 (xz_E 10)]) [] = true := by decide +kernel
theorem xz_op10 : XFin (xz_S1 (xz_E 10)) := (xgo_fin (xsame_ok xz_r10_0) (fun s hs => by cases hs)) _ List.mem_cons_self
theorem xz_r11_0 : xsame (xgo 293 [xz_S1 (xz_E 11)]) [] = true := by decide +kernel
theorem xz_op11 : XFin (xz_S1 (xz_E 11)) := (xgo_fin (xsame_ok xz_r11_0) (fun s hs => by cases hs)) _ List.mem_cons_self
theorem xz_r12_0 : xsame (xgo 46 [xz_S1 (xz_E 12)]) [] = true := by decide +kernel
theorem xz_op12 : XFin (xz_S1 (xz_E 12)) := (xgo_fin (xsame_ok xz_r12_0) (fun s hs => by cases hs)) _ List.mem_cons_self
theorem xz_r13_0 : xsame (xgo 2611 [xz_S1 (xz_E 13)]) [] = true := by decide +kernel
theorem xz_op13 : XFin (xz_S1 (xz_E 13)) := (xgo_fin (xsame_ok xz_r13_0) (fun s hs => by cases hs)) _ List.mem_cons_self
theorem xz_r14_0 : xsame (xgo 346 [xz_S1 (xz_E 14)]) [] = true := by decide +kernel
theorem xz_op14 : XFin (xz_S1 (xz_E 14)) := (xgo_fin (xsame_ok xz_r14_0) (fun s hs => by cases hs)) _ List.mem_cons_self
theorem xz_r15_0 : xsame (xgo 2162 [xz_S1 (xz_E 15)]) [] = true := by decide +kernel
theorem xz_op15 : XFin (xz_S1 (xz_E 15)) := (xgo_fin (xsame_ok xz_r15_0) (fun s hs => by cases hs)) _ List.mem_cons_self
theorem xz_r16_0 : xsame (xgo 154 [xz_S1 (xz_E 16)]) [] = true := by decide +kernel
theorem xz_op16 : XFin (xz_S1 (xz_E 16)) := (xgo_fin (xsame_ok xz_r16_0) (fun s hs => by cases hs)) _ List.mem_cons_self
theorem xz_r17_0 : xsame (xgo 200 [xz_S1 (xz_E 17)]) [] = true := by decide +kernel
theorem xz_op17 : XFin (xz_S1 (xz_E 17)) := (xgo_fin (xsame_ok xz_r17_0) (fun s hs => by cases hs)) _ List.mem_cons_self
theorem xz_r18_0 : xsame (xgo 216 [xz_S1 (xz_E 18)]) [] = true := by decide +kernel
theorem xz_op18 : XFin (xz_S1 (xz_E 18)) := (xgo_fin (xsame_ok xz_r18_0) (fun s hs => by cases hs)) _ List.mem_cons_self
theorem xz_r19_0 : xsame (xgo 200 [xz_S1 (xz_E 19)]) [] = true := by decide +kernel
theorem xz_op19 : XFin (xz_S1 (xz_E 19)) := (xgo_fin (xsame_ok xz_r19_0) (fun s hs => by cases hs)) _ List.mem_cons_self
theorem xz_r20_0 : xsame (xgo 206 [xz_S1 (xz_E 20)]) [] = true := by decide +kernel
theorem xz_op20 : XFin (xz_S1 (xz_E 20)) := (xgo_fin (xsame_ok xz_r20_0) (fun s hs => by cases hs)) _ List.mem_cons_self
theorem xz_r21_0 : xsame (xgo 242 [xz_S1 (xz_E 21)]) [] = true := by decide +kernel
theorem xz_op21 : XFin (xz_S1 (xz_E 21)) := (xgo_fin (xsame_ok xz_r21_0) (fun s hs => by cases hs)) _ List.mem_cons_self
theorem xz_r22_0 : xsame (xgo 391 [xz_S1 (xz_E 22)]) [] = true := by decide +kernel
theorem xz_op22 : XFin (xz_S1 (xz_E 22)) := (xgo_fin (xsame_ok xz_r22_0) (fun s hs => by cases hs)) _ List.mem_cons_self
theorem xz_r23_0 : xsame (xgo 227 [xz_S1 (xz_E 23)]) [] = true := by decide +kernel
theorem xz_op23 : XFin (xz_S1 (xz_E 23)) := (xgo_fin (xsame_ok xz_r23_0) (fun s hs => by cases hs)) _ List.mem_cons_self
theorem xz_r24_0 : xsame (xgo 176 [xz_S1 (xz_E 24)]) [] = true := by decide +kernel
theorem xz_op24 : XFin (xz_S1 (xz_E 24)) := (xgo_fin (xsame_ok xz_r24_0) (fun s hs => by cases hs)) _ List.mem_cons_self
theorem xz_r25_0 : xsame (xgo 2770 [xz_S1 (xz_E 25)]) [] = true := by decide +kernel
theorem xz_op25 : XFin (xz_S1 (xz_E 25)) := (xgo_fin (xsame_ok xz_r25_0) (fun s hs => by cases hs)) _ List.mem_cons_self
theorem xz_r26_0 : xsame (xgo 176 [xz_S1 (xz_E 26)]) [] = true := by decide +kernel
theorem xz_op26 : XFin (xz_S1 (xz_E 26)) := (xgo_fin (xsame_ok xz_r26_0) (fun s hs => by cases hs)) _ List.mem_cons_self
theorem xz_r27_0 : xsame (xgo 6002 [xz_S1 (xz_E 27)]) [] = true := by decide +kernel
theorem xz_op27 : XFin (xz_S1 (xz_E 27)) := (xgo_fin (xsame_ok xz_r27_0) (fun s hs => by cases hs)) _ List.mem_cons_self
theorem xz_r28_0 : xsame (xgo 176 [xz_S1 (xz_E 28)]) [] = true := by decide +kernel
theorem xz_op28 : XFin (xz_S1 (xz_E 28)) := (xgo_fin (xsame_ok xz_r28_0) (fun s hs => by cases hs)) _ List.mem_cons_self
theorem xz_r29_0 : xsame (xgo 218 [xz_S1 (xz_E 29)]) [] = true := by decide +kernel
theorem xz_op29 : XFin (xz_S1 (xz_E 29)) := (xgo_fin (xsame_ok xz_r29_0) (fun s hs => by cases hs)) _ List.mem_cons_self
theorem xz_r30_0 : xsame (xgo 240 [xz_S1 (xz_E 30)]) [] = true := by decide +kernel
theorem xz_op30 : XFin (xz_S1 (xz_E 30)) := (xgo_fin (xsame_ok xz_r30_0) (fun s hs => by cases hs)) _ List.mem_cons_self
theorem xz_r31_0 : xsame (xgo 240 [xz_S1 (xz_E 31)]) [] = true := by decide +kernel
theorem xz_op31 : XFin (xz_S1 (xz_E 31)) := (xgo_fin (xsame_ok xz_r31_0) (fun s hs => by cases hs)) _ List.mem_cons_self
noncomputable def xz_w32_0 : List XS := [([(360, 21, [(1, xvi 568), (0, xvr' 112)], [], 0, 0, 0), (362, 17, [(0, xvr' 112), (1, xvs 1)], [], 0, 0, 0), (0, 2189, [(5, xvi 0), (4, xvi 0), (3, xvr' 198), (2, xvr' 112), (1, xvr' 3), (0, xvr' 2)], [], 599565, 7092073, 0)], xz_h1, [((-2147483648), 2147483647), (0, 1), ((-2147483648), 2147483647), ((-2147483648), 2147483647), ((-2147483648), 2147483647), ((-2147483648), 2147483647), (32, 32), (6, 6)]), ([(244, 32, [(0, xvr' 3), (1, xvs 1)], [], 2, 12, 0), (29, 4, [(0, xvr' 3), (1, xvs 1), (2, xvr' 198)], [xvi 0, xvr' 198], 1, 6, 0), (0, 2177, [(4, xvi 0), (3, xvr' 198), (2, xvr' 112), (1, xvr' 3), (0, xvr' 2)], [], 599565, 7092073, 1)], xz_h2, [((-2147483648), 2147483647), (0, 0), ((-2147483648), 2147483647), ((-2147483648), 2147483647), ((-2147483648), 2147483647), ((-2147483648), 2147483647), (32, 32), (6, 6)])]
