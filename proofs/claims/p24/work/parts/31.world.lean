/-! THE WORLD after the constructors: 196 cells that stay; what they hold, as functions. 0 int, 1 long, 2 char, 3 boolean arrays; 4 + ci: an object of class ci. -/
def wk (q : Nat) : Nat := cond (Nat.blt q 97) (cond (Nat.blt q 55) (cond (Nat.blt q 32) (cond (Nat.blt q 16) (cond (Nat.blt q 2) (cond (Nat.blt q 1) (15) (9)) (cond (Nat.blt q 3) (7) (0))) (cond (Nat.blt q 30) (cond (Nat.blt q 17) (7) (0)) (cond (Nat.blt q 31) (1000) (0)))) (cond (Nat.blt q 49) (cond (Nat.blt q 46) (cond (Nat.blt q 33) (7) (0)) (cond (Nat.blt q 47) (12) (2))) (cond (Nat.blt q 51) (cond (Nat.blt q 50) (14) (1)) (cond (Nat.blt q 53) (0) (cond (Nat.blt q 54) (1) (0)))))) (cond (Nat.blt q 77) (cond (Nat.blt q 61) (cond (Nat.blt q 57) (cond (Nat.blt q 56) (1) (10)) (cond (Nat.blt q 60) (0) (4))) (cond (Nat.blt q 66) (cond (Nat.blt q 65) (0) (6)) (cond (Nat.blt q 75) (0) (cond (Nat.blt q 76) (1) (13))))) (cond (Nat.blt q 86) (cond (Nat.blt q 81) (cond (Nat.blt q 79) (0) (1)) (cond (Nat.blt q 85) (0) (1))) (cond (Nat.blt q 89) (cond (Nat.blt q 87) (8) (1)) (cond (Nat.blt q 94) (0) (cond (Nat.blt q 95) (11) (1))))))) (cond (Nat.blt q 153) (cond (Nat.blt q 130) (cond (Nat.blt q 105) (cond (Nat.blt q 102) (cond (Nat.blt q 98) (0) (1)) (cond (Nat.blt q 103) (5) (0))) (cond (Nat.blt q 110) (cond (Nat.blt q 109) (1) (16)) (cond (Nat.blt q 112) (0) (cond (Nat.blt q 113) (3) (0))))) (cond (Nat.blt q 147) (cond (Nat.blt q 135) (cond (Nat.blt q 131) (1) (0)) (cond (Nat.blt q 136) (1) (0))) (cond (Nat.blt q 149) (cond (Nat.blt q 148) (1) (0)) (cond (Nat.blt q 151) (1) (cond (Nat.blt q 152) (0) (1)))))) (cond (Nat.blt q 173) (cond (Nat.blt q 164) (cond (Nat.blt q 157) (cond (Nat.blt q 155) (0) (1)) (cond (Nat.blt q 161) (0) (1))) (cond (Nat.blt q 167) (cond (Nat.blt q 166) (0) (1)) (cond (Nat.blt q 168) (0) (cond (Nat.blt q 169) (1) (0))))) (cond (Nat.blt q 178) (cond (Nat.blt q 175) (cond (Nat.blt q 174) (1) (0)) (cond (Nat.blt q 176) (1) (3))) (cond (Nat.blt q 181) (cond (Nat.blt q 180) (1) (3)) (cond (Nat.blt q 183) (1) (cond (Nat.blt q 191) (0) (1)))))))
def wn (q : Nat) : Nat := cond (Nat.blt q 87) (cond (Nat.blt q 42) (cond (Nat.blt q 18) (cond (Nat.blt q 12) (cond (Nat.blt q 3) (cond (Nat.blt q 1) (12) (cond (Nat.blt q 2) (4) (18))) (cond (Nat.blt q 4) (32) (cond (Nat.blt q 9) (160) (32)))) (cond (Nat.blt q 15) (cond (Nat.blt q 13) (33) (cond (Nat.blt q 14) (160) (33))) (cond (Nat.blt q 16) (160) (cond (Nat.blt q 17) (18) (32))))) (cond (Nat.blt q 30) (cond (Nat.blt q 27) (cond (Nat.blt q 23) (160) (cond (Nat.blt q 26) (32) (33))) (cond (Nat.blt q 28) (160) (cond (Nat.blt q 29) (33) (160)))) (cond (Nat.blt q 33) (cond (Nat.blt q 31) (448) (cond (Nat.blt q 32) (5) (18))) (cond (Nat.blt q 34) (32) (cond (Nat.blt q 39) (160) (32)))))) (cond (Nat.blt q 60) (cond (Nat.blt q 48) (cond (Nat.blt q 45) (cond (Nat.blt q 43) (33) (cond (Nat.blt q 44) (160) (33))) (cond (Nat.blt q 46) (160) (cond (Nat.blt q 47) (10) (1000)))) (cond (Nat.blt q 55) (cond (Nat.blt q 49) (4608) (cond (Nat.blt q 50) (13) (32))) (cond (Nat.blt q 56) (2001) (cond (Nat.blt q 57) (6) (32))))) (cond (Nat.blt q 74) (cond (Nat.blt q 66) (cond (Nat.blt q 61) (9) (cond (Nat.blt q 65) (32) (19))) (cond (Nat.blt q 67) (1024) (cond (Nat.blt q 69) (32) (160)))) (cond (Nat.blt q 80) (cond (Nat.blt q 76) (32) (cond (Nat.blt q 77) (12) (160))) (cond (Nat.blt q 85) (32) (cond (Nat.blt q 86) (1024) (11))))))) (cond (Nat.blt q 138) (cond (Nat.blt q 111) (cond (Nat.blt q 102) (cond (Nat.blt q 96) (cond (Nat.blt q 94) (32) (cond (Nat.blt q 95) (9) (61))) (cond (Nat.blt q 97) (26) (cond (Nat.blt q 99) (11) (32)))) (cond (Nat.blt q 107) (cond (Nat.blt q 103) (13) (cond (Nat.blt q 106) (120) (9))) (cond (Nat.blt q 109) (32) (cond (Nat.blt q 110) (122) (3))))) (cond (Nat.blt q 128) (cond (Nat.blt q 125) (cond (Nat.blt q 112) (96) (cond (Nat.blt q 118) (480) (4000))) (cond (Nat.blt q 126) (1000) (cond (Nat.blt q 127) (8000) (500)))) (cond (Nat.blt q 133) (cond (Nat.blt q 129) (2500) (cond (Nat.blt q 132) (32) (4000))) (cond (Nat.blt q 134) (32) (cond (Nat.blt q 135) (10005) (2001)))))) (cond (Nat.blt q 171) (cond (Nat.blt q 150) (cond (Nat.blt q 144) (cond (Nat.blt q 139) (32) (cond (Nat.blt q 141) (33) (32))) (cond (Nat.blt q 147) (33) (cond (Nat.blt q 148) (160) (34)))) (cond (Nat.blt q 156) (cond (Nat.blt q 152) (32) (cond (Nat.blt q 153) (1024) (160))) (cond (Nat.blt q 161) (32) (cond (Nat.blt q 162) (1024) (32))))) (cond (Nat.blt q 187) (cond (Nat.blt q 183) (cond (Nat.blt q 172) (1024) (cond (Nat.blt q 176) (60) (12))) (cond (Nat.blt q 184) (2000) (cond (Nat.blt q 186) (400) (3)))) (cond (Nat.blt q 191) (cond (Nat.blt q 189) (400) (cond (Nat.blt q 190) (3) (200))) (cond (Nat.blt q 194) (cond (Nat.blt q 193) (32) (200)) (cond (Nat.blt q 195) (9) (1)))))))
def wr_0 (j : Nat) : Nat := cond (Nat.blt j 6) (cond (Nat.blt j 3) (cond (Nat.blt j 1) (1) (cond (Nat.blt j 2) (32) (0))) (cond (Nat.blt j 4) (46) (cond (Nat.blt j 5) (49) (56)))) (cond (Nat.blt j 9) (cond (Nat.blt j 7) (60) (cond (Nat.blt j 8) (65) (76))) (cond (Nat.blt j 10) (86) (cond (Nat.blt j 11) (94) (102))))
def wr_1 (j : Nat) : Nat := cond (Nat.blt j 2) (cond (Nat.blt j 1) (2) (16)) (cond (Nat.blt j 3) (30) (31))
def wr_2 (j : Nat) : Nat := cond (Nat.blt j 11) (cond (Nat.blt j 7) (cond (Nat.blt j 5) (0) (cond (Nat.blt j 6) (3) (4))) (cond (Nat.blt j 9) (cond (Nat.blt j 8) (5) (6)) (cond (Nat.blt j 10) (7) (8)))) (cond (Nat.blt j 14) (cond (Nat.blt j 12) (9) (cond (Nat.blt j 13) (10) (11))) (cond (Nat.blt j 16) (cond (Nat.blt j 15) (12) (13)) (cond (Nat.blt j 17) (14) (15))))
def wr_16 (j : Nat) : Nat := cond (Nat.blt j 11) (cond (Nat.blt j 7) (cond (Nat.blt j 5) (0) (cond (Nat.blt j 6) (17) (18))) (cond (Nat.blt j 9) (cond (Nat.blt j 8) (19) (20)) (cond (Nat.blt j 10) (21) (22)))) (cond (Nat.blt j 14) (cond (Nat.blt j 12) (23) (cond (Nat.blt j 13) (24) (25))) (cond (Nat.blt j 16) (cond (Nat.blt j 15) (26) (27)) (cond (Nat.blt j 17) (28) (29))))
def wr_32 (j : Nat) : Nat := cond (Nat.blt j 11) (cond (Nat.blt j 7) (cond (Nat.blt j 5) (0) (cond (Nat.blt j 6) (33) (34))) (cond (Nat.blt j 9) (cond (Nat.blt j 8) (35) (36)) (cond (Nat.blt j 10) (37) (38)))) (cond (Nat.blt j 14) (cond (Nat.blt j 12) (39) (cond (Nat.blt j 13) (40) (41))) (cond (Nat.blt j 16) (cond (Nat.blt j 15) (42) (43)) (cond (Nat.blt j 17) (44) (45))))
def wr_46 (j : Nat) : Nat := cond (Nat.blt j 8) (cond (Nat.blt j 1) (47) (0)) (cond (Nat.blt j 9) (48) (0))
def wr_49 (j : Nat) : Nat := cond (Nat.blt j 6) (cond (Nat.blt j 4) (cond (Nat.blt j 3) (0) (50)) (cond (Nat.blt j 5) (51) (52))) (cond (Nat.blt j 8) (cond (Nat.blt j 7) (53) (54)) (cond (Nat.blt j 12) (0) (55)))
def wr_56 (j : Nat) : Nat := cond (Nat.blt j 3) (cond (Nat.blt j 2) (0) (57)) (cond (Nat.blt j 4) (0) (cond (Nat.blt j 5) (58) (59)))
def wr_60 (j : Nat) : Nat := cond (Nat.blt j 6) (cond (Nat.blt j 4) (0) (cond (Nat.blt j 5) (61) (62))) (cond (Nat.blt j 7) (63) (cond (Nat.blt j 8) (0) (64)))
def wr_65 (j : Nat) : Nat := cond (Nat.blt j 10) (cond (Nat.blt j 7) (cond (Nat.blt j 5) (0) (cond (Nat.blt j 6) (66) (67))) (cond (Nat.blt j 8) (68) (cond (Nat.blt j 9) (0) (69)))) (cond (Nat.blt j 13) (cond (Nat.blt j 11) (70) (cond (Nat.blt j 12) (71) (72))) (cond (Nat.blt j 15) (cond (Nat.blt j 14) (73) (74)) (cond (Nat.blt j 16) (75) (0))))
def wr_76 (j : Nat) : Nat := cond (Nat.blt j 5) (cond (Nat.blt j 2) (cond (Nat.blt j 1) (0) (77)) (cond (Nat.blt j 3) (78) (cond (Nat.blt j 4) (79) (80)))) (cond (Nat.blt j 8) (cond (Nat.blt j 6) (81) (cond (Nat.blt j 7) (82) (83))) (cond (Nat.blt j 9) (84) (cond (Nat.blt j 11) (0) (85))))
def wr_86 (j : Nat) : Nat := cond (Nat.blt j 6) (cond (Nat.blt j 3) (cond (Nat.blt j 2) (0) (87)) (cond (Nat.blt j 4) (88) (0))) (cond (Nat.blt j 8) (cond (Nat.blt j 7) (89) (90)) (cond (Nat.blt j 9) (91) (cond (Nat.blt j 10) (92) (93))))
def wr_94 (j : Nat) : Nat := cond (Nat.blt j 5) (cond (Nat.blt j 3) (cond (Nat.blt j 2) (0) (95)) (cond (Nat.blt j 4) (96) (97))) (cond (Nat.blt j 7) (cond (Nat.blt j 6) (98) (99)) (cond (Nat.blt j 8) (100) (101)))
def wr_102 (j : Nat) : Nat := cond (Nat.blt j 5) (cond (Nat.blt j 3) (cond (Nat.blt j 1) (103) (0)) (cond (Nat.blt j 4) (104) (0))) (cond (Nat.blt j 7) (cond (Nat.blt j 6) (105) (106)) (cond (Nat.blt j 8) (107) (cond (Nat.blt j 9) (108) (0))))
def wr_109 (j : Nat) : Nat := cond (Nat.blt j 60) (cond (Nat.blt j 35) (cond (Nat.blt j 12) (cond (Nat.blt j 6) (cond (Nat.blt j 3) (cond (Nat.blt j 1) (0) (cond (Nat.blt j 2) (110) (111))) (cond (Nat.blt j 4) (112) (cond (Nat.blt j 5) (113) (114)))) (cond (Nat.blt j 9) (cond (Nat.blt j 7) (115) (cond (Nat.blt j 8) (116) (117))) (cond (Nat.blt j 10) (0) (cond (Nat.blt j 11) (118) (119))))) (cond (Nat.blt j 21) (cond (Nat.blt j 15) (cond (Nat.blt j 13) (120) (cond (Nat.blt j 14) (121) (122))) (cond (Nat.blt j 16) (123) (cond (Nat.blt j 17) (124) (0)))) (cond (Nat.blt j 26) (cond (Nat.blt j 22) (125) (cond (Nat.blt j 25) (0) (126))) (cond (Nat.blt j 33) (0) (cond (Nat.blt j 34) (127) (128)))))) (cond (Nat.blt j 47) (cond (Nat.blt j 41) (cond (Nat.blt j 38) (cond (Nat.blt j 36) (129) (cond (Nat.blt j 37) (130) (131))) (cond (Nat.blt j 39) (132) (cond (Nat.blt j 40) (133) (0)))) (cond (Nat.blt j 44) (cond (Nat.blt j 42) (134) (cond (Nat.blt j 43) (135) (136))) (cond (Nat.blt j 45) (137) (cond (Nat.blt j 46) (138) (139))))) (cond (Nat.blt j 53) (cond (Nat.blt j 50) (cond (Nat.blt j 48) (140) (cond (Nat.blt j 49) (141) (142))) (cond (Nat.blt j 51) (143) (cond (Nat.blt j 52) (144) (145)))) (cond (Nat.blt j 56) (cond (Nat.blt j 54) (0) (cond (Nat.blt j 55) (146) (147))) (cond (Nat.blt j 58) (cond (Nat.blt j 57) (148) (149)) (cond (Nat.blt j 59) (150) (151))))))) (cond (Nat.blt j 88) (cond (Nat.blt j 72) (cond (Nat.blt j 66) (cond (Nat.blt j 63) (cond (Nat.blt j 61) (152) (cond (Nat.blt j 62) (153) (154))) (cond (Nat.blt j 64) (155) (cond (Nat.blt j 65) (156) (157)))) (cond (Nat.blt j 69) (cond (Nat.blt j 67) (158) (cond (Nat.blt j 68) (159) (160))) (cond (Nat.blt j 70) (161) (cond (Nat.blt j 71) (162) (163))))) (cond (Nat.blt j 78) (cond (Nat.blt j 75) (cond (Nat.blt j 73) (164) (cond (Nat.blt j 74) (165) (166))) (cond (Nat.blt j 76) (167) (cond (Nat.blt j 77) (168) (169)))) (cond (Nat.blt j 82) (cond (Nat.blt j 79) (170) (cond (Nat.blt j 80) (171) (0))) (cond (Nat.blt j 84) (cond (Nat.blt j 83) (172) (173)) (cond (Nat.blt j 87) (0) (174)))))) (cond (Nat.blt j 105) (cond (Nat.blt j 94) (cond (Nat.blt j 91) (cond (Nat.blt j 89) (175) (cond (Nat.blt j 90) (176) (177))) (cond (Nat.blt j 92) (178) (cond (Nat.blt j 93) (179) (180)))) (cond (Nat.blt j 102) (cond (Nat.blt j 95) (181) (cond (Nat.blt j 96) (182) (0))) (cond (Nat.blt j 103) (183) (cond (Nat.blt j 104) (184) (185))))) (cond (Nat.blt j 111) (cond (Nat.blt j 108) (cond (Nat.blt j 106) (186) (cond (Nat.blt j 107) (187) (188))) (cond (Nat.blt j 109) (189) (cond (Nat.blt j 110) (0) (190)))) (cond (Nat.blt j 116) (cond (Nat.blt j 114) (0) (cond (Nat.blt j 115) (191) (192))) (cond (Nat.blt j 120) (cond (Nat.blt j 119) (0) (193)) (cond (Nat.blt j 121) (194) (0)))))))
def wr (q j : Nat) : Nat := cond (Nat.blt q 60) (cond (Nat.blt q 33) (cond (Nat.blt q 3) (cond (Nat.blt q 1) (wr_0 j) (cond (Nat.blt q 2) (wr_1 j) (wr_2 j))) (cond (Nat.blt q 17) (cond (Nat.blt q 16) (0) (wr_16 j)) (cond (Nat.blt q 32) (0) (wr_32 j)))) (cond (Nat.blt q 49) (cond (Nat.blt q 46) (0) (cond (Nat.blt q 47) (wr_46 j) (0))) (cond (Nat.blt q 56) (cond (Nat.blt q 50) (wr_49 j) (0)) (cond (Nat.blt q 57) (wr_56 j) (0))))) (cond (Nat.blt q 87) (cond (Nat.blt q 66) (cond (Nat.blt q 61) (wr_60 j) (cond (Nat.blt q 65) (0) (wr_65 j))) (cond (Nat.blt q 77) (cond (Nat.blt q 76) (0) (wr_76 j)) (cond (Nat.blt q 86) (0) (wr_86 j)))) (cond (Nat.blt q 102) (cond (Nat.blt q 94) (0) (cond (Nat.blt q 95) (wr_94 j) (0))) (cond (Nat.blt q 109) (cond (Nat.blt q 103) (wr_102 j) (0)) (cond (Nat.blt q 110) (wr_109 j) (0)))))
noncomputable def wty (ci j : Nat) : Nat := (((xt ci)[j]?).getD (0, 0)).1
/-- arrays of ints, of longs; int fields, long fields (the fifth is of no use). Cell 30 is the ledger's log: its length is the 'field' (30, 0). -/
abbrev GS : Type := (Nat → Nat → Int32) × (Nat → Nat → Int64) × (Nat → Nat → Int32) × (Nat → Nat → Int64) × (Nat → Nat → Nat)
noncomputable def wv (A : Nat → Nat) (s : GS) (q ci j : Nat) : Value := match wty ci j with
  | 1 => .long (s.2.2.2.1 q j)
  | 3 => .ref (A (wr q j))
  | _ => .int (s.2.2.1 q j)
noncomputable def wc (Z : AmZ) (A : Nat → Nat) (s : GS) (q : Nat) : va_E := match wk q with
  | 0 => .inl (Z.1, wn q, .inl (s.1 q))
  | 1 => .inl (Z.2.1, wn q, .inr (.inl (s.2.1 q)))
  | 2 => .inl (Z.2.2.1, wn q, .inl (s.1 q))
  | 3 => .inl (Z.2.2.2.1, wn q, .inl (s.1 q))
  | k + 4 => cond (Nat.beq k 996) (.inl (Z.1, (s.2.2.1 q 0).toNatClampNeg, .inl (s.1 q))) (.inr (k, (List.range (wn q)).map (wv A s q k)))
noncomputable def WW (Z : AmZ) (A : Nat → Nat) (s : GS) : va_W := (List.range 196).map (fun q => (A q, wc Z A s q))
def sI (s : GS) (q j : Nat) (x : Int32) : GS := (fun p => if p = q then upd (s.1 q) j x else s.1 p, s.2)
def sL (s : GS) (q j : Nat) (x : Int64) : GS := (s.1, fun p => if p = q then vp_updL (s.2.1 q) j x else s.2.1 p, s.2.2)
def sF (s : GS) (q j : Nat) (x : Int32) : GS := (s.1, s.2.1, fun p i => if p = q ∧ i = j then x else s.2.2.1 p i, s.2.2.2)
def sG (s : GS) (q j : Nat) (x : Int64) : GS := (s.1, s.2.1, s.2.2.1, fun p i => if p = q ∧ i = j then x else s.2.2.2.1 p i, s.2.2.2.2)
section GW
variable {Z : AmZ} {A : Nat → Nat} {s s' : GS} {ex : va_W} {q j : Nat}
theorem ww_len : (WW Z A s).length = 196 := by unfold WW; rw [List.length_map, List.length_range]
theorem ww_get (hq : q < 196) : (WW Z A s ++ ex)[q]? = some (A q, wc Z A s q) := by
  rw [List.getElem?_append_left (by rw [ww_len]; exact hq)]
  unfold WW
  rw [List.getElem?_map, List.getElem?_range hq]
  rfl
theorem ww_set (hq : q < 196) {e : va_E} (h1 : wc Z A s' q = e) (h2 : ∀ p, p ≠ q → wc Z A s' p = wc Z A s p) : (WW Z A s ++ ex).set q (A q, e) = WW Z A s' ++ ex := by
  rw [List.set_append_left _ _ (by rw [ww_len]; exact hq)]
  congr 1
  apply List.ext_getElem?
  intro i
  rw [List.getElem?_set]
  by_cases hi : i < 196
  · have e1 : ∀ t : GS, (WW Z A t)[i]? = some (A i, wc Z A t i) := fun t => by unfold WW; rw [List.getElem?_map, List.getElem?_range hi]; rfl
    by_cases h : q = i
    · subst h
      rw [if_pos rfl, if_pos (by rw [ww_len]; exact hq), e1, h1]
    · rw [if_neg h, e1, e1, h2 i (fun z => h z.symm)]
  · have e1 : ∀ t : GS, (WW Z A t)[i]? = none := fun t => List.getElem?_eq_none (by rw [ww_len]; omega)
    rw [if_neg (by omega), e1, e1]
theorem wc_eq {p : Nat} (a : s'.1 p = s.1 p) (b : s'.2.1 p = s.2.1 p) (c : s'.2.2.1 p = s.2.2.1 p) (e : s'.2.2.2.1 p = s.2.2.2.1 p) (g : s'.2.2.2.2 p = s.2.2.2.2 p) : wc Z A s' p = wc Z A s p := by
  have hw : ∀ k, wv A s' p k = wv A s p k := fun k => by
    funext i
    simp only [wv, c, e, g]
  simp only [wc, a, b, c, hw]
theorem wc_o {ci : Nat} (hk : wk q = ci + 4) (hc : Nat.beq ci 996 = false) : wc Z A s q = .inr (ci, (List.range (wn q)).map (wv A s q ci)) := by
  unfold wc
  rw [hk]
  show cond (Nat.beq ci 996) _ _ = _
  rw [hc]
  rfl
theorem wc_lg : wc Z A s 30 = .inl (Z.1, (s.2.2.1 30 0).toNatClampNeg, .inl (s.1 30)) := rfl
theorem ws_I0 (hq : q < 196) (hk : wk q = 0) (x : Int32) : (WW Z A s ++ ex).set q (A q, .inl (Z.1, wn q, .inl (upd (s.1 q) j x))) = WW Z A (sI s q j x) ++ ex :=
  ww_set hq (by unfold wc; rw [hk]; simp [sI]) (fun p hp => wc_eq (by simp [sI, hp]) rfl rfl rfl rfl)
theorem ws_I2 (hq : q < 196) (hk : wk q = 2) (x : Int32) : (WW Z A s ++ ex).set q (A q, .inl (Z.2.2.1, wn q, .inl (upd (s.1 q) j x))) = WW Z A (sI s q j x) ++ ex :=
  ww_set hq (by unfold wc; rw [hk]; simp [sI]) (fun p hp => wc_eq (by simp [sI, hp]) rfl rfl rfl rfl)
theorem ws_I3 (hq : q < 196) (hk : wk q = 3) (x : Int32) : (WW Z A s ++ ex).set q (A q, .inl (Z.2.2.2.1, wn q, .inl (upd (s.1 q) j x))) = WW Z A (sI s q j x) ++ ex :=
  ww_set hq (by unfold wc; rw [hk]; simp [sI]) (fun p hp => wc_eq (by simp [sI, hp]) rfl rfl rfl rfl)
theorem ws_L (hq : q < 196) (hk : wk q = 1) (x : Int64) : (WW Z A s ++ ex).set q (A q, .inl (Z.2.1, wn q, .inr (.inl (vp_updL (s.2.1 q) j x)))) = WW Z A (sL s q j x) ++ ex :=
  ww_set hq (by unfold wc; rw [hk]; simp [sL]) (fun p hp => wc_eq rfl (by simp [sL, hp]) rfl rfl rfl)
theorem map_set {α : Type} (n k : Nat) (g g' : Nat → α) (h : ∀ i, i ≠ k → g' i = g i) : ((List.range n).map g).set k (g' k) = (List.range n).map g' := by
  apply List.ext_getElem?
  intro i
  rw [List.getElem?_set, List.getElem?_map, List.getElem?_map, List.length_map, List.length_range]
  by_cases hi : i < n
  · rw [List.getElem?_range hi]
    by_cases e : k = i
    · subst e; rw [if_pos rfl, if_pos hi]; rfl
    · rw [if_neg e]; show some (g i) = some (g' i); rw [h i (fun z => e z.symm)]
  · rw [List.getElem?_eq_none (by rw [List.length_range]; omega)]
    by_cases e : k = i
    · rw [if_pos e, if_neg (by omega)]; rfl
    · rw [if_neg e]; rfl
theorem ws_F {ci : Nat} (hq : q < 196) (hk : wk q = ci + 4) (hc : Nat.beq ci 996 = false) (ht : wty ci j ≠ 1 ∧ wty ci j ≠ 3) (x : Int32) : (WW Z A s ++ ex).set q (A q, .inr (ci, ((List.range (wn q)).map (wv A s q ci)).set j (.int x))) = WW Z A (sF s q j x) ++ ex := by
  refine ww_set hq ?_ (fun p hp => wc_eq rfl rfl (by funext i; simp [sF, hp]) rfl rfl)
  have e1 : wc Z A (sF s q j x) q = .inr (ci, (List.range (wn q)).map (wv A (sF s q j x) q ci)) := wc_o hk hc
  rw [e1, ← map_set (wn q) j (wv A s q ci) (wv A (sF s q j x) q ci) (fun i hi => by unfold wv; simp [sF, hi])]
  congr 2
  have e2 : wv A (sF s q j x) q ci j = .int x := by
    unfold wv
    split
    · exact absurd ‹_› ht.1
    · exact absurd ‹_› ht.2
    · simp [sF]
  rw [e2]
theorem ws_G {ci : Nat} (hq : q < 196) (hk : wk q = ci + 4) (hc : Nat.beq ci 996 = false) (ht : wty ci j = 1) (x : Int64) : (WW Z A s ++ ex).set q (A q, .inr (ci, ((List.range (wn q)).map (wv A s q ci)).set j (.long x))) = WW Z A (sG s q j x) ++ ex := by
  refine ww_set hq ?_ (fun p hp => wc_eq rfl rfl rfl (by funext i; simp [sG, hp]) rfl)
  have e1 : wc Z A (sG s q j x) q = .inr (ci, (List.range (wn q)).map (wv A (sG s q j x) q ci)) := wc_o hk hc
  rw [e1, ← map_set (wn q) j (wv A s q ci) (wv A (sG s q j x) q ci) (fun i hi => by unfold wv; simp [sG, hi])]
  congr 2
  have e2 : wv A (sG s q j x) q ci j = .long x := by
    unfold wv
    rw [ht]
    simp [sG]
  rw [e2]
theorem ww_fld {ci : Nat} (hj : j < wn q) : ((List.range (wn q)).map (wv A s q ci))[j]? = some (wv A s q ci j) := by rw [List.getElem?_map, List.getElem?_range hj]; rfl
theorem wc_0 (hk : wk q = 0) : wc Z A s q = .inl (Z.1, wn q, .inl (s.1 q)) := by unfold wc; rw [hk]
theorem wc_1 (hk : wk q = 1) : wc Z A s q = .inl (Z.2.1, wn q, .inr (.inl (s.2.1 q))) := by unfold wc; rw [hk]
theorem wc_2 (hk : wk q = 2) : wc Z A s q = .inl (Z.2.2.1, wn q, .inl (s.1 q)) := by unfold wc; rw [hk]
theorem wc_3 (hk : wk q = 3) : wc Z A s q = .inl (Z.2.2.2.1, wn q, .inl (s.1 q)) := by unfold wc; rw [hk]
variable {d m N pc : Nat} {ret : AmR} {xp : GX} {f : Nat → Option Value} {r : List Value} {C S : Nat}
theorem blt_996 {ci : Nat} (h : Nat.blt ci 13 = true) : Nat.beq ci 996 = false := by
  have h1 : ci < 13 := Nat.le_of_ble_eq_true h
  cases e : Nat.beq ci 996 with
  | false => rfl
  | true => have := Nat.eq_of_beq_eq_true e; omega
theorem ww_o {ci : Nat} (h : (Nat.blt q 196 && Nat.beq (wk q) (ci + 4) && Nat.blt ci 13) = true) : (WW Z A s ++ ex)[q]? = some (A q, .inr (ci, (List.range (wn q)).map (wv A s q ci))) := by
  simp only [Bool.and_eq_true] at h
  rw [ww_get (Nat.le_of_ble_eq_true h.1.1), wc_o (Nat.eq_of_beq_eq_true h.1.2) (blt_996 h.2)]
/-- one test for a field: cell q of the class, place k within, its type -/
noncomputable def wok (q ci k t : Nat) : Bool := Nat.blt q 196 && Nat.beq (wk q) (ci + 4) && Nat.blt k (wn q) && Nat.beq (wty ci k) t && Nat.blt ci 13
theorem wok_w {ci k t : Nat} (h : wok q ci k t = true) : q < 196 ∧ wk q = ci + 4 ∧ k < wn q ∧ wty ci k = t := by
  unfold wok at h
  simp only [Bool.and_eq_true] at h
  exact ⟨Nat.le_of_ble_eq_true h.1.1.1.1, Nat.eq_of_beq_eq_true h.1.1.1.2, Nat.le_of_ble_eq_true h.1.1.2, Nat.eq_of_beq_eq_true h.1.2⟩
theorem wok_c {ci k t : Nat} (h : wok q ci k t = true) : Nat.beq ci 996 = false := by
  unfold wok at h
  simp only [Bool.and_eq_true] at h
  exact blt_996 h.2
theorem g_getfield {i k ci p0 t : Nat} {v : Value} (p : Nat) (hd : GD m pc (.getfield i) 3) (hp : pc + 3 = p) (hf : xfD (xo m) i = some (ci, k, p0)) (hw : wok q ci k t = true) (hv : wv A s q ci k = v) (h : GG Z d m ret xp N p f (v :: r) (WW Z A s ++ ex) C S) : GG Z d m ret xp (N + 1) pc f (.ref (A q) :: r) (WW Z A s ++ ex) C S := by
  obtain ⟨w1, w2, w3, -⟩ := wok_w hw
  obtain ⟨Cn, T, NF, c1, c2, c3⟩ := xf_w hd.1 hf
  refine g_st fun lv hl n hn => ?_
  unfold am_stp
  rw [hd.2]
  subst hp
  exact Or.inl ⟨A q, r, q, ci, _, Cn, T, NF, k, v, rfl, by rw [ww_get w1, wc_o w2 (wok_c hw)], c1, c2, c3, by rw [ww_fld w3, hv], h lv hl n hn⟩
theorem g_getI {i k ci p0 : Nat} (p : Nat) (hd : GD m pc (.getfield i) 3) (hp : pc + 3 = p) (hf : xfD (xo m) i = some (ci, k, p0)) (hw : wok q ci k 0 = true) (h : ∀ z, z = s.2.2.1 q k → GG Z d m ret xp N p f (.int z :: r) (WW Z A s ++ ex) C S) : GG Z d m ret xp (N + 1) pc f (.ref (A q) :: r) (WW Z A s ++ ex) C S :=
  g_getfield p hd hp hf hw (by unfold wv; rw [(wok_w hw).2.2.2]; rfl) (h _ rfl)
theorem g_getZ {i k ci p0 : Nat} (p : Nat) (hd : GD m pc (.getfield i) 3) (hp : pc + 3 = p) (hf : xfD (xo m) i = some (ci, k, p0)) (hw : wok q ci k 2 = true) (h : ∀ z, z = s.2.2.1 q k → GG Z d m ret xp N p f (.int z :: r) (WW Z A s ++ ex) C S) : GG Z d m ret xp (N + 1) pc f (.ref (A q) :: r) (WW Z A s ++ ex) C S :=
  g_getfield p hd hp hf hw (by unfold wv; rw [(wok_w hw).2.2.2]; rfl) (h _ rfl)
theorem g_getL {i k ci p0 : Nat} (p : Nat) (hd : GD m pc (.getfield i) 3) (hp : pc + 3 = p) (hf : xfD (xo m) i = some (ci, k, p0)) (hw : wok q ci k 1 = true) (h : ∀ z, z = s.2.2.2.1 q k → GG Z d m ret xp N p f (.long z :: r) (WW Z A s ++ ex) C S) : GG Z d m ret xp (N + 1) pc f (.ref (A q) :: r) (WW Z A s ++ ex) C S :=
  g_getfield p hd hp hf hw (by unfold wv; rw [(wok_w hw).2.2.2]; rfl) (h _ rfl)
theorem g_getA {i k ci p0 q2 : Nat} (p : Nat) (hd : GD m pc (.getfield i) 3) (hp : pc + 3 = p) (hf : xfD (xo m) i = some (ci, k, p0)) (hw : wok q ci k 3 = true) (hr : wr q k = q2) (h : GG Z d m ret xp N p f (.ref (A q2) :: r) (WW Z A s ++ ex) C S) : GG Z d m ret xp (N + 1) pc f (.ref (A q) :: r) (WW Z A s ++ ex) C S :=
  g_getfield p hd hp hf hw (by unfold wv; rw [(wok_w hw).2.2.2, hr]; rfl) h
theorem g_getB {i k ci p0 q2 q3 : Nat} (p : Nat) (hd : GD m pc (.getfield i) 3) (hp : pc + 3 = p) (hf : xfD (xo m) i = some (ci, k, p0)) (hw : wok q ci k 3 = true) (hr : wr q k = q2) (hA : A q2 = A q3) (h : GG Z d m ret xp N p f (.ref (A q3) :: r) (WW Z A s ++ ex) C S) : GG Z d m ret xp (N + 1) pc f (.ref (A q) :: r) (WW Z A s ++ ex) C S :=
  g_getA p hd hp hf hw hr (by rw [hA]; exact h)
theorem g_putfield {i k ci p0 t fin : Nat} {v : Value} (p : Nat) (hd : GD m pc (.putfield i) 3) (hp : pc + 3 = p) (hf : xfD (xo m) i = some (ci, k, p0)) (hw : wok q ci k t = true) (ht : (xt ci)[k]? = some (t, fin)) (hfin : Nat.beq fin 1 = false) (hx : ∃ (σ : Nat → Int32) (x : XV), xvr σ 0 [] v x ∧ xfit t x = true) (hs : (WW Z A s ++ ex).set q (A q, .inr (ci, ((List.range (wn q)).map (wv A s q ci)).set k v)) = WW Z A s' ++ ex) (h : GG Z d m ret xp N p f r (WW Z A s' ++ ex) C S) : GG Z d m ret xp (N + 1) pc f (v :: .ref (A q) :: r) (WW Z A s ++ ex) C S := by
  obtain ⟨w1, w2, w3, -⟩ := wok_w hw
  obtain ⟨Cn, T, NF, c1, c2, c3⟩ := xf_w hd.1 hf
  obtain ⟨σ, x, hx1, hx2⟩ := hx
  obtain ⟨n1, n2, n3⟩ := xt_w c1 ht hx1 hx2
  refine g_st fun lv hl n hn => ?_
  unfold am_stp
  rw [hd.2]
  subst hp
  refine ⟨A q, r, q, ci, _, Cn, T, NF, k, v, rfl, by rw [ww_get w1, wc_o w2 (wok_c hw)], c1, c2, c3, by rw [List.length_map, List.length_range]; exact w3, n1, n2, fun z => ?_, by rw [hs]; exact h lv hl n hn⟩
  rw [n3] at z
  rw [of_decide_eq_true z] at hfin
  cases hfin
theorem g_putI {i k ci p0 : Nat} {x : Int32} (p : Nat) (hd : GD m pc (.putfield i) 3) (hp : pc + 3 = p) (hf : xfD (xo m) i = some (ci, k, p0)) (hw : wok q ci k 0 = true) (ht : (xt ci)[k]? = some (0, 0)) (h : GG Z d m ret xp N p f r (WW Z A (sF s q k x) ++ ex) C S) : GG Z d m ret xp (N + 1) pc f (.int x :: .ref (A q) :: r) (WW Z A s ++ ex) C S :=
  g_putfield p hd hp hf hw ht rfl ⟨fun _ => 0, .inl (.inl x), ⟨x, rfl, rfl⟩, rfl⟩ (ws_F (wok_w hw).1 (wok_w hw).2.1 (wok_c hw) (by rw [(wok_w hw).2.2.2]; decide) x) h
theorem g_putZ {i k ci p0 : Nat} {x : Int32} (p : Nat) (hd : GD m pc (.putfield i) 3) (hp : pc + 3 = p) (hf : xfD (xo m) i = some (ci, k, p0)) (hw : wok q ci k 2 = true) (ht : (xt ci)[k]? = some (2, 0)) (h01 : x = 0 ∨ x = 1) (h : GG Z d m ret xp N p f r (WW Z A (sF s q k x) ++ ex) C S) : GG Z d m ret xp (N + 1) pc f (.int x :: .ref (A q) :: r) (WW Z A s ++ ex) C S :=
  g_putfield p hd hp hf hw ht rfl ⟨fun _ => 0, .inl (.inl x), ⟨x, rfl, rfl⟩, decide_eq_true h01⟩ (ws_F (wok_w hw).1 (wok_w hw).2.1 (wok_c hw) (by rw [(wok_w hw).2.2.2]; decide) x) h
theorem g_putL {i k ci p0 : Nat} {x : Int64} (p : Nat) (hd : GD m pc (.putfield i) 3) (hp : pc + 3 = p) (hf : xfD (xo m) i = some (ci, k, p0)) (hw : wok q ci k 1 = true) (ht : (xt ci)[k]? = some (1, 0)) (h : GG Z d m ret xp N p f r (WW Z A (sG s q k x) ++ ex) C S) : GG Z d m ret xp (N + 1) pc f (.long x :: .ref (A q) :: r) (WW Z A s ++ ex) C S :=
  g_putfield p hd hp hf hw ht rfl ⟨fun _ => 0, .inr (.inl none), ⟨x, rfl, trivial⟩, rfl⟩ (ws_G (wok_w hw).1 (wok_w hw).2.1 (wok_c hw) (wok_w hw).2.2.2 x) h
/-- one test for an array -/
def wak (q t n : Nat) : Bool := Nat.blt q 196 && Nat.beq (wk q) t && Nat.beq (wn q) n
theorem wak_w {t n : Nat} (h : wak q t n = true) : q < 196 ∧ wk q = t ∧ wn q = n := by
  unfold wak at h
  simp only [Bool.and_eq_true] at h
  exact ⟨Nat.le_of_ble_eq_true h.1.1, Nat.eq_of_beq_eq_true h.1.2, Nat.eq_of_beq_eq_true h.2⟩
def In (x : Int32) (lo hi : Int) : Prop := lo ≤ x.toInt ∧ x.toInt ≤ hi
theorem in_ix {x : Int32} {lo hi : Int} {n : Nat} (h : In x lo hi) (h0 : decide (0 ≤ lo ∧ hi < (n : Int)) = true) : vp_in x n := by
  have h0 := of_decide_eq_true h0
  obtain ⟨h1, h2⟩ := h
  intro z
  rcases z with z | z
  · have := Int32.lt_iff_toInt_lt.mp z
    have e : (0 : Int32).toInt = 0 := rfl
    omega
  · have e : (x.toNatClampNeg : Int) = x.toInt := by
      show ((x.toInt.toNat : Nat) : Int) = x.toInt
      omega
    omega
theorem in_w {x : Int32} {a b : Int} (c e : Int) (h : In x a b) (h0 : decide (c ≤ a ∧ b ≤ e) = true) : In x c e := by
  have h0 := of_decide_eq_true h0
  exact ⟨Int.le_trans h0.1 h.1, Int.le_trans h.2 h0.2⟩
theorem g_iaload {x : Int32} {n : Nat} (p : Nat) (hd : GD m pc .iaload 1) (hp : pc + 1 = p) (hw : wak q 0 n = true) (hx : vp_in x n) (h : ∀ z, z = s.1 q x.toNatClampNeg → GG Z d m ret xp N p f (.int z :: r) (WW Z A s ++ ex) C S) : GG Z d m ret xp (N + 1) pc f (.int x :: .ref (A q) :: r) (WW Z A s ++ ex) C S := by
  obtain ⟨w1, w2, w3⟩ := wak_w hw
  refine g_st fun lv hl k hn => ?_
  unfold am_stp
  rw [hd.2]
  subst hp w3
  exact Or.inr ⟨A q, x, r, q, wn q, s.1 q, rfl, by rw [ww_get w1, wc_0 w2], hx, h _ rfl lv hl k hn⟩
theorem g_laload {x : Int32} {n : Nat} (p : Nat) (hd : GD m pc .laload 1) (hp : pc + 1 = p) (hw : wak q 1 n = true) (hx : vp_in x n) (h : ∀ z, z = s.2.1 q x.toNatClampNeg → GG Z d m ret xp N p f (.long z :: r) (WW Z A s ++ ex) C S) : GG Z d m ret xp (N + 1) pc f (.int x :: .ref (A q) :: r) (WW Z A s ++ ex) C S := by
  obtain ⟨w1, w2, w3⟩ := wak_w hw
  refine g_st fun lv hl k hn => ?_
  unfold am_stp
  rw [hd.2]
  subst hp w3
  exact ⟨A q, x, r, q, wn q, s.2.1 q, rfl, by rw [ww_get w1, wc_1 w2], hx, h _ rfl lv hl k hn⟩
theorem g_caload {x : Int32} {n : Nat} (p : Nat) (hd : GD m pc .caload 1) (hp : pc + 1 = p) (hw : wak q 2 n = true) (hx : vp_in x n) (h : ∀ z, z = s.1 q x.toNatClampNeg → GG Z d m ret xp N p f (.int z :: r) (WW Z A s ++ ex) C S) : GG Z d m ret xp (N + 1) pc f (.int x :: .ref (A q) :: r) (WW Z A s ++ ex) C S := by
  obtain ⟨w1, w2, w3⟩ := wak_w hw
  refine g_st fun lv hl k hn => ?_
  unfold am_stp
  rw [hd.2]
  subst hp w3
  exact ⟨A q, x, r, q, wn q, s.1 q, rfl, by rw [ww_get w1, wc_2 w2], hx, h _ rfl lv hl k hn⟩
theorem g_baload {x : Int32} {n : Nat} (p : Nat) (hd : GD m pc .baload 1) (hp : pc + 1 = p) (hw : wak q 3 n = true) (hx : vp_in x n) (h : ∀ z, z = s.1 q x.toNatClampNeg → GG Z d m ret xp N p f (.int z :: r) (WW Z A s ++ ex) C S) : GG Z d m ret xp (N + 1) pc f (.int x :: .ref (A q) :: r) (WW Z A s ++ ex) C S := by
  obtain ⟨w1, w2, w3⟩ := wak_w hw
  refine g_st fun lv hl k hn => ?_
  unfold am_stp
  rw [hd.2]
  subst hp w3
  exact Or.inl ⟨A q, x, r, q, wn q, s.1 q, rfl, by rw [ww_get w1, wc_3 w2], hx, h _ rfl lv hl k hn⟩
theorem g_iastore {x v : Int32} {n : Nat} (p : Nat) (hd : GD m pc .iastore 1) (hp : pc + 1 = p) (hw : wak q 0 n = true) (hx : vp_in x n) (h : GG Z d m ret xp N p f r (WW Z A (sI s q x.toNatClampNeg v) ++ ex) C S) : GG Z d m ret xp (N + 1) pc f (.int v :: .int x :: .ref (A q) :: r) (WW Z A s ++ ex) C S := by
  obtain ⟨w1, w2, w3⟩ := wak_w hw
  refine g_st fun lv hl k hn => ?_
  unfold am_stp
  rw [hd.2]
  subst hp w3
  exact ⟨A q, x, v, r, q, wn q, s.1 q, rfl, by rw [ww_get w1, wc_0 w2], hx, by rw [ws_I0 w1 w2]; exact h lv hl k hn⟩
theorem g_lastore {x : Int32} {v : Int64} {n : Nat} (p : Nat) (hd : GD m pc .lastore 1) (hp : pc + 1 = p) (hw : wak q 1 n = true) (hx : vp_in x n) (h : GG Z d m ret xp N p f r (WW Z A (sL s q x.toNatClampNeg v) ++ ex) C S) : GG Z d m ret xp (N + 1) pc f (.long v :: .int x :: .ref (A q) :: r) (WW Z A s ++ ex) C S := by
  obtain ⟨w1, w2, w3⟩ := wak_w hw
  refine g_st fun lv hl k hn => ?_
  unfold am_stp
  rw [hd.2]
  subst hp w3
  exact ⟨A q, x, v, r, q, wn q, s.2.1 q, rfl, by rw [ww_get w1, wc_1 w2], hx, by rw [ws_L w1 w2]; exact h lv hl k hn⟩
theorem g_bastore {x v : Int32} {n : Nat} (p : Nat) (hd : GD m pc .bastore 1) (hp : pc + 1 = p) (hw : wak q 3 n = true) (hx : vp_in x n) (h : GG Z d m ret xp N p f r (WW Z A (sI s q x.toNatClampNeg (vp_nar .boolean v)) ++ ex) C S) : GG Z d m ret xp (N + 1) pc f (.int v :: .int x :: .ref (A q) :: r) (WW Z A s ++ ex) C S := by
  obtain ⟨w1, w2, w3⟩ := wak_w hw
  refine g_st fun lv hl k hn => ?_
  unfold am_stp
  rw [hd.2]
  subst hp w3
  exact ⟨A q, x, v, r, q, wn q, s.1 q, rfl, by rw [ww_get w1, wc_3 w2], hx, by rw [ws_I3 w1 w2]; exact h lv hl k hn⟩
theorem g_castore {x v : Int32} {n : Nat} (p : Nat) (hd : GD m pc .castore 1) (hp : pc + 1 = p) (hw : wak q 2 n = true) (hx : vp_in x n) (h : GG Z d m ret xp N p f r (WW Z A (sI s q x.toNatClampNeg (vp_nar .char v)) ++ ex) C S) : GG Z d m ret xp (N + 1) pc f (.int v :: .int x :: .ref (A q) :: r) (WW Z A s ++ ex) C S := by
  obtain ⟨w1, w2, w3⟩ := wak_w hw
  refine g_st fun lv hl k hn => ?_
  unfold am_stp
  rw [hd.2]
  subst hp w3
  exact ⟨A q, x, v, r, q, wn q, s.1 q, rfl, by rw [ww_get w1, wc_2 w2], hx, by rw [ws_I2 w1 w2]; exact h lv hl k hn⟩
theorem g_alen {n t : Nat} (c : Int) (p : Nat) (hd : GD m pc .arraylength 1) (hp : pc + 1 = p) (hw : wak q t n = true) (ht : t < 4) (hc : Int32.ofNat n = Int32.ofInt c) (h : GG Z d m ret xp N p f (.int (Int32.ofInt c) :: r) (WW Z A s ++ ex) C S) : GG Z d m ret xp (N + 1) pc f (.ref (A q) :: r) (WW Z A s ++ ex) C S := by
  obtain ⟨w1, w2, w3⟩ := wak_w hw
  refine g_st fun lv hl k hn => ?_
  unfold am_stp
  rw [hd.2]
  subst hp w3
  rw [← hc] at h
  have e := ww_get (Z := Z) (A := A) (s := s) (ex := ex) w1
  match t, ht, w2 with
  | 0, _, w2 => rw [wc_0 w2] at e; exact Or.inr (Or.inl ⟨A q, r, q, _, _, 0, _, rfl, e, rfl, h lv hl k hn⟩)
  | 1, _, w2 => rw [wc_1 w2] at e; exact Or.inr (Or.inl ⟨A q, r, q, _, _, 1, _, rfl, e, rfl, h lv hl k hn⟩)
  | 2, _, w2 => rw [wc_2 w2] at e; exact Or.inr (Or.inl ⟨A q, r, q, _, _, 2, _, rfl, e, rfl, h lv hl k hn⟩)
  | 3, _, w2 => rw [wc_3 w2] at e; exact Or.inr (Or.inl ⟨A q, r, q, _, _, 3, _, rfl, e, rfl, h lv hl k hn⟩)
/-- the ledger's log: a row whose length may grow -/
theorem g_lgload {x : Int32} (p : Nat) (hd : GD m pc .iaload 1) (hp : pc + 1 = p) (hx : vp_in x (s.2.2.1 30 0).toNatClampNeg) (h : ∀ z, z = s.1 30 x.toNatClampNeg → GG Z d m ret xp N p f (.int z :: r) (WW Z A s ++ ex) C S) : GG Z d m ret xp (N + 1) pc f (.int x :: .ref (A 30) :: r) (WW Z A s ++ ex) C S := by
  refine g_st fun lv hl k hn => ?_
  unfold am_stp
  rw [hd.2]
  subst hp
  exact Or.inr ⟨A 30, x, r, 30, _, s.1 30, rfl, by rw [ww_get (by decide), wc_lg], hx, h _ rfl lv hl k hn⟩
theorem ws_lg {x : Int32} : (WW Z A s ++ ex).set 30 (A 30, .inl (Z.1, (s.2.2.1 30 0).toNatClampNeg, .inl (upd (s.1 30) j x))) = WW Z A (sI s 30 j x) ++ ex :=
  ww_set (by decide) (by rw [wc_lg]; simp [sI]) (fun p hp => wc_eq (by simp [sI, hp]) rfl rfl rfl rfl)
theorem g_lgstore {x v : Int32} (p : Nat) (hd : GD m pc .iastore 1) (hp : pc + 1 = p) (hx : vp_in x (s.2.2.1 30 0).toNatClampNeg) (h : GG Z d m ret xp N p f r (WW Z A (sI s 30 x.toNatClampNeg v) ++ ex) C S) : GG Z d m ret xp (N + 1) pc f (.int v :: .int x :: .ref (A 30) :: r) (WW Z A s ++ ex) C S := by
  refine g_st fun lv hl k hn => ?_
  unfold am_stp
  rw [hd.2]
  subst hp
  exact ⟨A 30, x, v, r, 30, _, s.1 30, rfl, by rw [ww_get (by decide), wc_lg], hx, by rw [ws_lg]; exact h lv hl k hn⟩
theorem g_lglen (p : Nat) (hd : GD m pc .arraylength 1) (hp : pc + 1 = p) (hr : 0 ≤ (s.2.2.1 30 0).toInt) (h : ∀ z, z = s.2.2.1 30 0 → GG Z d m ret xp N p f (.int z :: r) (WW Z A s ++ ex) C S) : GG Z d m ret xp (N + 1) pc f (.ref (A 30) :: r) (WW Z A s ++ ex) C S := by
  refine g_st fun lv hl k hn => ?_
  unfold am_stp
  rw [hd.2]
  subst hp
  have e := ww_get (Z := Z) (A := A) (s := s) (ex := ex) (q := 30) (by decide)
  rw [wc_lg] at e
  have e2 : Int32.ofNat (s.2.2.1 30 0).toNatClampNeg = s.2.2.1 30 0 := by
    refine Int32.toInt_inj.mp ?_
    have h1 := (s.2.2.1 30 0).toInt_lt
    have h2 : (s.2.2.1 30 0).toNatClampNeg = (s.2.2.1 30 0).toInt.toNat := rfl
    rw [Int32.toInt_ofNat_of_lt (by omega)]
    omega
  refine Or.inr (Or.inl ⟨A 30, r, 30, _, _, 0, _, rfl, e, rfl, ?_⟩)
  rw [e2]
  exact h _ rfl lv hl k hn
/-- another address for a cell -/
def ax (A : Nat → Nat) (k a : Nat) : Nat → Nat := fun i => cond (Nat.beq i k) a (A i)
theorem ax_ne {i k a : Nat} (h : i ≠ k) : ax A k a i = A i := by
  unfold ax
  cases e : Nat.beq i k with
  | false => rfl
  | true => exact absurd (Nat.eq_of_beq_eq_true e) h
theorem ax_eq {k a : Nat} : ax A k a k = a := by
  unfold ax
  rw [show Nat.beq k k = true from Nat.beq_refl k]
  rfl
theorem ax_ax {k a b : Nat} : ax (ax A k a) k b = ax A k b := by
  funext i
  by_cases h : i = k
  · subst h; rw [ax_eq, ax_eq]
  · rw [ax_ne h, ax_ne h, ax_ne h]
/-- a whole row put in another's place -/
def sA (s : GS) (q : Nat) (g : Nat → Int32) : GS := (fun p => if p = q then g else s.1 p, s.2)
def sB (s : GS) (q : Nat) (g : Nat → Int64) : GS := (s.1, fun p => if p = q then g else s.2.1 p, s.2.2)
theorem ws_A (hq : q < 196) (hk : wk q = 0) (g : Nat → Int32) : (WW Z A s ++ ex).set q (A q, .inl (Z.1, wn q, .inl g)) = WW Z A (sA s q g) ++ ex :=
  ww_set hq (by unfold wc; rw [hk]; simp [sA]) (fun p hp => wc_eq (by simp [sA, hp]) rfl rfl rfl rfl)
theorem ws_B (hq : q < 196) (hk : wk q = 1) (g : Nat → Int64) : (WW Z A s ++ ex).set q (A q, .inl (Z.2.1, wn q, .inr (.inl g))) = WW Z A (sB s q g) ++ ex :=
  ww_set hq (by unfold wc; rw [hk]; simp [sB]) (fun p hp => wc_eq rfl (by simp [sB, hp]) rfl rfl rfl)
/-- System.arraycopy between rows of the world -/
theorem g_copyI {i p0 q2 n0 n1 : Nat} {n dp sp : Int32} (p : Nat) (hd : GD m pc (.invokestatic i) 3) (hp : pc + 3 = p) (hl : xlD (xo m) i = some (1001, 5, p0, 0)) (hw : wak q2 0 n0 = true) (hw2 : wak q 0 n1 = true) (hr : (r.map fun v => v.category).sum ≤ 8) (hsp : 0 ≤ sp.toInt) (hdp : 0 ≤ dp.toInt) (hn0 : 0 ≤ n.toInt) (h0 : sp.toInt + n.toInt ≤ (n0 : Int)) (h1 : dp.toInt + n.toInt ≤ (n1 : Int))
    (h : GG Z d m ret xp N p f r (WW Z A (sA s q (va_cpy (s.1 q2) (s.1 q) sp.toNatClampNeg dp.toNatClampNeg n.toNatClampNeg)) ++ ex) C S) : GG Z d m ret xp (N + 1) pc f (.int n :: .int dp :: .ref (A q) :: .int sp :: .ref (A q2) :: r) (WW Z A s ++ ex) C S := by
  obtain ⟨w1, w2, w3⟩ := wak_w hw
  obtain ⟨y1, y2, y3⟩ := wak_w hw2
  have pos : ∀ x : Int32, 0 ≤ x.toInt → ¬ x < 0 := fun x hx z => by
    have := Int32.lt_iff_toInt_lt.mp z
    have e : (0 : Int32).toInt = 0 := rfl
    omega
  have cl : ∀ x : Int32, 0 ≤ x.toInt → (x.toNatClampNeg : Int) = x.toInt := fun x hx => by
    show ((x.toInt.toNat : Nat) : Int) = x.toInt
    omega
  have c1 := cl _ hsp
  have c2 := cl _ hdp
  have c3 := cl _ hn0
  refine g_st fun lv hlv k hn => ?_
  unfold am_stp
  rw [hd.2]
  subst hp w3 y3
  refine Or.inl ⟨n, dp, A q, sp, A q2, r, q2, q, wn q2, wn q, rfl, xl_s hd.1 hl (Or.inr (Or.inl ⟨rfl, rfl⟩)), hr, pos _ hsp, pos _ hdp, pos _ hn0, by omega, by omega, Or.inl ⟨s.1 q2, s.1 q, by rw [ww_get w1, wc_0 w2], by rw [ww_get y1, wc_0 y2], ?_⟩⟩
  rw [ws_A y1 y2]
  exact h lv hlv k hn
theorem g_copyL {i p0 q2 n0 n1 : Nat} {n dp sp : Int32} (p : Nat) (hd : GD m pc (.invokestatic i) 3) (hp : pc + 3 = p) (hl : xlD (xo m) i = some (1001, 5, p0, 0)) (hw : wak q2 1 n0 = true) (hw2 : wak q 1 n1 = true) (hr : (r.map fun v => v.category).sum ≤ 8) (hsp : 0 ≤ sp.toInt) (hdp : 0 ≤ dp.toInt) (hn0 : 0 ≤ n.toInt) (h0 : sp.toInt + n.toInt ≤ (n0 : Int)) (h1 : dp.toInt + n.toInt ≤ (n1 : Int))
    (h : GG Z d m ret xp N p f r (WW Z A (sB s q (va_cpy (s.2.1 q2) (s.2.1 q) sp.toNatClampNeg dp.toNatClampNeg n.toNatClampNeg)) ++ ex) C S) : GG Z d m ret xp (N + 1) pc f (.int n :: .int dp :: .ref (A q) :: .int sp :: .ref (A q2) :: r) (WW Z A s ++ ex) C S := by
  obtain ⟨w1, w2, w3⟩ := wak_w hw
  obtain ⟨y1, y2, y3⟩ := wak_w hw2
  have pos : ∀ x : Int32, 0 ≤ x.toInt → ¬ x < 0 := fun x hx z => by
    have := Int32.lt_iff_toInt_lt.mp z
    have e : (0 : Int32).toInt = 0 := rfl
    omega
  have cl : ∀ x : Int32, 0 ≤ x.toInt → (x.toNatClampNeg : Int) = x.toInt := fun x hx => by
    show ((x.toInt.toNat : Nat) : Int) = x.toInt
    omega
  have c1 := cl _ hsp
  have c2 := cl _ hdp
  have c3 := cl _ hn0
  refine g_st fun lv hlv k hn => ?_
  unfold am_stp
  rw [hd.2]
  subst hp w3 y3
  refine Or.inl ⟨n, dp, A q, sp, A q2, r, q2, q, wn q2, wn q, rfl, xl_s hd.1 hl (Or.inr (Or.inl ⟨rfl, rfl⟩)), hr, pos _ hsp, pos _ hdp, pos _ hn0, by omega, by omega, Or.inr ⟨s.2.1 q2, s.2.1 q, by rw [ww_get w1, wc_1 w2], by rw [ww_get y1, wc_1 y2], ?_⟩⟩
  rw [ws_B y1 y2]
  exact h lv hlv k hn
end GW
