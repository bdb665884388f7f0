/-! methods by number, links by class -/
def xcls (m : Nat) : String := cond (Nat.blt m 9) (cond (Nat.blt m 4) (cond (Nat.blt m 2) (cond (Nat.blt m 1) ("GraphHouse$Colours") ("GraphHouse$Engine")) (cond (Nat.blt m 3) ("GraphHouse$Flows") ("GraphHouse$Graph"))) (cond (Nat.blt m 6) (cond (Nat.blt m 5) ("GraphHouse$Groups") ("GraphHouse$Ledger")) (cond (Nat.blt m 7) ("GraphHouse$Parts") (cond (Nat.blt m 8) ("GraphHouse$Question") ("GraphHouse$Script"))))) (cond (Nat.blt m 13) (cond (Nat.blt m 11) (cond (Nat.blt m 10) ("GraphHouse$Trees") ("GraphHouse$Ways")) (cond (Nat.blt m 12) ("GraphHouse") ("GraphHouseModel"))) (cond (Nat.blt m 15) (cond (Nat.blt m 14) ("GraphHouseLaw") ("java/lang/Integer")) (cond (Nat.blt m 16) ("java/lang/Long") (cond (Nat.blt m 17) ("java/lang/Math") ("java/util/Arrays")))))
def xy (m : Nat) : MethodName := cond (Nat.blt m 211) (cond (Nat.blt m 105) (cond (Nat.blt m 52) (cond (Nat.blt m 26) (cond (Nat.blt m 13) (cond (Nat.blt m 6) (cond (Nat.blt m 3) (cond (Nat.blt m 1) (⟨"GraphHouseLaw", "law", "([I)Z"⟩) (cond (Nat.blt m 2) (⟨"GraphHouseLaw", "node", "(LGraphHouse;I[J)I"⟩) (⟨"GraphHouseLaw", "arc", "(LGraphHouse;IIIII[J)I"⟩))) (cond (Nat.blt m 4) (⟨"GraphHouseLaw", "take", "(LGraphHouse;I[J)I"⟩) (cond (Nat.blt m 5) (⟨"GraphHouseLaw", "set", "(LGraphHouse;III[J)I"⟩) (⟨"GraphHouseLaw", "label", "(LGraphHouse;II[J)I"⟩)))) (cond (Nat.blt m 9) (cond (Nat.blt m 7) (⟨"GraphHouseLaw", "view", "(LGraphHouse;I[J)I"⟩) (cond (Nat.blt m 8) (⟨"GraphHouseLaw", "size", "(LGraphHouse;I[J)I"⟩) (⟨"GraphHouseLaw", "told", "(LGraphHouse;II[J)I"⟩))) (cond (Nat.blt m 11) (cond (Nat.blt m 10) (⟨"GraphHouseLaw", "labelOf", "(LGraphHouse;I[J)I"⟩) (⟨"GraphHouseLaw", "arcAt", "(LGraphHouse;III[J)I"⟩)) (cond (Nat.blt m 12) (⟨"GraphHouseLaw", "type", "(LGraphHouse;I[J)I"⟩) (⟨"GraphHouseLaw", "fault", "(LGraphHouse;I[J)I"⟩))))) (cond (Nat.blt m 19) (cond (Nat.blt m 16) (cond (Nat.blt m 14) (⟨"GraphHouseLaw", "printed", "(LGraphHouse;I[J)I"⟩) (cond (Nat.blt m 15) (⟨"GraphHouseLaw", "distance", "(LGraphHouse;II[J)I"⟩) (⟨"GraphHouseLaw", "way", "(LGraphHouse;III[J)I"⟩))) (cond (Nat.blt m 17) (⟨"GraphHouseLaw", "width", "(LGraphHouse;II[J)I"⟩) (cond (Nat.blt m 18) (⟨"GraphHouseLaw", "shorts", "(LGraphHouse;II[J)I"⟩) (⟨"GraphHouseLaw", "shortArc", "(LGraphHouse;IIII[J)I"⟩)))) (cond (Nat.blt m 22) (cond (Nat.blt m 20) (⟨"GraphHouseLaw", "part", "(LGraphHouse;II[J)I"⟩) (cond (Nat.blt m 21) (⟨"GraphHouseLaw", "bridge", "(LGraphHouse;I[J)I"⟩) (⟨"GraphHouseLaw", "cut", "(LGraphHouse;I[J)I"⟩))) (cond (Nat.blt m 24) (cond (Nat.blt m 23) (⟨"GraphHouseLaw", "order", "(LGraphHouse;I[J)I"⟩) (⟨"GraphHouseLaw", "core", "(LGraphHouse;I[J)I"⟩)) (cond (Nat.blt m 25) (⟨"GraphHouseLaw", "clique", "(LGraphHouse;I[J)I"⟩) (⟨"GraphHouseLaw", "colour", "(LGraphHouse;I[J)I"⟩)))))) (cond (Nat.blt m 39) (cond (Nat.blt m 32) (cond (Nat.blt m 29) (cond (Nat.blt m 27) (⟨"GraphHouseLaw", "flow", "(LGraphHouse;II[J)I"⟩) (cond (Nat.blt m 28) (⟨"GraphHouseLaw", "side", "(LGraphHouse;III[J)I"⟩) (⟨"GraphHouseLaw", "cost", "(LGraphHouse;III[J)I"⟩))) (cond (Nat.blt m 30) (⟨"GraphHouseLaw", "pairing", "(LGraphHouse;I[J)I"⟩) (cond (Nat.blt m 31) (⟨"GraphHouseLaw", "tree", "(LGraphHouse;I[J)I"⟩) (⟨"GraphHouseLaw", "span", "(LGraphHouse;I[J)I"⟩)))) (cond (Nat.blt m 35) (cond (Nat.blt m 33) (⟨"GraphHouseLaw", "rank", "(LGraphHouse;II[J)I"⟩) (cond (Nat.blt m 34) (⟨"GraphHouseLaw", "shortest", "(LGraphHouse;IIII[J)I"⟩) (⟨"GraphHouseLaw", "group", "(LGraphHouse;I[J)I"⟩))) (cond (Nat.blt m 37) (cond (Nat.blt m 36) (⟨"GraphHouseLaw", "figures", "(LGraphHouse;I[J)I"⟩) (⟨"GraphHouseLaw", "fits", "(LGraphHouse;II[J)I"⟩)) (cond (Nat.blt m 38) (⟨"GraphHouseLaw", "run", "(LGraphHouse;IIIJ[J)I"⟩) (⟨"GraphHouseLaw", "state", "(LGraphHouse;I[J)I"⟩))))) (cond (Nat.blt m 45) (cond (Nat.blt m 42) (cond (Nat.blt m 40) (⟨"GraphHouseLaw", "letters", "(LGraphHouse;I[J)I"⟩) (cond (Nat.blt m 41) (⟨"GraphHouse$Colours", "<init>", "()V"⟩) (⟨"GraphHouse$Colours", "greatestClique", "(LGraphHouse$Graph;)I"⟩))) (cond (Nat.blt m 43) (⟨"GraphHouse$Colours", "growClique", "([IIII)V"⟩) (cond (Nat.blt m 44) (⟨"GraphHouse$Colours", "colourOf", "(LGraphHouse$Graph;I)I"⟩) (⟨"GraphHouse$Colours", "makeColours", "(LGraphHouse$Graph;)V"⟩)))) (cond (Nat.blt m 48) (cond (Nat.blt m 46) (⟨"GraphHouse$Colours", "classOf", "(I)I"⟩) (cond (Nat.blt m 47) (⟨"GraphHouse$Colours", "fill", "([III)Z"⟩) (⟨"GraphHouse$Colours", "fillPiece", "([III)Z"⟩))) (cond (Nat.blt m 50) (cond (Nat.blt m 49) (⟨"GraphHouse$Colours", "besides", "([II)I"⟩) (⟨"GraphHouse$Colours", "setAside", "([II)I"⟩)) (cond (Nat.blt m 51) (⟨"GraphHouse$Colours", "takeBack", "([II)V"⟩) (⟨"GraphHouse$Colours", "freeColours", "(I)I"⟩))))))) (cond (Nat.blt m 78) (cond (Nat.blt m 65) (cond (Nat.blt m 58) (cond (Nat.blt m 55) (cond (Nat.blt m 53) (⟨"GraphHouse$Colours", "tightest", "([II)I"⟩) (cond (Nat.blt m 54) (⟨"GraphHouse$Colours", "lessen", "(LGraphHouse$Graph;II)I"⟩) (⟨"GraphHouse$Colours", "canLower", "(LGraphHouse$Graph;III)Z"⟩))) (cond (Nat.blt m 56) (⟨"GraphHouse$Engine", "<init>", "()V"⟩) (cond (Nat.blt m 57) (⟨"GraphHouse$Engine", "adopt", "(LGraphHouse$Script;)Z"⟩) (⟨"GraphHouse$Engine", "emit", "(I)Z"⟩)))) (cond (Nat.blt m 61) (cond (Nat.blt m 59) (⟨"GraphHouse$Engine", "readExpression", "(LGraphHouse$Script;I)Z"⟩) (cond (Nat.blt m 60) (⟨"GraphHouse$Engine", "readSum", "(LGraphHouse$Script;I)Z"⟩) (⟨"GraphHouse$Engine", "readProduct", "(LGraphHouse$Script;I)Z"⟩))) (cond (Nat.blt m 63) (cond (Nat.blt m 62) (⟨"GraphHouse$Engine", "readFactor", "(LGraphHouse$Script;I)Z"⟩) (⟨"GraphHouse$Engine", "readAtom", "(LGraphHouse$Script;)Z"⟩)) (cond (Nat.blt m 64) (⟨"GraphHouse$Engine", "work", "(LGraphHouse$Graph;I)I"⟩) (⟨"GraphHouse$Engine", "doRound", "(LGraphHouse$Graph;I)Z"⟩))))) (cond (Nat.blt m 71) (cond (Nat.blt m 68) (cond (Nat.blt m 66) (⟨"GraphHouse$Engine", "look", "(LGraphHouse$Graph;II)V"⟩) (cond (Nat.blt m 67) (⟨"GraphHouse$Engine", "compute", "(II)J"⟩) (⟨"GraphHouse$Engine", "combine", "(IJJ)J"⟩))) (cond (Nat.blt m 69) (⟨"GraphHouse$Engine", "times", "(JJ)J"⟩) (cond (Nat.blt m 70) (⟨"GraphHouse$Engine", "clip", "(J)J"⟩) (⟨"GraphHouse$Engine", "post", "(LGraphHouse$Graph;IIIJ)V"⟩)))) (cond (Nat.blt m 74) (cond (Nat.blt m 72) (⟨"GraphHouse$Engine", "lettersOf", "(LGraphHouse$Graph;I)I"⟩) (cond (Nat.blt m 73) (⟨"GraphHouse$Engine", "sendAll", "(IIJ)I"⟩) (⟨"GraphHouse$Engine", "draw", "(J)J"⟩))) (cond (Nat.blt m 76) (cond (Nat.blt m 75) (⟨"GraphHouse$Flows", "<init>", "()V"⟩) (⟨"GraphHouse$Flows", "greatest", "(LGraphHouse$Graph;II)J"⟩)) (cond (Nat.blt m 77) (⟨"GraphHouse$Flows", "openAll", "(LGraphHouse$Graph;)V"⟩) (⟨"GraphHouse$Flows", "reach", "(II)Z"⟩)))))) (cond (Nat.blt m 91) (cond (Nat.blt m 84) (cond (Nat.blt m 81) (cond (Nat.blt m 79) (⟨"GraphHouse$Flows", "push", "(II)I"⟩) (cond (Nat.blt m 80) (⟨"GraphHouse$Flows", "cheapest", "(LGraphHouse$Graph;III)J"⟩) (⟨"GraphHouse$Flows", "layArc", "(LGraphHouse$Graph;I)J"⟩))) (cond (Nat.blt m 82) (⟨"GraphHouse$Flows", "lay", "(IIII)V"⟩) (cond (Nat.blt m 83) (⟨"GraphHouse$Flows", "nearestLack", "(I)I"⟩) (⟨"GraphHouse$Flows", "relaxPipe", "(I)Z"⟩)))) (cond (Nat.blt m 87) (cond (Nat.blt m 85) (⟨"GraphHouse$Flows", "carryTo", "(I)J"⟩) (cond (Nat.blt m 86) (⟨"GraphHouse$Flows", "pair", "(LGraphHouse$Graph;)V"⟩) (⟨"GraphHouse$Flows", "isLow", "(LGraphHouse$Graph;I)Z"⟩))) (cond (Nat.blt m 89) (cond (Nat.blt m 88) (⟨"GraphHouse$Graph", "<init>", "()V"⟩) (⟨"GraphHouse$Graph", "clear", "()V"⟩)) (cond (Nat.blt m 90) (⟨"GraphHouse$Graph", "copyOf", "(LGraphHouse$Graph;)V"⟩) (⟨"GraphHouse$Graph", "hasNode", "(I)Z"⟩))))) (cond (Nat.blt m 98) (cond (Nat.blt m 94) (cond (Nat.blt m 92) (⟨"GraphHouse$Graph", "hasTwo", "(II)Z"⟩) (cond (Nat.blt m 93) (⟨"GraphHouse$Graph", "hasArc", "(I)Z"⟩) (⟨"GraphHouse$Graph", "isJoint", "(I)Z"⟩))) (cond (Nat.blt m 96) (cond (Nat.blt m 95) (⟨"GraphHouse$Graph", "joints", "()I"⟩) (⟨"GraphHouse$Graph", "countJoints", "([I)V"⟩)) (cond (Nat.blt m 97) (⟨"GraphHouse$Graph", "valueOf", "(II)I"⟩) (⟨"GraphHouse$Graph", "freePlace", "()I"⟩)))) (cond (Nat.blt m 101) (cond (Nat.blt m 99) (⟨"GraphHouse$Graph", "allNodes", "()I"⟩) (cond (Nat.blt m 100) (⟨"GraphHouse$Graph", "outCount", "(I)I"⟩) (⟨"GraphHouse$Graph", "inCount", "(I)I"⟩))) (cond (Nat.blt m 103) (cond (Nat.blt m 102) (⟨"GraphHouse$Graph", "dropAt", "(I)V"⟩) (⟨"GraphHouse$Graph", "tie", "()V"⟩)) (cond (Nat.blt m 104) (⟨"GraphHouse$Graph", "tieEnds", "(II)V"⟩) (⟨"GraphHouse$Groups", "<init>", "()V"⟩)))))))) (cond (Nat.blt m 158) (cond (Nat.blt m 131) (cond (Nat.blt m 118) (cond (Nat.blt m 111) (cond (Nat.blt m 108) (cond (Nat.blt m 106) (⟨"GraphHouse$Groups", "unitsOf", "(LGraphHouse$Graph;II)J"⟩) (cond (Nat.blt m 107) (⟨"GraphHouse$Groups", "shareOut", "(LGraphHouse$Graph;)V"⟩) (⟨"GraphHouse$Groups", "groupOf", "(LGraphHouse$Graph;I)I"⟩))) (cond (Nat.blt m 109) (⟨"GraphHouse$Groups", "totalGain", "(LGraphHouse$Graph;)J"⟩) (cond (Nat.blt m 110) (⟨"GraphHouse$Groups", "settle", "(LGraphHouse$Graph;)V"⟩) (⟨"GraphHouse$Groups", "begin", "(LGraphHouse$Graph;)V"⟩)))) (cond (Nat.blt m 114) (cond (Nat.blt m 112) (⟨"GraphHouse$Groups", "settleNode", "(LGraphHouse$Graph;I)Z"⟩) (cond (Nat.blt m 113) (⟨"GraphHouse$Groups", "isBetter", "(III)Z"⟩) (⟨"GraphHouse$Groups", "countLinks", "(LGraphHouse$Graph;I)V"⟩))) (cond (Nat.blt m 116) (cond (Nat.blt m 115) (⟨"GraphHouse$Groups", "score", "(II)J"⟩) (⟨"GraphHouse$Groups", "freeGroup", "()I"⟩)) (cond (Nat.blt m 117) (⟨"GraphHouse$Groups", "moveTo", "(II)Z"⟩) (⟨"GraphHouse$Ledger", "<init>", "()V"⟩))))) (cond (Nat.blt m 124) (cond (Nat.blt m 121) (cond (Nat.blt m 119) (⟨"GraphHouse$Ledger", "isFull", "()Z"⟩) (cond (Nat.blt m 120) (⟨"GraphHouse$Ledger", "isGoodArc", "(IIIII)Z"⟩) (⟨"GraphHouse$Ledger", "addNode", "(I)I"⟩))) (cond (Nat.blt m 122) (⟨"GraphHouse$Ledger", "addArc", "(IIIII)I"⟩) (cond (Nat.blt m 123) (⟨"GraphHouse$Ledger", "dropArc", "(I)V"⟩) (⟨"GraphHouse$Ledger", "changeArc", "(III)V"⟩)))) (cond (Nat.blt m 127) (cond (Nat.blt m 125) (⟨"GraphHouse$Ledger", "relabel", "(II)V"⟩) (cond (Nat.blt m 126) (⟨"GraphHouse$Ledger", "note", "(IIII)V"⟩) (⟨"GraphHouse$Ledger", "openRow", "()I"⟩))) (cond (Nat.blt m 129) (cond (Nat.blt m 128) (⟨"GraphHouse$Ledger", "apply", "(LGraphHouse$Graph;)V"⟩) (⟨"GraphHouse$Ledger", "applyArc", "(LGraphHouse$Graph;II)V"⟩)) (cond (Nat.blt m 130) (⟨"GraphHouse$Ledger", "applyValue", "(LGraphHouse$Graph;III)V"⟩) (⟨"GraphHouse$Ledger", "replay", "(LGraphHouse$Graph;I)V"⟩)))))) (cond (Nat.blt m 144) (cond (Nat.blt m 137) (cond (Nat.blt m 134) (cond (Nat.blt m 132) (⟨"GraphHouse$Ledger", "carryOut", "(LGraphHouse$Script;)I"⟩) (cond (Nat.blt m 133) (⟨"GraphHouse$Ledger", "readCommand", "(LGraphHouse$Script;)Z"⟩) (⟨"GraphHouse$Ledger", "shapeOf", "(I)Ljava/lang/String;"⟩))) (cond (Nat.blt m 135) (⟨"GraphHouse$Ledger", "doCommand", "(I)Z"⟩) (cond (Nat.blt m 136) (⟨"GraphHouse$Parts", "<init>", "()V"⟩) (⟨"GraphHouse$Parts", "strongPart", "(LGraphHouse$Graph;I)I"⟩)))) (cond (Nat.blt m 140) (cond (Nat.blt m 138) (⟨"GraphHouse$Parts", "weakPart", "(LGraphHouse$Graph;I)I"⟩) (cond (Nat.blt m 139) (⟨"GraphHouse$Parts", "isBridge", "(LGraphHouse$Graph;I)Z"⟩) (⟨"GraphHouse$Parts", "isCut", "(LGraphHouse$Graph;I)Z"⟩))) (cond (Nat.blt m 142) (cond (Nat.blt m 141) (⟨"GraphHouse$Parts", "ordered", "(LGraphHouse$Graph;I)I"⟩) (⟨"GraphHouse$Parts", "makeOrder", "(LGraphHouse$Graph;)V"⟩)) (cond (Nat.blt m 143) (⟨"GraphHouse$Parts", "firstFree", "(LGraphHouse$Graph;I)I"⟩) (⟨"GraphHouse$Parts", "coreOf", "(LGraphHouse$Graph;I)I"⟩))))) (cond (Nat.blt m 151) (cond (Nat.blt m 147) (cond (Nat.blt m 145) (⟨"GraphHouse$Parts", "peel", "(LGraphHouse$Graph;)V"⟩) (cond (Nat.blt m 146) (⟨"GraphHouse$Parts", "loosest", "(I)I"⟩) (⟨"GraphHouse$Parts", "loosen", "(LGraphHouse$Graph;I)V"⟩))) (cond (Nat.blt m 149) (cond (Nat.blt m 148) (⟨"GraphHouse$Parts", "triangles", "(LGraphHouse$Graph;)J"⟩) (⟨"GraphHouse$Parts", "squares", "(LGraphHouse$Graph;)J"⟩)) (cond (Nat.blt m 150) (⟨"GraphHouse$Question", "<init>", "()V"⟩) (⟨"GraphHouse$Question", "adopt", "(LGraphHouse$Script;)Z"⟩)))) (cond (Nat.blt m 154) (cond (Nat.blt m 152) (⟨"GraphHouse$Question", "isGood", "(LGraphHouse$Script;)Z"⟩) (cond (Nat.blt m 153) (⟨"GraphHouse$Question", "judge", "(IZI)I"⟩) (⟨"GraphHouse$Question", "isAtom", "(I)Z"⟩))) (cond (Nat.blt m 156) (cond (Nat.blt m 155) (⟨"GraphHouse$Question", "build", "(LGraphHouse$Script;)V"⟩) (⟨"GraphHouse$Question", "closeBars", "(JJ)V"⟩)) (cond (Nat.blt m 157) (⟨"GraphHouse$Question", "layPlace", "(CII)V"⟩) (⟨"GraphHouse$Question", "layRepeat", "(CII)V"⟩))))))) (cond (Nat.blt m 184) (cond (Nat.blt m 171) (cond (Nat.blt m 164) (cond (Nat.blt m 161) (cond (Nat.blt m 159) (⟨"GraphHouse$Question", "close", "(I)V"⟩) (cond (Nat.blt m 160) (⟨"GraphHouse$Question", "leastFit", "(LGraphHouse$Graph;II)I"⟩) (⟨"GraphHouse$Question", "step", "(LGraphHouse$Graph;)Z"⟩))) (cond (Nat.blt m 162) (⟨"GraphHouse$Question", "behind", "(J)J"⟩) (cond (Nat.blt m 163) (⟨"GraphHouse$Script", "<init>", "()V"⟩) (⟨"GraphHouse$Script", "begin", "()V"⟩)))) (cond (Nat.blt m 167) (cond (Nat.blt m 165) (⟨"GraphHouse$Script", "accuse", "(II)Z"⟩) (cond (Nat.blt m 166) (⟨"GraphHouse$Script", "refuse", "(II)Z"⟩) (⟨"GraphHouse$Script", "isAt", "(I)Z"⟩))) (cond (Nat.blt m 169) (cond (Nat.blt m 168) (⟨"GraphHouse$Script", "next", "(IZ)V"⟩) (⟨"GraphHouse$Script", "isDigit", "(I)Z"⟩)) (cond (Nat.blt m 170) (⟨"GraphHouse$Script", "readNumber", "(ZI)V"⟩) (⟨"GraphHouse$Script", "isSign", "(CZ)Z"⟩))))) (cond (Nat.blt m 177) (cond (Nat.blt m 174) (cond (Nat.blt m 172) (⟨"GraphHouse$Script", "write", "(LGraphHouse$Graph;)I"⟩) (cond (Nat.blt m 173) (⟨"GraphHouse$Script", "endCommand", "(I)V"⟩) (⟨"GraphHouse$Script", "put", "(C)V"⟩))) (cond (Nat.blt m 175) (⟨"GraphHouse$Script", "putNumber", "(I)V"⟩) (cond (Nat.blt m 176) (⟨"GraphHouse$Trees", "<init>", "()V"⟩) (⟨"GraphHouse$Trees", "leastRooted", "(LGraphHouse$Graph;I)J"⟩)))) (cond (Nat.blt m 180) (cond (Nat.blt m 178) (⟨"GraphHouse$Trees", "copyArcs", "(LGraphHouse$Graph;)V"⟩) (cond (Nat.blt m 179) (⟨"GraphHouse$Trees", "takeCheapest", "(II)Z"⟩) (⟨"GraphHouse$Trees", "nameRings", "(II)I"⟩))) (cond (Nat.blt m 182) (cond (Nat.blt m 181) (⟨"GraphHouse$Trees", "nameOthers", "(II)I"⟩) (⟨"GraphHouse$Trees", "shrinkRings", "()V"⟩)) (cond (Nat.blt m 183) (⟨"GraphHouse$Trees", "isSpanning", "(LGraphHouse$Graph;I)Z"⟩) (⟨"GraphHouse$Trees", "isBefore", "(LGraphHouse$Graph;II)Z"⟩)))))) (cond (Nat.blt m 197) (cond (Nat.blt m 190) (cond (Nat.blt m 187) (cond (Nat.blt m 185) (⟨"GraphHouse$Trees", "countSpanning", "(LGraphHouse$Graph;)I"⟩) (cond (Nat.blt m 186) (⟨"GraphHouse$Trees", "countTrees", "(LGraphHouse$Graph;)I"⟩) (⟨"GraphHouse$Trees", "pivot", "(II)J"⟩))) (cond (Nat.blt m 188) (⟨"GraphHouse$Trees", "swapRows", "(II)V"⟩) (cond (Nat.blt m 189) (⟨"GraphHouse$Trees", "power", "(JJ)J"⟩) (⟨"GraphHouse$Ways", "<init>", "()V"⟩)))) (cond (Nat.blt m 193) (cond (Nat.blt m 191) (⟨"GraphHouse$Ways", "leastWeight", "(LGraphHouse$Graph;II)J"⟩) (cond (Nat.blt m 192) (⟨"GraphHouse$Ways", "leastArc", "(LGraphHouse$Graph;III)I"⟩) (⟨"GraphHouse$Ways", "stepFrom", "(LGraphHouse$Graph;I)I"⟩))) (cond (Nat.blt m 195) (cond (Nat.blt m 194) (⟨"GraphHouse$Ways", "costOf", "(LGraphHouse$Graph;I)J"⟩) (⟨"GraphHouse$Ways", "measure", "(LGraphHouse$Graph;I)V"⟩)) (cond (Nat.blt m 196) (⟨"GraphHouse$Ways", "relax", "(LGraphHouse$Graph;I)I"⟩) (⟨"GraphHouse$Ways", "widest", "(LGraphHouse$Graph;II)I"⟩))))) (cond (Nat.blt m 204) (cond (Nat.blt m 200) (cond (Nat.blt m 198) (⟨"GraphHouse$Ways", "widestOf", "(I)I"⟩) (cond (Nat.blt m 199) (⟨"GraphHouse$Ways", "fewestArcs", "(LGraphHouse$Graph;II)I"⟩) (⟨"GraphHouse$Ways", "countBy", "(LGraphHouse$Graph;III)I"⟩))) (cond (Nat.blt m 202) (cond (Nat.blt m 201) (⟨"GraphHouse$Ways", "spread", "(LGraphHouse$Graph;I)V"⟩) (⟨"GraphHouse$Ways", "countShort", "(LGraphHouse$Graph;II)I"⟩)) (cond (Nat.blt m 203) (⟨"GraphHouse$Ways", "arcOfShort", "(LGraphHouse$Graph;IIII)I"⟩) (⟨"GraphHouse$Ways", "collect", "(LGraphHouse$Graph;II)V"⟩)))) (cond (Nat.blt m 207) (cond (Nat.blt m 205) (⟨"GraphHouse$Ways", "gather", "(LGraphHouse$Graph;IIIJ)V"⟩) (cond (Nat.blt m 206) (⟨"GraphHouse$Ways", "leads", "(LGraphHouse$Graph;III)Z"⟩) (⟨"GraphHouse$Ways", "sortKeys", "()V"⟩))) (cond (Nat.blt m 209) (cond (Nat.blt m 208) (⟨"GraphHouse", "<init>", "()V"⟩) (⟨"GraphHouse", "node", "(I)I"⟩)) (cond (Nat.blt m 210) (⟨"GraphHouse", "arc", "(IIIII)I"⟩) (⟨"GraphHouse", "take", "(I)I"⟩))))))))) (cond (Nat.blt m 316) (cond (Nat.blt m 263) (cond (Nat.blt m 237) (cond (Nat.blt m 224) (cond (Nat.blt m 217) (cond (Nat.blt m 214) (cond (Nat.blt m 212) (⟨"GraphHouse", "set", "(III)I"⟩) (cond (Nat.blt m 213) (⟨"GraphHouse", "label", "(II)I"⟩) (⟨"GraphHouse", "view", "(I)I"⟩))) (cond (Nat.blt m 215) (⟨"GraphHouse", "version", "()I"⟩) (cond (Nat.blt m 216) (⟨"GraphHouse", "size", "(I)I"⟩) (⟨"GraphHouse", "told", "(II)J"⟩)))) (cond (Nat.blt m 220) (cond (Nat.blt m 218) (⟨"GraphHouse", "labelOf", "(I)I"⟩) (cond (Nat.blt m 219) (⟨"GraphHouse", "arcAt", "(III)I"⟩) (⟨"GraphHouse", "type", "(I)I"⟩))) (cond (Nat.blt m 222) (cond (Nat.blt m 221) (⟨"GraphHouse", "wipe", "()I"⟩) (⟨"GraphHouse", "load", "()I"⟩)) (cond (Nat.blt m 223) (⟨"GraphHouse", "fault", "(I)I"⟩) (⟨"GraphHouse", "print", "()I"⟩))))) (cond (Nat.blt m 230) (cond (Nat.blt m 227) (cond (Nat.blt m 225) (⟨"GraphHouse", "printed", "(I)I"⟩) (cond (Nat.blt m 226) (⟨"GraphHouse", "distance", "(II)J"⟩) (⟨"GraphHouse", "way", "(III)I"⟩))) (cond (Nat.blt m 228) (⟨"GraphHouse", "width", "(II)I"⟩) (cond (Nat.blt m 229) (⟨"GraphHouse", "shorts", "(II)I"⟩) (⟨"GraphHouse", "shortArc", "(IIII)I"⟩)))) (cond (Nat.blt m 233) (cond (Nat.blt m 231) (⟨"GraphHouse", "part", "(II)I"⟩) (cond (Nat.blt m 232) (⟨"GraphHouse", "bridge", "(I)Z"⟩) (⟨"GraphHouse", "cut", "(I)Z"⟩))) (cond (Nat.blt m 235) (cond (Nat.blt m 234) (⟨"GraphHouse", "order", "(I)I"⟩) (⟨"GraphHouse", "core", "(I)I"⟩)) (cond (Nat.blt m 236) (⟨"GraphHouse", "clique", "(I)I"⟩) (⟨"GraphHouse", "colour", "(I)I"⟩)))))) (cond (Nat.blt m 250) (cond (Nat.blt m 243) (cond (Nat.blt m 240) (cond (Nat.blt m 238) (⟨"GraphHouse", "flow", "(II)J"⟩) (cond (Nat.blt m 239) (⟨"GraphHouse", "side", "(III)Z"⟩) (⟨"GraphHouse", "cost", "(III)J"⟩))) (cond (Nat.blt m 241) (⟨"GraphHouse", "pairing", "(I)J"⟩) (cond (Nat.blt m 242) (⟨"GraphHouse", "tree", "(I)J"⟩) (⟨"GraphHouse", "span", "(I)Z"⟩)))) (cond (Nat.blt m 246) (cond (Nat.blt m 244) (⟨"GraphHouse", "trees", "()I"⟩) (cond (Nat.blt m 245) (⟨"GraphHouse", "rank", "(II)J"⟩) (⟨"GraphHouse", "shortest", "(IIII)I"⟩))) (cond (Nat.blt m 248) (cond (Nat.blt m 247) (⟨"GraphHouse", "group", "(I)I"⟩) (⟨"GraphHouse", "gain", "()J"⟩)) (cond (Nat.blt m 249) (⟨"GraphHouse", "figures", "(I)J"⟩) (⟨"GraphHouse", "pattern", "()I"⟩))))) (cond (Nat.blt m 256) (cond (Nat.blt m 253) (cond (Nat.blt m 251) (⟨"GraphHouse", "fits", "(II)I"⟩) (cond (Nat.blt m 252) (⟨"GraphHouse", "program", "()I"⟩) (⟨"GraphHouse", "run", "(IIIJ)I"⟩))) (cond (Nat.blt m 254) (⟨"GraphHouse", "state", "(I)J"⟩) (cond (Nat.blt m 255) (⟨"GraphHouse", "letters", "(I)I"⟩) (⟨"GraphHouse", "graph", "()LGraphHouse$Graph;"⟩)))) (cond (Nat.blt m 259) (cond (Nat.blt m 257) (⟨"GraphHouse", "isLetter", "(I)Z"⟩) (cond (Nat.blt m 258) (⟨"GraphHouse", "isWeight", "(I)Z"⟩) (⟨"GraphHouse", "isRoom", "(I)Z"⟩))) (cond (Nat.blt m 261) (cond (Nat.blt m 260) (⟨"GraphHouse", "isGoodValue", "(II)Z"⟩) (⟨"GraphHouse", "lowest", "(I)I"⟩)) (cond (Nat.blt m 262) (⟨"GraphHouse", "lowestOfLong", "(J)I"⟩) (⟨"GraphHouse", "flood", "([III)I"⟩))))))) (cond (Nat.blt m 289) (cond (Nat.blt m 276) (cond (Nat.blt m 269) (cond (Nat.blt m 266) (cond (Nat.blt m 264) (⟨"GraphHouseModel", "<init>", "()V"⟩) (cond (Nat.blt m 265) (⟨"GraphHouseModel", "thrown", "()I"⟩) (⟨"GraphHouseModel", "in", "(JJJ)Z"⟩))) (cond (Nat.blt m 267) (⟨"GraphHouseModel", "fails", "(ZZ)Z"⟩) (cond (Nat.blt m 268) (⟨"GraphHouseModel", "wrongArgument", "(Z)Z"⟩) (⟨"GraphHouseModel", "isNode", "(I)Z"⟩)))) (cond (Nat.blt m 272) (cond (Nat.blt m 270) (⟨"GraphHouseModel", "isArc", "(I)Z"⟩) (cond (Nat.blt m 271) (⟨"GraphHouseModel", "make", "(IIIIIII)V"⟩) (⟨"GraphHouseModel", "apply", "(II)V"⟩))) (cond (Nat.blt m 274) (cond (Nat.blt m 273) (⟨"GraphHouseModel", "look", "()V"⟩) (⟨"GraphHouseModel", "isNewNode", "(I)Z"⟩)) (cond (Nat.blt m 275) (⟨"GraphHouseModel", "isNewArc", "(I)Z"⟩) (⟨"GraphHouseModel", "isWeight", "(I)Z"⟩))))) (cond (Nat.blt m 282) (cond (Nat.blt m 279) (cond (Nat.blt m 277) (⟨"GraphHouseModel", "freePlace", "(I)I"⟩) (cond (Nat.blt m 278) (⟨"GraphHouseModel", "node", "(I)I"⟩) (⟨"GraphHouseModel", "arc", "(IIIII)I"⟩))) (cond (Nat.blt m 280) (⟨"GraphHouseModel", "take", "(I)I"⟩) (cond (Nat.blt m 281) (⟨"GraphHouseModel", "set", "(III)I"⟩) (⟨"GraphHouseModel", "label", "(II)I"⟩)))) (cond (Nat.blt m 285) (cond (Nat.blt m 283) (⟨"GraphHouseModel", "view", "(I)I"⟩) (cond (Nat.blt m 284) (⟨"GraphHouseModel", "version", "()I"⟩) (⟨"GraphHouseModel", "isJoint", "(I)Z"⟩))) (cond (Nat.blt m 287) (cond (Nat.blt m 286) (⟨"GraphHouseModel", "size", "(I)I"⟩) (⟨"GraphHouseModel", "told", "(II)J"⟩)) (cond (Nat.blt m 288) (⟨"GraphHouseModel", "labelOf", "(I)I"⟩) (⟨"GraphHouseModel", "arcAt", "(III)I"⟩)))))) (cond (Nat.blt m 302) (cond (Nat.blt m 295) (cond (Nat.blt m 292) (cond (Nat.blt m 290) (⟨"GraphHouseModel", "type", "(I)I"⟩) (cond (Nat.blt m 291) (⟨"GraphHouseModel", "wipe", "()I"⟩) (⟨"GraphHouseModel", "fault", "(I)I"⟩))) (cond (Nat.blt m 293) (⟨"GraphHouseModel", "isLetter", "(I)Z"⟩) (cond (Nat.blt m 294) (⟨"GraphHouseModel", "isDigit", "(I)Z"⟩) (⟨"GraphHouseModel", "blame", "(II)V"⟩)))) (cond (Nat.blt m 298) (cond (Nat.blt m 296) (⟨"GraphHouseModel", "nextToken", "()V"⟩) (cond (Nat.blt m 297) (⟨"GraphHouseModel", "readNumber", "(I)V"⟩) (⟨"GraphHouseModel", "shape", "(II)I"⟩))) (cond (Nat.blt m 300) (cond (Nat.blt m 299) (⟨"GraphHouseModel", "load", "()I"⟩) (⟨"GraphHouseModel", "copyGraph", "()V"⟩)) (cond (Nat.blt m 301) (⟨"GraphHouseModel", "command", "()V"⟩) (⟨"GraphHouseModel", "isDone", "(II)Z"⟩))))) (cond (Nat.blt m 309) (cond (Nat.blt m 305) (cond (Nat.blt m 303) (⟨"GraphHouseModel", "put", "(I)V"⟩) (cond (Nat.blt m 304) (⟨"GraphHouseModel", "putNumber", "(I)V"⟩) (⟨"GraphHouseModel", "print", "()I"⟩))) (cond (Nat.blt m 307) (cond (Nat.blt m 306) (⟨"GraphHouseModel", "printed", "(I)I"⟩) (⟨"GraphHouseModel", "close", "(ZII)V"⟩)) (cond (Nat.blt m 308) (⟨"GraphHouseModel", "has", "(II)Z"⟩) (⟨"GraphHouseModel", "toGoal", "(II)Z"⟩)))) (cond (Nat.blt m 312) (cond (Nat.blt m 310) (⟨"GraphHouseModel", "fewest", "(II)V"⟩) (cond (Nat.blt m 311) (⟨"GraphHouseModel", "between", "(II)I"⟩) (⟨"GraphHouseModel", "distance", "(II)J"⟩))) (cond (Nat.blt m 314) (cond (Nat.blt m 313) (⟨"GraphHouseModel", "way", "(III)I"⟩) (⟨"GraphHouseModel", "width", "(II)I"⟩)) (cond (Nat.blt m 315) (⟨"GraphHouseModel", "addShort", "(IIIII)V"⟩) (⟨"GraphHouseModel", "goesOn", "(III)Z"⟩)))))))) (cond (Nat.blt m 369) (cond (Nat.blt m 342) (cond (Nat.blt m 329) (cond (Nat.blt m 322) (cond (Nat.blt m 319) (cond (Nat.blt m 317) (⟨"GraphHouseModel", "findShorts", "(II)V"⟩) (cond (Nat.blt m 318) (⟨"GraphHouseModel", "second", "(IIII)V"⟩) (⟨"GraphHouseModel", "third", "(IIIII)V"⟩))) (cond (Nat.blt m 320) (⟨"GraphHouseModel", "isBefore", "(II)Z"⟩) (cond (Nat.blt m 321) (⟨"GraphHouseModel", "sortShorts", "()V"⟩) (⟨"GraphHouseModel", "shorts", "(II)I"⟩)))) (cond (Nat.blt m 325) (cond (Nat.blt m 323) (⟨"GraphHouseModel", "shortArc", "(IIII)I"⟩) (cond (Nat.blt m 324) (⟨"GraphHouseModel", "least", "(I)I"⟩) (⟨"GraphHouseModel", "part", "(II)I"⟩))) (cond (Nat.blt m 327) (cond (Nat.blt m 326) (⟨"GraphHouseModel", "weakParts", "(II)I"⟩) (⟨"GraphHouseModel", "bridge", "(I)Z"⟩)) (cond (Nat.blt m 328) (⟨"GraphHouseModel", "cut", "(I)Z"⟩) (⟨"GraphHouseModel", "order", "(I)I"⟩))))) (cond (Nat.blt m 335) (cond (Nat.blt m 332) (cond (Nat.blt m 330) (⟨"GraphHouseModel", "jointsWith", "(II)I"⟩) (cond (Nat.blt m 331) (⟨"GraphHouseModel", "core", "(I)I"⟩) (⟨"GraphHouseModel", "findBeside", "()V"⟩))) (cond (Nat.blt m 333) (⟨"GraphHouseModel", "count", "(I)I"⟩) (cond (Nat.blt m 334) (⟨"GraphHouseModel", "findClique", "()I"⟩) (⟨"GraphHouseModel", "clique", "(I)I"⟩)))) (cond (Nat.blt m 338) (cond (Nat.blt m 336) (⟨"GraphHouseModel", "barsOf", "(I)I"⟩) (cond (Nat.blt m 337) (⟨"GraphHouseModel", "tightest", "(I)I"⟩) (⟨"GraphHouseModel", "tough", "(I)I"⟩))) (cond (Nat.blt m 340) (cond (Nat.blt m 339) (⟨"GraphHouseModel", "hanging", "(II)I"⟩) (⟨"GraphHouseModel", "isColourable", "(I)Z"⟩)) (cond (Nat.blt m 341) (⟨"GraphHouseModel", "begin", "(IIII)V"⟩) (⟨"GraphHouseModel", "isPartColourable", "(II)Z"⟩)))))) (cond (Nat.blt m 355) (cond (Nat.blt m 348) (cond (Nat.blt m 345) (cond (Nat.blt m 343) (⟨"GraphHouseModel", "capped", "(II)I"⟩) (cond (Nat.blt m 344) (⟨"GraphHouseModel", "colour", "(I)I"⟩) (⟨"GraphHouseModel", "search", "(I)V"⟩))) (cond (Nat.blt m 346) (⟨"GraphHouseModel", "before", "(I)I"⟩) (cond (Nat.blt m 347) (⟨"GraphHouseModel", "roomOn", "(I)J"⟩) (⟨"GraphHouseModel", "push", "(IJ)V"⟩)))) (cond (Nat.blt m 351) (cond (Nat.blt m 349) (⟨"GraphHouseModel", "most", "(II)J"⟩) (cond (Nat.blt m 350) (⟨"GraphHouseModel", "twoNodes", "(II)Z"⟩) (⟨"GraphHouseModel", "flow", "(II)J"⟩))) (cond (Nat.blt m 353) (cond (Nat.blt m 352) (⟨"GraphHouseModel", "side", "(III)Z"⟩) (⟨"GraphHouseModel", "cheapest", "(I)V"⟩)) (cond (Nat.blt m 354) (⟨"GraphHouseModel", "cost", "(III)J"⟩) (⟨"GraphHouseModel", "sends", "(I)Z"⟩))))) (cond (Nat.blt m 362) (cond (Nat.blt m 358) (cond (Nat.blt m 356) (⟨"GraphHouseModel", "isFirstSort", "(I)Z"⟩) (cond (Nat.blt m 357) (⟨"GraphHouseModel", "pairUp", "()V"⟩) (⟨"GraphHouseModel", "cheapestPair", "()I"⟩))) (cond (Nat.blt m 360) (cond (Nat.blt m 359) (⟨"GraphHouseModel", "pairing", "(I)J"⟩) (⟨"GraphHouseModel", "tree", "(I)J"⟩)) (cond (Nat.blt m 361) (⟨"GraphHouseModel", "rings", "(II)I"⟩) (⟨"GraphHouseModel", "span", "(I)Z"⟩)))) (cond (Nat.blt m 365) (cond (Nat.blt m 363) (⟨"GraphHouseModel", "orderOf", "(II)J"⟩) (cond (Nat.blt m 364) (⟨"GraphHouseModel", "power", "(JJ)J"⟩) (⟨"GraphHouseModel", "trees", "()I"⟩))) (cond (Nat.blt m 367) (cond (Nat.blt m 366) (⟨"GraphHouseModel", "rank", "(II)J"⟩) (⟨"GraphHouseModel", "hop", "(IZ[I[J)V"⟩)) (cond (Nat.blt m 368) (⟨"GraphHouseModel", "shortest", "(IIII)I"⟩) (⟨"GraphHouseModel", "gainOf", "(II)J"⟩))))))) (cond (Nat.blt m 395) (cond (Nat.blt m 382) (cond (Nat.blt m 375) (cond (Nat.blt m 372) (cond (Nat.blt m 370) (⟨"GraphHouseModel", "gainIn", "(II)J"⟩) (cond (Nat.blt m 371) (⟨"GraphHouseModel", "findGroups", "()V"⟩) (⟨"GraphHouseModel", "leastOf", "(II)I"⟩))) (cond (Nat.blt m 373) (⟨"GraphHouseModel", "bestGroup", "(I)I"⟩) (cond (Nat.blt m 374) (⟨"GraphHouseModel", "freeGroup", "()I"⟩) (⟨"GraphHouseModel", "group", "(I)I"⟩)))) (cond (Nat.blt m 378) (cond (Nat.blt m 376) (⟨"GraphHouseModel", "gain", "()J"⟩) (cond (Nat.blt m 377) (⟨"GraphHouseModel", "figures", "(I)J"⟩) (⟨"GraphHouseModel", "beginAlternative", "()V"⟩))) (cond (Nat.blt m 380) (cond (Nat.blt m 379) (⟨"GraphHouseModel", "beginSequence", "()V"⟩) (⟨"GraphHouseModel", "follow", "(JJ)V"⟩)) (cond (Nat.blt m 381) (⟨"GraphHouseModel", "flush", "()V"⟩) (⟨"GraphHouseModel", "endSequence", "()V"⟩))))) (cond (Nat.blt m 388) (cond (Nat.blt m 385) (cond (Nat.blt m 383) (⟨"GraphHouseModel", "pattern", "()I"⟩) (cond (Nat.blt m 384) (⟨"GraphHouseModel", "setAtom", "(ZJJ)V"⟩) (⟨"GraphHouseModel", "sign", "(II)V"⟩))) (cond (Nat.blt m 386) (⟨"GraphHouseModel", "fits", "(II)I"⟩) (cond (Nat.blt m 387) (⟨"GraphHouseModel", "goOn", "(IJII)I"⟩) (⟨"GraphHouseModel", "program0", "()V"⟩)))) (cond (Nat.blt m 391) (cond (Nat.blt m 389) (⟨"GraphHouseModel", "nextOfProgram", "()V"⟩) (cond (Nat.blt m 390) (⟨"GraphHouseModel", "add", "(II)V"⟩) (⟨"GraphHouseModel", "nameOf", "(I)I"⟩))) (cond (Nat.blt m 393) (cond (Nat.blt m 392) (⟨"GraphHouseModel", "top", "()I"⟩) (⟨"GraphHouseModel", "hold", "(I)V"⟩)) (cond (Nat.blt m 394) (⟨"GraphHouseModel", "drop", "()V"⟩) (⟨"GraphHouseModel", "strength", "(I)I"⟩)))))) (cond (Nat.blt m 408) (cond (Nat.blt m 401) (cond (Nat.blt m 398) (cond (Nat.blt m 396) (⟨"GraphHouseModel", "settle", "(I)V"⟩) (cond (Nat.blt m 397) (⟨"GraphHouseModel", "turn", "()V"⟩) (⟨"GraphHouseModel", "factor", "()Z"⟩))) (cond (Nat.blt m 399) (⟨"GraphHouseModel", "behindFactor", "(Z)I"⟩) (cond (Nat.blt m 400) (⟨"GraphHouseModel", "expression", "(Z)V"⟩) (⟨"GraphHouseModel", "program", "()I"⟩)))) (cond (Nat.blt m 404) (cond (Nat.blt m 402) (⟨"GraphHouseModel", "fit", "(J)J"⟩) (cond (Nat.blt m 403) (⟨"GraphHouseModel", "product", "(JJ)J"⟩) (⟨"GraphHouseModel", "nameAll", "(II)V"⟩))) (cond (Nat.blt m 406) (cond (Nat.blt m 405) (⟨"GraphHouseModel", "workOut", "(I)J"⟩) (⟨"GraphHouseModel", "run", "(IIIJ)I"⟩)) (cond (Nat.blt m 407) (⟨"GraphHouseModel", "goesTo", "(III)Z"⟩) (⟨"GraphHouseModel", "send", "(IIJ)V"⟩))))) (cond (Nat.blt m 415) (cond (Nat.blt m 411) (cond (Nat.blt m 409) (⟨"GraphHouseModel", "state", "(I)J"⟩) (cond (Nat.blt m 410) (⟨"GraphHouseModel", "letters", "(I)I"⟩) (⟨"java/lang/Integer", "bitCount", "(I)I"⟩))) (cond (Nat.blt m 413) (cond (Nat.blt m 412) (⟨"java/lang/Long", "bitCount", "(J)I"⟩) (⟨"java/lang/Math", "floorDiv", "(JJ)J"⟩)) (cond (Nat.blt m 414) (⟨"java/lang/Math", "floorMod", "(JJ)J"⟩) (⟨"java/lang/Math", "abs", "(I)I"⟩)))) (cond (Nat.blt m 418) (cond (Nat.blt m 416) (⟨"java/lang/Math", "abs", "(J)J"⟩) (cond (Nat.blt m 417) (⟨"java/lang/Math", "max", "(II)I"⟩) (⟨"java/lang/Math", "max", "(JJ)J"⟩))) (cond (Nat.blt m 420) (cond (Nat.blt m 419) (⟨"java/lang/Math", "min", "(II)I"⟩) (⟨"java/lang/Math", "min", "(JJ)J"⟩)) (cond (Nat.blt m 421) (⟨"java/util/Arrays", "fill", "([JJ)V"⟩) (⟨"java/util/Arrays", "fill", "([II)V"⟩)))))))))
def xc (m : Nat) : ByteArray := cond (Nat.blt m 211) (cond (Nat.blt m 105) (cond (Nat.blt m 52) (cond (Nat.blt m 26) (cond (Nat.blt m 13) (cond (Nat.blt m 6) (cond (Nat.blt m 3) (cond (Nat.blt m 1) (code) (cond (Nat.blt m 2) (cL_node) (cL_arc))) (cond (Nat.blt m 4) (cL_take) (cond (Nat.blt m 5) (cL_set) (cL_label)))) (cond (Nat.blt m 9) (cond (Nat.blt m 7) (cL_view) (cond (Nat.blt m 8) (cL_size) (cL_told))) (cond (Nat.blt m 11) (cond (Nat.blt m 10) (cL_labelOf) (cL_arcAt)) (cond (Nat.blt m 12) (cL_type) (cL_fault))))) (cond (Nat.blt m 19) (cond (Nat.blt m 16) (cond (Nat.blt m 14) (cL_printed) (cond (Nat.blt m 15) (cL_distance) (cL_way))) (cond (Nat.blt m 17) (cL_width) (cond (Nat.blt m 18) (cL_shorts) (cL_shortArc)))) (cond (Nat.blt m 22) (cond (Nat.blt m 20) (cL_part) (cond (Nat.blt m 21) (cL_bridge) (cL_cut))) (cond (Nat.blt m 24) (cond (Nat.blt m 23) (cL_order) (cL_core)) (cond (Nat.blt m 25) (cL_clique) (cL_colour)))))) (cond (Nat.blt m 39) (cond (Nat.blt m 32) (cond (Nat.blt m 29) (cond (Nat.blt m 27) (cL_flow) (cond (Nat.blt m 28) (cL_side) (cL_cost))) (cond (Nat.blt m 30) (cL_pairing) (cond (Nat.blt m 31) (cL_tree) (cL_span)))) (cond (Nat.blt m 35) (cond (Nat.blt m 33) (cL_rank) (cond (Nat.blt m 34) (cL_shortest) (cL_group))) (cond (Nat.blt m 37) (cond (Nat.blt m 36) (cL_figures) (cL_fits)) (cond (Nat.blt m 38) (cL_run) (cL_state))))) (cond (Nat.blt m 45) (cond (Nat.blt m 42) (cond (Nat.blt m 40) (cL_letters) (cond (Nat.blt m 41) (cX0_init) (cX0_greatestClique))) (cond (Nat.blt m 43) (cX0_growClique) (cond (Nat.blt m 44) (cX0_colourOf) (cX0_makeColours)))) (cond (Nat.blt m 48) (cond (Nat.blt m 46) (cX0_classOf) (cond (Nat.blt m 47) (cX0_fill) (cX0_fillPiece))) (cond (Nat.blt m 50) (cond (Nat.blt m 49) (cX0_besides) (cX0_setAside)) (cond (Nat.blt m 51) (cX0_takeBack) (cX0_freeColours))))))) (cond (Nat.blt m 78) (cond (Nat.blt m 65) (cond (Nat.blt m 58) (cond (Nat.blt m 55) (cond (Nat.blt m 53) (cX0_tightest) (cond (Nat.blt m 54) (cX0_lessen) (cX0_canLower))) (cond (Nat.blt m 56) (cX1_init) (cond (Nat.blt m 57) (cX1_adopt) (cX1_emit)))) (cond (Nat.blt m 61) (cond (Nat.blt m 59) (cX1_readExpression) (cond (Nat.blt m 60) (cX1_readSum) (cX1_readProduct))) (cond (Nat.blt m 63) (cond (Nat.blt m 62) (cX1_readFactor) (cX1_readAtom)) (cond (Nat.blt m 64) (cX1_work) (cX1_doRound))))) (cond (Nat.blt m 71) (cond (Nat.blt m 68) (cond (Nat.blt m 66) (cX1_look) (cond (Nat.blt m 67) (cX1_compute) (cX1_combine))) (cond (Nat.blt m 69) (cX1_times) (cond (Nat.blt m 70) (cX1_clip) (cX1_post)))) (cond (Nat.blt m 74) (cond (Nat.blt m 72) (cX1_lettersOf) (cond (Nat.blt m 73) (cX1_sendAll) (cX1_draw))) (cond (Nat.blt m 76) (cond (Nat.blt m 75) (cX2_init) (cX2_greatest)) (cond (Nat.blt m 77) (cX2_openAll) (cX2_reach)))))) (cond (Nat.blt m 91) (cond (Nat.blt m 84) (cond (Nat.blt m 81) (cond (Nat.blt m 79) (cX2_push) (cond (Nat.blt m 80) (cX2_cheapest) (cX2_layArc))) (cond (Nat.blt m 82) (cX2_lay) (cond (Nat.blt m 83) (cX2_nearestLack) (cX2_relaxPipe)))) (cond (Nat.blt m 87) (cond (Nat.blt m 85) (cX2_carryTo) (cond (Nat.blt m 86) (cX2_pair) (cX2_isLow))) (cond (Nat.blt m 89) (cond (Nat.blt m 88) (cX3_init) (cX3_clear)) (cond (Nat.blt m 90) (cX3_copyOf) (cX3_hasNode))))) (cond (Nat.blt m 98) (cond (Nat.blt m 94) (cond (Nat.blt m 92) (cX3_hasTwo) (cond (Nat.blt m 93) (cX3_hasArc) (cX3_isJoint))) (cond (Nat.blt m 96) (cond (Nat.blt m 95) (cX3_joints) (cX3_countJoints)) (cond (Nat.blt m 97) (cX3_valueOf) (cX3_freePlace)))) (cond (Nat.blt m 101) (cond (Nat.blt m 99) (cX3_allNodes) (cond (Nat.blt m 100) (cX3_outCount) (cX3_inCount))) (cond (Nat.blt m 103) (cond (Nat.blt m 102) (cX3_dropAt) (cX3_tie)) (cond (Nat.blt m 104) (cX3_tieEnds) (cX4_init)))))))) (cond (Nat.blt m 158) (cond (Nat.blt m 131) (cond (Nat.blt m 118) (cond (Nat.blt m 111) (cond (Nat.blt m 108) (cond (Nat.blt m 106) (cX4_unitsOf) (cond (Nat.blt m 107) (cX4_shareOut) (cX4_groupOf))) (cond (Nat.blt m 109) (cX4_totalGain) (cond (Nat.blt m 110) (cX4_settle) (cX4_begin)))) (cond (Nat.blt m 114) (cond (Nat.blt m 112) (cX4_settleNode) (cond (Nat.blt m 113) (cX4_isBetter) (cX4_countLinks))) (cond (Nat.blt m 116) (cond (Nat.blt m 115) (cX4_score) (cX4_freeGroup)) (cond (Nat.blt m 117) (cX4_moveTo) (cX5_init))))) (cond (Nat.blt m 124) (cond (Nat.blt m 121) (cond (Nat.blt m 119) (cX5_isFull) (cond (Nat.blt m 120) (cX5_isGoodArc) (cX5_addNode))) (cond (Nat.blt m 122) (cX5_addArc) (cond (Nat.blt m 123) (cX5_dropArc) (cX5_changeArc)))) (cond (Nat.blt m 127) (cond (Nat.blt m 125) (cX5_relabel) (cond (Nat.blt m 126) (cX5_note) (cX5_openRow))) (cond (Nat.blt m 129) (cond (Nat.blt m 128) (cX5_apply) (cX5_applyArc)) (cond (Nat.blt m 130) (cX5_applyValue) (cX5_replay)))))) (cond (Nat.blt m 144) (cond (Nat.blt m 137) (cond (Nat.blt m 134) (cond (Nat.blt m 132) (cX5_carryOut) (cond (Nat.blt m 133) (cX5_readCommand) (cX5_shapeOf))) (cond (Nat.blt m 135) (cX5_doCommand) (cond (Nat.blt m 136) (cX6_init) (cX6_strongPart)))) (cond (Nat.blt m 140) (cond (Nat.blt m 138) (cX6_weakPart) (cond (Nat.blt m 139) (cX6_isBridge) (cX6_isCut))) (cond (Nat.blt m 142) (cond (Nat.blt m 141) (cX6_ordered) (cX6_makeOrder)) (cond (Nat.blt m 143) (cX6_firstFree) (cX6_coreOf))))) (cond (Nat.blt m 151) (cond (Nat.blt m 147) (cond (Nat.blt m 145) (cX6_peel) (cond (Nat.blt m 146) (cX6_loosest) (cX6_loosen))) (cond (Nat.blt m 149) (cond (Nat.blt m 148) (cX6_triangles) (cX6_squares)) (cond (Nat.blt m 150) (cX7_init) (cX7_adopt)))) (cond (Nat.blt m 154) (cond (Nat.blt m 152) (cX7_isGood) (cond (Nat.blt m 153) (cX7_judge) (cX7_isAtom))) (cond (Nat.blt m 156) (cond (Nat.blt m 155) (cX7_build) (cX7_closeBars)) (cond (Nat.blt m 157) (cX7_layPlace) (cX7_layRepeat))))))) (cond (Nat.blt m 184) (cond (Nat.blt m 171) (cond (Nat.blt m 164) (cond (Nat.blt m 161) (cond (Nat.blt m 159) (cX7_close) (cond (Nat.blt m 160) (cX7_leastFit) (cX7_step))) (cond (Nat.blt m 162) (cX7_behind) (cond (Nat.blt m 163) (cX8_init) (cX8_begin)))) (cond (Nat.blt m 167) (cond (Nat.blt m 165) (cX8_accuse) (cond (Nat.blt m 166) (cX8_refuse) (cX8_isAt))) (cond (Nat.blt m 169) (cond (Nat.blt m 168) (cX8_next) (cX8_isDigit)) (cond (Nat.blt m 170) (cX8_readNumber) (cX8_isSign))))) (cond (Nat.blt m 177) (cond (Nat.blt m 174) (cond (Nat.blt m 172) (cX8_write) (cond (Nat.blt m 173) (cX8_endCommand) (cX8_put))) (cond (Nat.blt m 175) (cX8_putNumber) (cond (Nat.blt m 176) (cX9_init) (cX9_leastRooted)))) (cond (Nat.blt m 180) (cond (Nat.blt m 178) (cX9_copyArcs) (cond (Nat.blt m 179) (cX9_takeCheapest) (cX9_nameRings))) (cond (Nat.blt m 182) (cond (Nat.blt m 181) (cX9_nameOthers) (cX9_shrinkRings)) (cond (Nat.blt m 183) (cX9_isSpanning) (cX9_isBefore)))))) (cond (Nat.blt m 197) (cond (Nat.blt m 190) (cond (Nat.blt m 187) (cond (Nat.blt m 185) (cX9_countSpanning) (cond (Nat.blt m 186) (cX9_countTrees) (cX9_pivot))) (cond (Nat.blt m 188) (cX9_swapRows) (cond (Nat.blt m 189) (cX9_power) (cX10_init)))) (cond (Nat.blt m 193) (cond (Nat.blt m 191) (cX10_leastWeight) (cond (Nat.blt m 192) (cX10_leastArc) (cX10_stepFrom))) (cond (Nat.blt m 195) (cond (Nat.blt m 194) (cX10_costOf) (cX10_measure)) (cond (Nat.blt m 196) (cX10_relax) (cX10_widest))))) (cond (Nat.blt m 204) (cond (Nat.blt m 200) (cond (Nat.blt m 198) (cX10_widestOf) (cond (Nat.blt m 199) (cX10_fewestArcs) (cX10_countBy))) (cond (Nat.blt m 202) (cond (Nat.blt m 201) (cX10_spread) (cX10_countShort)) (cond (Nat.blt m 203) (cX10_arcOfShort) (cX10_collect)))) (cond (Nat.blt m 207) (cond (Nat.blt m 205) (cX10_gather) (cond (Nat.blt m 206) (cX10_leads) (cX10_sortKeys))) (cond (Nat.blt m 209) (cond (Nat.blt m 208) (cX11_init) (cX11_node)) (cond (Nat.blt m 210) (cX11_arc) (cX11_take))))))))) (cond (Nat.blt m 316) (cond (Nat.blt m 263) (cond (Nat.blt m 237) (cond (Nat.blt m 224) (cond (Nat.blt m 217) (cond (Nat.blt m 214) (cond (Nat.blt m 212) (cX11_set) (cond (Nat.blt m 213) (cX11_label) (cX11_view))) (cond (Nat.blt m 215) (cX11_version) (cond (Nat.blt m 216) (cX11_size) (cX11_told)))) (cond (Nat.blt m 220) (cond (Nat.blt m 218) (cX11_labelOf) (cond (Nat.blt m 219) (cX11_arcAt) (cX11_type))) (cond (Nat.blt m 222) (cond (Nat.blt m 221) (cX11_wipe) (cX11_load)) (cond (Nat.blt m 223) (cX11_fault) (cX11_print))))) (cond (Nat.blt m 230) (cond (Nat.blt m 227) (cond (Nat.blt m 225) (cX11_printed) (cond (Nat.blt m 226) (cX11_distance) (cX11_way))) (cond (Nat.blt m 228) (cX11_width) (cond (Nat.blt m 229) (cX11_shorts) (cX11_shortArc)))) (cond (Nat.blt m 233) (cond (Nat.blt m 231) (cX11_part) (cond (Nat.blt m 232) (cX11_bridge) (cX11_cut))) (cond (Nat.blt m 235) (cond (Nat.blt m 234) (cX11_order) (cX11_core)) (cond (Nat.blt m 236) (cX11_clique) (cX11_colour)))))) (cond (Nat.blt m 250) (cond (Nat.blt m 243) (cond (Nat.blt m 240) (cond (Nat.blt m 238) (cX11_flow) (cond (Nat.blt m 239) (cX11_side) (cX11_cost))) (cond (Nat.blt m 241) (cX11_pairing) (cond (Nat.blt m 242) (cX11_tree) (cX11_span)))) (cond (Nat.blt m 246) (cond (Nat.blt m 244) (cX11_trees) (cond (Nat.blt m 245) (cX11_rank) (cX11_shortest))) (cond (Nat.blt m 248) (cond (Nat.blt m 247) (cX11_group) (cX11_gain)) (cond (Nat.blt m 249) (cX11_figures) (cX11_pattern))))) (cond (Nat.blt m 256) (cond (Nat.blt m 253) (cond (Nat.blt m 251) (cX11_fits) (cond (Nat.blt m 252) (cX11_program) (cX11_run))) (cond (Nat.blt m 254) (cX11_state) (cond (Nat.blt m 255) (cX11_letters) (cX11_graph)))) (cond (Nat.blt m 259) (cond (Nat.blt m 257) (cX11_isLetter) (cond (Nat.blt m 258) (cX11_isWeight) (cX11_isRoom))) (cond (Nat.blt m 261) (cond (Nat.blt m 260) (cX11_isGoodValue) (cX11_lowest)) (cond (Nat.blt m 262) (cX11_lowestOfLong) (cX11_flood))))))) (cond (Nat.blt m 289) (cond (Nat.blt m 276) (cond (Nat.blt m 269) (cond (Nat.blt m 266) (cond (Nat.blt m 264) (cX12_init) (cond (Nat.blt m 265) (cX12_thrown) (cX12_in))) (cond (Nat.blt m 267) (cX12_fails) (cond (Nat.blt m 268) (cX12_wrongArgument) (cX12_isNode)))) (cond (Nat.blt m 272) (cond (Nat.blt m 270) (cX12_isArc) (cond (Nat.blt m 271) (cX12_make) (cX12_apply))) (cond (Nat.blt m 274) (cond (Nat.blt m 273) (cX12_look) (cX12_isNewNode)) (cond (Nat.blt m 275) (cX12_isNewArc) (cX12_isWeight))))) (cond (Nat.blt m 282) (cond (Nat.blt m 279) (cond (Nat.blt m 277) (cX12_freePlace) (cond (Nat.blt m 278) (cX12_node) (cX12_arc))) (cond (Nat.blt m 280) (cX12_take) (cond (Nat.blt m 281) (cX12_set) (cX12_label)))) (cond (Nat.blt m 285) (cond (Nat.blt m 283) (cX12_view) (cond (Nat.blt m 284) (cX12_version) (cX12_isJoint))) (cond (Nat.blt m 287) (cond (Nat.blt m 286) (cX12_size) (cX12_told)) (cond (Nat.blt m 288) (cX12_labelOf) (cX12_arcAt)))))) (cond (Nat.blt m 302) (cond (Nat.blt m 295) (cond (Nat.blt m 292) (cond (Nat.blt m 290) (cX12_type) (cond (Nat.blt m 291) (cX12_wipe) (cX12_fault))) (cond (Nat.blt m 293) (cX12_isLetter) (cond (Nat.blt m 294) (cX12_isDigit) (cX12_blame)))) (cond (Nat.blt m 298) (cond (Nat.blt m 296) (cX12_nextToken) (cond (Nat.blt m 297) (cX12_readNumber) (cX12_shape))) (cond (Nat.blt m 300) (cond (Nat.blt m 299) (cX12_load) (cX12_copyGraph)) (cond (Nat.blt m 301) (cX12_command) (cX12_isDone))))) (cond (Nat.blt m 309) (cond (Nat.blt m 305) (cond (Nat.blt m 303) (cX12_put) (cond (Nat.blt m 304) (cX12_putNumber) (cX12_print))) (cond (Nat.blt m 307) (cond (Nat.blt m 306) (cX12_printed) (cX12_close)) (cond (Nat.blt m 308) (cX12_has) (cX12_toGoal)))) (cond (Nat.blt m 312) (cond (Nat.blt m 310) (cX12_fewest) (cond (Nat.blt m 311) (cX12_between) (cX12_distance))) (cond (Nat.blt m 314) (cond (Nat.blt m 313) (cX12_way) (cX12_width)) (cond (Nat.blt m 315) (cX12_addShort) (cX12_goesOn)))))))) (cond (Nat.blt m 369) (cond (Nat.blt m 342) (cond (Nat.blt m 329) (cond (Nat.blt m 322) (cond (Nat.blt m 319) (cond (Nat.blt m 317) (cX12_findShorts) (cond (Nat.blt m 318) (cX12_second) (cX12_third))) (cond (Nat.blt m 320) (cX12_isBefore) (cond (Nat.blt m 321) (cX12_sortShorts) (cX12_shorts)))) (cond (Nat.blt m 325) (cond (Nat.blt m 323) (cX12_shortArc) (cond (Nat.blt m 324) (cX12_least) (cX12_part))) (cond (Nat.blt m 327) (cond (Nat.blt m 326) (cX12_weakParts) (cX12_bridge)) (cond (Nat.blt m 328) (cX12_cut) (cX12_order))))) (cond (Nat.blt m 335) (cond (Nat.blt m 332) (cond (Nat.blt m 330) (cX12_jointsWith) (cond (Nat.blt m 331) (cX12_core) (cX12_findBeside))) (cond (Nat.blt m 333) (cX12_count) (cond (Nat.blt m 334) (cX12_findClique) (cX12_clique)))) (cond (Nat.blt m 338) (cond (Nat.blt m 336) (cX12_barsOf) (cond (Nat.blt m 337) (cX12_tightest) (cX12_tough))) (cond (Nat.blt m 340) (cond (Nat.blt m 339) (cX12_hanging) (cX12_isColourable)) (cond (Nat.blt m 341) (cX12_begin) (cX12_isPartColourable)))))) (cond (Nat.blt m 355) (cond (Nat.blt m 348) (cond (Nat.blt m 345) (cond (Nat.blt m 343) (cX12_capped) (cond (Nat.blt m 344) (cX12_colour) (cX12_search))) (cond (Nat.blt m 346) (cX12_before) (cond (Nat.blt m 347) (cX12_roomOn) (cX12_push)))) (cond (Nat.blt m 351) (cond (Nat.blt m 349) (cX12_most) (cond (Nat.blt m 350) (cX12_twoNodes) (cX12_flow))) (cond (Nat.blt m 353) (cond (Nat.blt m 352) (cX12_side) (cX12_cheapest)) (cond (Nat.blt m 354) (cX12_cost) (cX12_sends))))) (cond (Nat.blt m 362) (cond (Nat.blt m 358) (cond (Nat.blt m 356) (cX12_isFirstSort) (cond (Nat.blt m 357) (cX12_pairUp) (cX12_cheapestPair))) (cond (Nat.blt m 360) (cond (Nat.blt m 359) (cX12_pairing) (cX12_tree)) (cond (Nat.blt m 361) (cX12_rings) (cX12_span)))) (cond (Nat.blt m 365) (cond (Nat.blt m 363) (cX12_orderOf) (cond (Nat.blt m 364) (cX12_power) (cX12_trees))) (cond (Nat.blt m 367) (cond (Nat.blt m 366) (cX12_rank) (cX12_hop)) (cond (Nat.blt m 368) (cX12_shortest) (cX12_gainOf))))))) (cond (Nat.blt m 395) (cond (Nat.blt m 382) (cond (Nat.blt m 375) (cond (Nat.blt m 372) (cond (Nat.blt m 370) (cX12_gainIn) (cond (Nat.blt m 371) (cX12_findGroups) (cX12_leastOf))) (cond (Nat.blt m 373) (cX12_bestGroup) (cond (Nat.blt m 374) (cX12_freeGroup) (cX12_group)))) (cond (Nat.blt m 378) (cond (Nat.blt m 376) (cX12_gain) (cond (Nat.blt m 377) (cX12_figures) (cX12_beginAlternative))) (cond (Nat.blt m 380) (cond (Nat.blt m 379) (cX12_beginSequence) (cX12_follow)) (cond (Nat.blt m 381) (cX12_flush) (cX12_endSequence))))) (cond (Nat.blt m 388) (cond (Nat.blt m 385) (cond (Nat.blt m 383) (cX12_pattern) (cond (Nat.blt m 384) (cX12_setAtom) (cX12_sign))) (cond (Nat.blt m 386) (cX12_fits) (cond (Nat.blt m 387) (cX12_goOn) (cX12_program0)))) (cond (Nat.blt m 391) (cond (Nat.blt m 389) (cX12_nextOfProgram) (cond (Nat.blt m 390) (cX12_add) (cX12_nameOf))) (cond (Nat.blt m 393) (cond (Nat.blt m 392) (cX12_top) (cX12_hold)) (cond (Nat.blt m 394) (cX12_drop) (cX12_strength)))))) (cond (Nat.blt m 408) (cond (Nat.blt m 401) (cond (Nat.blt m 398) (cond (Nat.blt m 396) (cX12_settle) (cond (Nat.blt m 397) (cX12_turn) (cX12_factor))) (cond (Nat.blt m 399) (cX12_behindFactor) (cond (Nat.blt m 400) (cX12_expression) (cX12_program)))) (cond (Nat.blt m 404) (cond (Nat.blt m 402) (cX12_fit) (cond (Nat.blt m 403) (cX12_product) (cX12_nameAll))) (cond (Nat.blt m 406) (cond (Nat.blt m 405) (cX12_workOut) (cX12_run)) (cond (Nat.blt m 407) (cX12_goesTo) (cX12_send))))) (cond (Nat.blt m 415) (cond (Nat.blt m 411) (cond (Nat.blt m 409) (cX12_state) (cond (Nat.blt m 410) (cX12_letters) (cJ6_bitCount_0f7a4))) (cond (Nat.blt m 413) (cond (Nat.blt m 412) (cJ13_bitCount_95d88) (cJ9_floorDiv_f86c9)) (cond (Nat.blt m 414) (cJ9_floorMod_f86c9) (cJ9_abs_0f7a4)))) (cond (Nat.blt m 418) (cond (Nat.blt m 416) (cJ9_abs_067f4) (cond (Nat.blt m 417) (cJ9_max_7cf53) (cJ9_max_f86c9))) (cond (Nat.blt m 420) (cond (Nat.blt m 419) (cJ9_min_7cf53) (cJ9_min_f86c9)) (cond (Nat.blt m 421) (cJ7_fill_d0a16) (cJ7_fill_53178)))))))))
def xn (m : Nat) : Nat := cond (Nat.blt m 211) (cond (Nat.blt m 105) (cond (Nat.blt m 52) (cond (Nat.blt m 26) (cond (Nat.blt m 13) (cond (Nat.blt m 6) (cond (Nat.blt m 3) (cond (Nat.blt m 1) (8) (cond (Nat.blt m 2) (4) (8))) (cond (Nat.blt m 4) (4) (cond (Nat.blt m 5) (6) (5)))) (cond (Nat.blt m 9) (cond (Nat.blt m 7) (4) (cond (Nat.blt m 8) (4) (5))) (cond (Nat.blt m 11) (cond (Nat.blt m 10) (4) (6)) (cond (Nat.blt m 12) (4) (4))))) (cond (Nat.blt m 19) (cond (Nat.blt m 16) (cond (Nat.blt m 14) (4) (cond (Nat.blt m 15) (5) (6))) (cond (Nat.blt m 17) (5) (cond (Nat.blt m 18) (5) (7)))) (cond (Nat.blt m 22) (cond (Nat.blt m 20) (5) (cond (Nat.blt m 21) (4) (4))) (cond (Nat.blt m 24) (cond (Nat.blt m 23) (4) (4)) (cond (Nat.blt m 25) (4) (4)))))) (cond (Nat.blt m 39) (cond (Nat.blt m 32) (cond (Nat.blt m 29) (cond (Nat.blt m 27) (5) (cond (Nat.blt m 28) (6) (6))) (cond (Nat.blt m 30) (4) (cond (Nat.blt m 31) (4) (4)))) (cond (Nat.blt m 35) (cond (Nat.blt m 33) (5) (cond (Nat.blt m 34) (7) (4))) (cond (Nat.blt m 37) (cond (Nat.blt m 36) (4) (5)) (cond (Nat.blt m 38) (8) (4))))) (cond (Nat.blt m 45) (cond (Nat.blt m 42) (cond (Nat.blt m 40) (4) (cond (Nat.blt m 41) (1) (2))) (cond (Nat.blt m 43) (8) (cond (Nat.blt m 44) (3) (4)))) (cond (Nat.blt m 48) (cond (Nat.blt m 46) (3) (cond (Nat.blt m 47) (9) (10))) (cond (Nat.blt m 50) (cond (Nat.blt m 49) (4) (8)) (cond (Nat.blt m 51) (5) (4))))))) (cond (Nat.blt m 78) (cond (Nat.blt m 65) (cond (Nat.blt m 58) (cond (Nat.blt m 55) (cond (Nat.blt m 53) (8) (cond (Nat.blt m 54) (6) (9))) (cond (Nat.blt m 56) (1) (cond (Nat.blt m 57) (3) (2)))) (cond (Nat.blt m 61) (cond (Nat.blt m 59) (4) (cond (Nat.blt m 60) (5) (4))) (cond (Nat.blt m 63) (cond (Nat.blt m 62) (4) (4)) (cond (Nat.blt m 64) (4) (5))))) (cond (Nat.blt m 71) (cond (Nat.blt m 68) (cond (Nat.blt m 66) (16) (cond (Nat.blt m 67) (6) (5))) (cond (Nat.blt m 69) (4) (cond (Nat.blt m 70) (2) (11)))) (cond (Nat.blt m 74) (cond (Nat.blt m 72) (6) (cond (Nat.blt m 73) (7) (4))) (cond (Nat.blt m 76) (cond (Nat.blt m 75) (1) (5)) (cond (Nat.blt m 77) (3) (11)))))) (cond (Nat.blt m 91) (cond (Nat.blt m 84) (cond (Nat.blt m 81) (cond (Nat.blt m 79) (7) (cond (Nat.blt m 80) (9) (4))) (cond (Nat.blt m 82) (5) (cond (Nat.blt m 83) (5) (4)))) (cond (Nat.blt m 87) (cond (Nat.blt m 85) (7) (cond (Nat.blt m 86) (4) (2))) (cond (Nat.blt m 89) (cond (Nat.blt m 88) (1) (1)) (cond (Nat.blt m 90) (2) (2))))) (cond (Nat.blt m 98) (cond (Nat.blt m 94) (cond (Nat.blt m 92) (3) (cond (Nat.blt m 93) (2) (2))) (cond (Nat.blt m 96) (cond (Nat.blt m 95) (3) (3)) (cond (Nat.blt m 97) (3) (2)))) (cond (Nat.blt m 101) (cond (Nat.blt m 99) (1) (cond (Nat.blt m 100) (2) (2))) (cond (Nat.blt m 103) (cond (Nat.blt m 102) (2) (2)) (cond (Nat.blt m 104) (3) (1)))))))) (cond (Nat.blt m 158) (cond (Nat.blt m 131) (cond (Nat.blt m 118) (cond (Nat.blt m 111) (cond (Nat.blt m 108) (cond (Nat.blt m 106) (4) (cond (Nat.blt m 107) (9) (3))) (cond (Nat.blt m 109) (5) (cond (Nat.blt m 110) (5) (3)))) (cond (Nat.blt m 114) (cond (Nat.blt m 112) (10) (cond (Nat.blt m 113) (6) (4))) (cond (Nat.blt m 116) (cond (Nat.blt m 115) (4) (2)) (cond (Nat.blt m 117) (4) (1))))) (cond (Nat.blt m 124) (cond (Nat.blt m 121) (cond (Nat.blt m 119) (1) (cond (Nat.blt m 120) (6) (2))) (cond (Nat.blt m 122) (8) (cond (Nat.blt m 123) (2) (4)))) (cond (Nat.blt m 127) (cond (Nat.blt m 125) (3) (cond (Nat.blt m 126) (6) (2))) (cond (Nat.blt m 129) (cond (Nat.blt m 128) (4) (4)) (cond (Nat.blt m 130) (5) (4)))))) (cond (Nat.blt m 144) (cond (Nat.blt m 137) (cond (Nat.blt m 134) (cond (Nat.blt m 132) (3) (cond (Nat.blt m 133) (7) (1))) (cond (Nat.blt m 135) (2) (cond (Nat.blt m 136) (1) (3)))) (cond (Nat.blt m 140) (cond (Nat.blt m 138) (3) (cond (Nat.blt m 139) (6) (5))) (cond (Nat.blt m 142) (cond (Nat.blt m 141) (3) (5)) (cond (Nat.blt m 143) (3) (3))))) (cond (Nat.blt m 151) (cond (Nat.blt m 147) (cond (Nat.blt m 145) (6) (cond (Nat.blt m 146) (4) (4))) (cond (Nat.blt m 149) (cond (Nat.blt m 148) (6) (7)) (cond (Nat.blt m 150) (1) (2)))) (cond (Nat.blt m 154) (cond (Nat.blt m 152) (6) (cond (Nat.blt m 153) (3) (1))) (cond (Nat.blt m 156) (cond (Nat.blt m 155) (6) (7)) (cond (Nat.blt m 157) (7) (4))))))) (cond (Nat.blt m 184) (cond (Nat.blt m 171) (cond (Nat.blt m 164) (cond (Nat.blt m 161) (cond (Nat.blt m 159) (8) (cond (Nat.blt m 160) (5) (9))) (cond (Nat.blt m 162) (7) (cond (Nat.blt m 163) (1) (1)))) (cond (Nat.blt m 167) (cond (Nat.blt m 165) (3) (cond (Nat.blt m 166) (3) (2))) (cond (Nat.blt m 169) (cond (Nat.blt m 168) (5) (2)) (cond (Nat.blt m 170) (5) (2))))) (cond (Nat.blt m 177) (cond (Nat.blt m 174) (cond (Nat.blt m 172) (3) (cond (Nat.blt m 173) (2) (2))) (cond (Nat.blt m 175) (5) (cond (Nat.blt m 176) (1) (10)))) (cond (Nat.blt m 180) (cond (Nat.blt m 178) (3) (cond (Nat.blt m 179) (4) (7))) (cond (Nat.blt m 182) (cond (Nat.blt m 181) (5) (4)) (cond (Nat.blt m 183) (4) (3)))))) (cond (Nat.blt m 197) (cond (Nat.blt m 190) (cond (Nat.blt m 187) (cond (Nat.blt m 185) (2) (cond (Nat.blt m 186) (6) (12))) (cond (Nat.blt m 188) (6) (cond (Nat.blt m 189) (10) (1)))) (cond (Nat.blt m 193) (cond (Nat.blt m 191) (4) (cond (Nat.blt m 192) (8) (5))) (cond (Nat.blt m 195) (cond (Nat.blt m 194) (2) (5)) (cond (Nat.blt m 196) (9) (9))))) (cond (Nat.blt m 204) (cond (Nat.blt m 200) (cond (Nat.blt m 198) (4) (cond (Nat.blt m 199) (4) (9))) (cond (Nat.blt m 202) (cond (Nat.blt m 201) (8) (4)) (cond (Nat.blt m 203) (8) (4)))) (cond (Nat.blt m 207) (cond (Nat.blt m 205) (12) (cond (Nat.blt m 206) (8) (6))) (cond (Nat.blt m 209) (cond (Nat.blt m 208) (1) (2)) (cond (Nat.blt m 210) (6) (2))))))))) (cond (Nat.blt m 316) (cond (Nat.blt m 263) (cond (Nat.blt m 237) (cond (Nat.blt m 224) (cond (Nat.blt m 217) (cond (Nat.blt m 214) (cond (Nat.blt m 212) (5) (cond (Nat.blt m 213) (4) (2))) (cond (Nat.blt m 215) (1) (cond (Nat.blt m 216) (3) (4)))) (cond (Nat.blt m 220) (cond (Nat.blt m 218) (3) (cond (Nat.blt m 219) (5) (2))) (cond (Nat.blt m 222) (cond (Nat.blt m 221) (2) (1)) (cond (Nat.blt m 223) (2) (1))))) (cond (Nat.blt m 230) (cond (Nat.blt m 227) (cond (Nat.blt m 225) (2) (cond (Nat.blt m 226) (4) (5))) (cond (Nat.blt m 228) (4) (cond (Nat.blt m 229) (4) (6)))) (cond (Nat.blt m 233) (cond (Nat.blt m 231) (4) (cond (Nat.blt m 232) (3) (3))) (cond (Nat.blt m 235) (cond (Nat.blt m 234) (2) (3)) (cond (Nat.blt m 236) (4) (3)))))) (cond (Nat.blt m 250) (cond (Nat.blt m 243) (cond (Nat.blt m 240) (cond (Nat.blt m 238) (4) (cond (Nat.blt m 239) (5) (5))) (cond (Nat.blt m 241) (2) (cond (Nat.blt m 242) (3) (3)))) (cond (Nat.blt m 246) (cond (Nat.blt m 244) (1) (cond (Nat.blt m 245) (4) (6))) (cond (Nat.blt m 248) (cond (Nat.blt m 247) (3) (1)) (cond (Nat.blt m 249) (2) (1))))) (cond (Nat.blt m 256) (cond (Nat.blt m 253) (cond (Nat.blt m 251) (4) (cond (Nat.blt m 252) (1) (8))) (cond (Nat.blt m 254) (2) (cond (Nat.blt m 255) (2) (1)))) (cond (Nat.blt m 259) (cond (Nat.blt m 257) (1) (cond (Nat.blt m 258) (1) (1))) (cond (Nat.blt m 261) (cond (Nat.blt m 260) (2) (1)) (cond (Nat.blt m 262) (2) (7))))))) (cond (Nat.blt m 289) (cond (Nat.blt m 276) (cond (Nat.blt m 269) (cond (Nat.blt m 266) (cond (Nat.blt m 264) (1) (cond (Nat.blt m 265) (1) (6))) (cond (Nat.blt m 267) (3) (cond (Nat.blt m 268) (2) (2)))) (cond (Nat.blt m 272) (cond (Nat.blt m 270) (2) (cond (Nat.blt m 271) (8) (4))) (cond (Nat.blt m 274) (cond (Nat.blt m 273) (1) (2)) (cond (Nat.blt m 275) (2) (1))))) (cond (Nat.blt m 282) (cond (Nat.blt m 279) (cond (Nat.blt m 277) (3) (cond (Nat.blt m 278) (2) (7))) (cond (Nat.blt m 280) (2) (cond (Nat.blt m 281) (6) (4)))) (cond (Nat.blt m 285) (cond (Nat.blt m 283) (3) (cond (Nat.blt m 284) (1) (2))) (cond (Nat.blt m 287) (cond (Nat.blt m 286) (6) (4)) (cond (Nat.blt m 288) (2) (6)))))) (cond (Nat.blt m 302) (cond (Nat.blt m 295) (cond (Nat.blt m 292) (cond (Nat.blt m 290) (2) (cond (Nat.blt m 291) (2) (2))) (cond (Nat.blt m 293) (1) (cond (Nat.blt m 294) (1) (3)))) (cond (Nat.blt m 298) (cond (Nat.blt m 296) (3) (cond (Nat.blt m 297) (3) (3))) (cond (Nat.blt m 300) (cond (Nat.blt m 299) (3) (2)) (cond (Nat.blt m 301) (6) (8))))) (cond (Nat.blt m 309) (cond (Nat.blt m 305) (cond (Nat.blt m 303) (2) (cond (Nat.blt m 304) (4) (2))) (cond (Nat.blt m 307) (cond (Nat.blt m 306) (2) (7)) (cond (Nat.blt m 308) (2) (9)))) (cond (Nat.blt m 312) (cond (Nat.blt m 310) (6) (cond (Nat.blt m 311) (5) (4))) (cond (Nat.blt m 314) (cond (Nat.blt m 313) (11) (6)) (cond (Nat.blt m 315) (10) (4)))))))) (cond (Nat.blt m 369) (cond (Nat.blt m 342) (cond (Nat.blt m 329) (cond (Nat.blt m 322) (cond (Nat.blt m 319) (cond (Nat.blt m 317) (5) (cond (Nat.blt m 318) (7) (9))) (cond (Nat.blt m 320) (4) (cond (Nat.blt m 321) (9) (3)))) (cond (Nat.blt m 325) (cond (Nat.blt m 323) (6) (cond (Nat.blt m 324) (2) (4))) (cond (Nat.blt m 327) (cond (Nat.blt m 326) (5) (2)) (cond (Nat.blt m 328) (2) (9))))) (cond (Nat.blt m 335) (cond (Nat.blt m 332) (cond (Nat.blt m 330) (7) (cond (Nat.blt m 331) (7) (2))) (cond (Nat.blt m 333) (3) (cond (Nat.blt m 334) (5) (5)))) (cond (Nat.blt m 338) (cond (Nat.blt m 336) (4) (cond (Nat.blt m 337) (8) (5))) (cond (Nat.blt m 340) (cond (Nat.blt m 339) (6) (6)) (cond (Nat.blt m 341) (8) (7)))))) (cond (Nat.blt m 355) (cond (Nat.blt m 348) (cond (Nat.blt m 345) (cond (Nat.blt m 343) (3) (cond (Nat.blt m 344) (7) (7))) (cond (Nat.blt m 346) (3) (cond (Nat.blt m 347) (3) (5)))) (cond (Nat.blt m 351) (cond (Nat.blt m 349) (9) (cond (Nat.blt m 350) (3) (3))) (cond (Nat.blt m 353) (cond (Nat.blt m 352) (6) (5)) (cond (Nat.blt m 354) (8) (7))))) (cond (Nat.blt m 362) (cond (Nat.blt m 358) (cond (Nat.blt m 356) (2) (cond (Nat.blt m 357) (5) (5))) (cond (Nat.blt m 360) (cond (Nat.blt m 359) (7) (10)) (cond (Nat.blt m 361) (7) (9)))) (cond (Nat.blt m 365) (cond (Nat.blt m 363) (3) (cond (Nat.blt m 364) (10) (11))) (cond (Nat.blt m 367) (cond (Nat.blt m 366) (9) (9)) (cond (Nat.blt m 368) (6) (3))))))) (cond (Nat.blt m 395) (cond (Nat.blt m 382) (cond (Nat.blt m 375) (cond (Nat.blt m 372) (cond (Nat.blt m 370) (6) (cond (Nat.blt m 371) (5) (5))) (cond (Nat.blt m 373) (11) (cond (Nat.blt m 374) (2) (2)))) (cond (Nat.blt m 378) (cond (Nat.blt m 376) (4) (cond (Nat.blt m 377) (8) (1))) (cond (Nat.blt m 380) (cond (Nat.blt m 379) (1) (6)) (cond (Nat.blt m 381) (1) (1))))) (cond (Nat.blt m 388) (cond (Nat.blt m 385) (cond (Nat.blt m 383) (4) (cond (Nat.blt m 384) (6) (8))) (cond (Nat.blt m 386) (12) (cond (Nat.blt m 387) (10) (1)))) (cond (Nat.blt m 391) (cond (Nat.blt m 389) (3) (cond (Nat.blt m 390) (3) (1))) (cond (Nat.blt m 393) (cond (Nat.blt m 392) (1) (2)) (cond (Nat.blt m 394) (1) (1)))))) (cond (Nat.blt m 408) (cond (Nat.blt m 401) (cond (Nat.blt m 398) (cond (Nat.blt m 396) (2) (cond (Nat.blt m 397) (1) (2))) (cond (Nat.blt m 399) (3) (cond (Nat.blt m 400) (5) (2)))) (cond (Nat.blt m 404) (cond (Nat.blt m 402) (2) (cond (Nat.blt m 403) (10) (8))) (cond (Nat.blt m 406) (cond (Nat.blt m 405) (9) (9)) (cond (Nat.blt m 407) (6) (10))))) (cond (Nat.blt m 415) (cond (Nat.blt m 411) (cond (Nat.blt m 409) (2) (cond (Nat.blt m 410) (2) (1))) (cond (Nat.blt m 413) (cond (Nat.blt m 412) (2) (6)) (cond (Nat.blt m 414) (6) (1)))) (cond (Nat.blt m 418) (cond (Nat.blt m 416) (2) (cond (Nat.blt m 417) (2) (4))) (cond (Nat.blt m 420) (cond (Nat.blt m 419) (2) (4)) (cond (Nat.blt m 421) (5) (4)))))))))
def xr (m : Nat) : Option FieldType := cond (Nat.blt m 211) (cond (Nat.blt m 105) (cond (Nat.blt m 52) (cond (Nat.blt m 26) (cond (Nat.blt m 13) (cond (Nat.blt m 6) (cond (Nat.blt m 3) (cond (Nat.blt m 1) (some .boolean) (cond (Nat.blt m 2) (some .int) (some .int))) (cond (Nat.blt m 4) (some .int) (cond (Nat.blt m 5) (some .int) (some .int)))) (cond (Nat.blt m 9) (cond (Nat.blt m 7) (some .int) (cond (Nat.blt m 8) (some .int) (some .int))) (cond (Nat.blt m 11) (cond (Nat.blt m 10) (some .int) (some .int)) (cond (Nat.blt m 12) (some .int) (some .int))))) (cond (Nat.blt m 19) (cond (Nat.blt m 16) (cond (Nat.blt m 14) (some .int) (cond (Nat.blt m 15) (some .int) (some .int))) (cond (Nat.blt m 17) (some .int) (cond (Nat.blt m 18) (some .int) (some .int)))) (cond (Nat.blt m 22) (cond (Nat.blt m 20) (some .int) (cond (Nat.blt m 21) (some .int) (some .int))) (cond (Nat.blt m 24) (cond (Nat.blt m 23) (some .int) (some .int)) (cond (Nat.blt m 25) (some .int) (some .int)))))) (cond (Nat.blt m 39) (cond (Nat.blt m 32) (cond (Nat.blt m 29) (cond (Nat.blt m 27) (some .int) (cond (Nat.blt m 28) (some .int) (some .int))) (cond (Nat.blt m 30) (some .int) (cond (Nat.blt m 31) (some .int) (some .int)))) (cond (Nat.blt m 35) (cond (Nat.blt m 33) (some .int) (cond (Nat.blt m 34) (some .int) (some .int))) (cond (Nat.blt m 37) (cond (Nat.blt m 36) (some .int) (some .int)) (cond (Nat.blt m 38) (some .int) (some .int))))) (cond (Nat.blt m 45) (cond (Nat.blt m 42) (cond (Nat.blt m 40) (some .int) (cond (Nat.blt m 41) (none) (some .int))) (cond (Nat.blt m 43) (none) (cond (Nat.blt m 44) (some .int) (none)))) (cond (Nat.blt m 48) (cond (Nat.blt m 46) (some .int) (cond (Nat.blt m 47) (some .boolean) (some .boolean))) (cond (Nat.blt m 50) (cond (Nat.blt m 49) (some .int) (some .int)) (cond (Nat.blt m 51) (none) (some .int))))))) (cond (Nat.blt m 78) (cond (Nat.blt m 65) (cond (Nat.blt m 58) (cond (Nat.blt m 55) (cond (Nat.blt m 53) (some .int) (cond (Nat.blt m 54) (some .int) (some .boolean))) (cond (Nat.blt m 56) (none) (cond (Nat.blt m 57) (some .boolean) (some .boolean)))) (cond (Nat.blt m 61) (cond (Nat.blt m 59) (some .boolean) (cond (Nat.blt m 60) (some .boolean) (some .boolean))) (cond (Nat.blt m 63) (cond (Nat.blt m 62) (some .boolean) (some .boolean)) (cond (Nat.blt m 64) (some .int) (some .boolean))))) (cond (Nat.blt m 71) (cond (Nat.blt m 68) (cond (Nat.blt m 66) (none) (cond (Nat.blt m 67) (some .long) (some .long))) (cond (Nat.blt m 69) (some .long) (cond (Nat.blt m 70) (some .long) (none)))) (cond (Nat.blt m 74) (cond (Nat.blt m 72) (some .int) (cond (Nat.blt m 73) (some .int) (some .long))) (cond (Nat.blt m 76) (cond (Nat.blt m 75) (none) (some .long)) (cond (Nat.blt m 77) (none) (some .boolean)))))) (cond (Nat.blt m 91) (cond (Nat.blt m 84) (cond (Nat.blt m 81) (cond (Nat.blt m 79) (some .int) (cond (Nat.blt m 80) (some .long) (some .long))) (cond (Nat.blt m 82) (none) (cond (Nat.blt m 83) (some .int) (some .boolean)))) (cond (Nat.blt m 87) (cond (Nat.blt m 85) (some .long) (cond (Nat.blt m 86) (none) (some .boolean))) (cond (Nat.blt m 89) (cond (Nat.blt m 88) (none) (none)) (cond (Nat.blt m 90) (none) (some .boolean))))) (cond (Nat.blt m 98) (cond (Nat.blt m 94) (cond (Nat.blt m 92) (some .boolean) (cond (Nat.blt m 93) (some .boolean) (some .boolean))) (cond (Nat.blt m 96) (cond (Nat.blt m 95) (some .int) (none)) (cond (Nat.blt m 97) (some .int) (some .int)))) (cond (Nat.blt m 101) (cond (Nat.blt m 99) (some .int) (cond (Nat.blt m 100) (some .int) (some .int))) (cond (Nat.blt m 103) (cond (Nat.blt m 102) (none) (none)) (cond (Nat.blt m 104) (none) (none)))))))) (cond (Nat.blt m 158) (cond (Nat.blt m 131) (cond (Nat.blt m 118) (cond (Nat.blt m 111) (cond (Nat.blt m 108) (cond (Nat.blt m 106) (some .long) (cond (Nat.blt m 107) (none) (some .int))) (cond (Nat.blt m 109) (some .long) (cond (Nat.blt m 110) (none) (none)))) (cond (Nat.blt m 114) (cond (Nat.blt m 112) (some .boolean) (cond (Nat.blt m 113) (some .boolean) (none))) (cond (Nat.blt m 116) (cond (Nat.blt m 115) (some .long) (some .int)) (cond (Nat.blt m 117) (some .boolean) (none))))) (cond (Nat.blt m 124) (cond (Nat.blt m 121) (cond (Nat.blt m 119) (some .boolean) (cond (Nat.blt m 120) (some .boolean) (some .int))) (cond (Nat.blt m 122) (some .int) (cond (Nat.blt m 123) (none) (none)))) (cond (Nat.blt m 127) (cond (Nat.blt m 125) (none) (cond (Nat.blt m 126) (none) (some .int))) (cond (Nat.blt m 129) (cond (Nat.blt m 128) (none) (none)) (cond (Nat.blt m 130) (none) (none)))))) (cond (Nat.blt m 144) (cond (Nat.blt m 137) (cond (Nat.blt m 134) (cond (Nat.blt m 132) (some .int) (cond (Nat.blt m 133) (some .boolean) (some (.object "java/lang/String")))) (cond (Nat.blt m 135) (some .boolean) (cond (Nat.blt m 136) (none) (some .int)))) (cond (Nat.blt m 140) (cond (Nat.blt m 138) (some .int) (cond (Nat.blt m 139) (some .boolean) (some .boolean))) (cond (Nat.blt m 142) (cond (Nat.blt m 141) (some .int) (none)) (cond (Nat.blt m 143) (some .int) (some .int))))) (cond (Nat.blt m 151) (cond (Nat.blt m 147) (cond (Nat.blt m 145) (none) (cond (Nat.blt m 146) (some .int) (none))) (cond (Nat.blt m 149) (cond (Nat.blt m 148) (some .long) (some .long)) (cond (Nat.blt m 150) (none) (some .boolean)))) (cond (Nat.blt m 154) (cond (Nat.blt m 152) (some .boolean) (cond (Nat.blt m 153) (some .int) (some .boolean))) (cond (Nat.blt m 156) (cond (Nat.blt m 155) (none) (none)) (cond (Nat.blt m 157) (none) (none))))))) (cond (Nat.blt m 184) (cond (Nat.blt m 171) (cond (Nat.blt m 164) (cond (Nat.blt m 161) (cond (Nat.blt m 159) (none) (cond (Nat.blt m 160) (some .int) (some .boolean))) (cond (Nat.blt m 162) (some .long) (cond (Nat.blt m 163) (none) (none)))) (cond (Nat.blt m 167) (cond (Nat.blt m 165) (some .boolean) (cond (Nat.blt m 166) (some .boolean) (some .boolean))) (cond (Nat.blt m 169) (cond (Nat.blt m 168) (none) (some .boolean)) (cond (Nat.blt m 170) (none) (some .boolean))))) (cond (Nat.blt m 177) (cond (Nat.blt m 174) (cond (Nat.blt m 172) (some .int) (cond (Nat.blt m 173) (none) (none))) (cond (Nat.blt m 175) (none) (cond (Nat.blt m 176) (none) (some .long)))) (cond (Nat.blt m 180) (cond (Nat.blt m 178) (none) (cond (Nat.blt m 179) (some .boolean) (some .int))) (cond (Nat.blt m 182) (cond (Nat.blt m 181) (some .int) (none)) (cond (Nat.blt m 183) (some .boolean) (some .boolean)))))) (cond (Nat.blt m 197) (cond (Nat.blt m 190) (cond (Nat.blt m 187) (cond (Nat.blt m 185) (some .int) (cond (Nat.blt m 186) (some .int) (some .long))) (cond (Nat.blt m 188) (none) (cond (Nat.blt m 189) (some .long) (none)))) (cond (Nat.blt m 193) (cond (Nat.blt m 191) (some .long) (cond (Nat.blt m 192) (some .int) (some .int))) (cond (Nat.blt m 195) (cond (Nat.blt m 194) (some .long) (none)) (cond (Nat.blt m 196) (some .int) (some .int))))) (cond (Nat.blt m 204) (cond (Nat.blt m 200) (cond (Nat.blt m 198) (some .int) (cond (Nat.blt m 199) (some .int) (some .int))) (cond (Nat.blt m 202) (cond (Nat.blt m 201) (none) (some .int)) (cond (Nat.blt m 203) (some .int) (none)))) (cond (Nat.blt m 207) (cond (Nat.blt m 205) (none) (cond (Nat.blt m 206) (some .boolean) (none))) (cond (Nat.blt m 209) (cond (Nat.blt m 208) (none) (some .int)) (cond (Nat.blt m 210) (some .int) (some .int))))))))) (cond (Nat.blt m 316) (cond (Nat.blt m 263) (cond (Nat.blt m 237) (cond (Nat.blt m 224) (cond (Nat.blt m 217) (cond (Nat.blt m 214) (cond (Nat.blt m 212) (some .int) (cond (Nat.blt m 213) (some .int) (some .int))) (cond (Nat.blt m 215) (some .int) (cond (Nat.blt m 216) (some .int) (some .long)))) (cond (Nat.blt m 220) (cond (Nat.blt m 218) (some .int) (cond (Nat.blt m 219) (some .int) (some .int))) (cond (Nat.blt m 222) (cond (Nat.blt m 221) (some .int) (some .int)) (cond (Nat.blt m 223) (some .int) (some .int))))) (cond (Nat.blt m 230) (cond (Nat.blt m 227) (cond (Nat.blt m 225) (some .int) (cond (Nat.blt m 226) (some .long) (some .int))) (cond (Nat.blt m 228) (some .int) (cond (Nat.blt m 229) (some .int) (some .int)))) (cond (Nat.blt m 233) (cond (Nat.blt m 231) (some .int) (cond (Nat.blt m 232) (some .boolean) (some .boolean))) (cond (Nat.blt m 235) (cond (Nat.blt m 234) (some .int) (some .int)) (cond (Nat.blt m 236) (some .int) (some .int)))))) (cond (Nat.blt m 250) (cond (Nat.blt m 243) (cond (Nat.blt m 240) (cond (Nat.blt m 238) (some .long) (cond (Nat.blt m 239) (some .boolean) (some .long))) (cond (Nat.blt m 241) (some .long) (cond (Nat.blt m 242) (some .long) (some .boolean)))) (cond (Nat.blt m 246) (cond (Nat.blt m 244) (some .int) (cond (Nat.blt m 245) (some .long) (some .int))) (cond (Nat.blt m 248) (cond (Nat.blt m 247) (some .int) (some .long)) (cond (Nat.blt m 249) (some .long) (some .int))))) (cond (Nat.blt m 256) (cond (Nat.blt m 253) (cond (Nat.blt m 251) (some .int) (cond (Nat.blt m 252) (some .int) (some .int))) (cond (Nat.blt m 254) (some .long) (cond (Nat.blt m 255) (some .int) (some (.object "GraphHouse$Graph"))))) (cond (Nat.blt m 259) (cond (Nat.blt m 257) (some .boolean) (cond (Nat.blt m 258) (some .boolean) (some .boolean))) (cond (Nat.blt m 261) (cond (Nat.blt m 260) (some .boolean) (some .int)) (cond (Nat.blt m 262) (some .int) (some .int))))))) (cond (Nat.blt m 289) (cond (Nat.blt m 276) (cond (Nat.blt m 269) (cond (Nat.blt m 266) (cond (Nat.blt m 264) (none) (cond (Nat.blt m 265) (some .int) (some .boolean))) (cond (Nat.blt m 267) (some .boolean) (cond (Nat.blt m 268) (some .boolean) (some .boolean)))) (cond (Nat.blt m 272) (cond (Nat.blt m 270) (some .boolean) (cond (Nat.blt m 271) (none) (none))) (cond (Nat.blt m 274) (cond (Nat.blt m 273) (none) (some .boolean)) (cond (Nat.blt m 275) (some .boolean) (some .boolean))))) (cond (Nat.blt m 282) (cond (Nat.blt m 279) (cond (Nat.blt m 277) (some .int) (cond (Nat.blt m 278) (some .int) (some .int))) (cond (Nat.blt m 280) (some .int) (cond (Nat.blt m 281) (some .int) (some .int)))) (cond (Nat.blt m 285) (cond (Nat.blt m 283) (some .int) (cond (Nat.blt m 284) (some .int) (some .boolean))) (cond (Nat.blt m 287) (cond (Nat.blt m 286) (some .int) (some .long)) (cond (Nat.blt m 288) (some .int) (some .int)))))) (cond (Nat.blt m 302) (cond (Nat.blt m 295) (cond (Nat.blt m 292) (cond (Nat.blt m 290) (some .int) (cond (Nat.blt m 291) (some .int) (some .int))) (cond (Nat.blt m 293) (some .boolean) (cond (Nat.blt m 294) (some .boolean) (none)))) (cond (Nat.blt m 298) (cond (Nat.blt m 296) (none) (cond (Nat.blt m 297) (none) (some .int))) (cond (Nat.blt m 300) (cond (Nat.blt m 299) (some .int) (none)) (cond (Nat.blt m 301) (none) (some .boolean))))) (cond (Nat.blt m 309) (cond (Nat.blt m 305) (cond (Nat.blt m 303) (none) (cond (Nat.blt m 304) (none) (some .int))) (cond (Nat.blt m 307) (cond (Nat.blt m 306) (some .int) (none)) (cond (Nat.blt m 308) (some .boolean) (some .boolean)))) (cond (Nat.blt m 312) (cond (Nat.blt m 310) (none) (cond (Nat.blt m 311) (some .int) (some .long))) (cond (Nat.blt m 314) (cond (Nat.blt m 313) (some .int) (some .int)) (cond (Nat.blt m 315) (none) (some .boolean)))))))) (cond (Nat.blt m 369) (cond (Nat.blt m 342) (cond (Nat.blt m 329) (cond (Nat.blt m 322) (cond (Nat.blt m 319) (cond (Nat.blt m 317) (none) (cond (Nat.blt m 318) (none) (none))) (cond (Nat.blt m 320) (some .boolean) (cond (Nat.blt m 321) (none) (some .int)))) (cond (Nat.blt m 325) (cond (Nat.blt m 323) (some .int) (cond (Nat.blt m 324) (some .int) (some .int))) (cond (Nat.blt m 327) (cond (Nat.blt m 326) (some .int) (some .boolean)) (cond (Nat.blt m 328) (some .boolean) (some .int))))) (cond (Nat.blt m 335) (cond (Nat.blt m 332) (cond (Nat.blt m 330) (some .int) (cond (Nat.blt m 331) (some .int) (none))) (cond (Nat.blt m 333) (some .int) (cond (Nat.blt m 334) (some .int) (some .int)))) (cond (Nat.blt m 338) (cond (Nat.blt m 336) (some .int) (cond (Nat.blt m 337) (some .int) (some .int))) (cond (Nat.blt m 340) (cond (Nat.blt m 339) (some .int) (some .boolean)) (cond (Nat.blt m 341) (none) (some .boolean)))))) (cond (Nat.blt m 355) (cond (Nat.blt m 348) (cond (Nat.blt m 345) (cond (Nat.blt m 343) (some .int) (cond (Nat.blt m 344) (some .int) (none))) (cond (Nat.blt m 346) (some .int) (cond (Nat.blt m 347) (some .long) (none)))) (cond (Nat.blt m 351) (cond (Nat.blt m 349) (some .long) (cond (Nat.blt m 350) (some .boolean) (some .long))) (cond (Nat.blt m 353) (cond (Nat.blt m 352) (some .boolean) (none)) (cond (Nat.blt m 354) (some .long) (some .boolean))))) (cond (Nat.blt m 362) (cond (Nat.blt m 358) (cond (Nat.blt m 356) (some .boolean) (cond (Nat.blt m 357) (none) (some .int))) (cond (Nat.blt m 360) (cond (Nat.blt m 359) (some .long) (some .long)) (cond (Nat.blt m 361) (some .int) (some .boolean)))) (cond (Nat.blt m 365) (cond (Nat.blt m 363) (some .long) (cond (Nat.blt m 364) (some .long) (some .int))) (cond (Nat.blt m 367) (cond (Nat.blt m 366) (some .long) (none)) (cond (Nat.blt m 368) (some .int) (some .long))))))) (cond (Nat.blt m 395) (cond (Nat.blt m 382) (cond (Nat.blt m 375) (cond (Nat.blt m 372) (cond (Nat.blt m 370) (some .long) (cond (Nat.blt m 371) (none) (some .int))) (cond (Nat.blt m 373) (some .int) (cond (Nat.blt m 374) (some .int) (some .int)))) (cond (Nat.blt m 378) (cond (Nat.blt m 376) (some .long) (cond (Nat.blt m 377) (some .long) (none))) (cond (Nat.blt m 380) (cond (Nat.blt m 379) (none) (none)) (cond (Nat.blt m 381) (none) (none))))) (cond (Nat.blt m 388) (cond (Nat.blt m 385) (cond (Nat.blt m 383) (some .int) (cond (Nat.blt m 384) (none) (none))) (cond (Nat.blt m 386) (some .int) (cond (Nat.blt m 387) (some .int) (none)))) (cond (Nat.blt m 391) (cond (Nat.blt m 389) (none) (cond (Nat.blt m 390) (none) (some .int))) (cond (Nat.blt m 393) (cond (Nat.blt m 392) (some .int) (none)) (cond (Nat.blt m 394) (none) (some .int)))))) (cond (Nat.blt m 408) (cond (Nat.blt m 401) (cond (Nat.blt m 398) (cond (Nat.blt m 396) (none) (cond (Nat.blt m 397) (none) (some .boolean))) (cond (Nat.blt m 399) (some .int) (cond (Nat.blt m 400) (none) (some .int)))) (cond (Nat.blt m 404) (cond (Nat.blt m 402) (some .long) (cond (Nat.blt m 403) (some .long) (none))) (cond (Nat.blt m 406) (cond (Nat.blt m 405) (some .long) (some .int)) (cond (Nat.blt m 407) (some .boolean) (none))))) (cond (Nat.blt m 415) (cond (Nat.blt m 411) (cond (Nat.blt m 409) (some .long) (cond (Nat.blt m 410) (some .int) (some .int))) (cond (Nat.blt m 413) (cond (Nat.blt m 412) (some .int) (some .long)) (cond (Nat.blt m 414) (some .long) (some .int)))) (cond (Nat.blt m 418) (cond (Nat.blt m 416) (some .long) (cond (Nat.blt m 417) (some .int) (some .long))) (cond (Nat.blt m 420) (cond (Nat.blt m 419) (some .int) (some .long)) (cond (Nat.blt m 421) (none) (none)))))))))
/-- 0 ordinary, 1 with handlers, 2 the law -/
def xk (m : Nat) : Nat := cond (Nat.blt m 211) (cond (Nat.blt m 105) (cond (Nat.blt m 52) (cond (Nat.blt m 26) (cond (Nat.blt m 13) (cond (Nat.blt m 6) (cond (Nat.blt m 3) (cond (Nat.blt m 1) (2) (cond (Nat.blt m 2) (1) (1))) (cond (Nat.blt m 4) (1) (cond (Nat.blt m 5) (1) (1)))) (cond (Nat.blt m 9) (cond (Nat.blt m 7) (1) (cond (Nat.blt m 8) (1) (1))) (cond (Nat.blt m 11) (cond (Nat.blt m 10) (1) (1)) (cond (Nat.blt m 12) (1) (1))))) (cond (Nat.blt m 19) (cond (Nat.blt m 16) (cond (Nat.blt m 14) (1) (cond (Nat.blt m 15) (1) (1))) (cond (Nat.blt m 17) (1) (cond (Nat.blt m 18) (1) (1)))) (cond (Nat.blt m 22) (cond (Nat.blt m 20) (1) (cond (Nat.blt m 21) (1) (1))) (cond (Nat.blt m 24) (cond (Nat.blt m 23) (1) (1)) (cond (Nat.blt m 25) (1) (1)))))) (cond (Nat.blt m 39) (cond (Nat.blt m 32) (cond (Nat.blt m 29) (cond (Nat.blt m 27) (1) (cond (Nat.blt m 28) (1) (1))) (cond (Nat.blt m 30) (1) (cond (Nat.blt m 31) (1) (1)))) (cond (Nat.blt m 35) (cond (Nat.blt m 33) (1) (cond (Nat.blt m 34) (1) (1))) (cond (Nat.blt m 37) (cond (Nat.blt m 36) (1) (1)) (cond (Nat.blt m 38) (1) (1))))) (cond (Nat.blt m 45) (cond (Nat.blt m 42) (cond (Nat.blt m 40) (1) (cond (Nat.blt m 41) (0) (0))) (cond (Nat.blt m 43) (0) (cond (Nat.blt m 44) (0) (0)))) (cond (Nat.blt m 48) (cond (Nat.blt m 46) (0) (cond (Nat.blt m 47) (0) (0))) (cond (Nat.blt m 50) (cond (Nat.blt m 49) (0) (0)) (cond (Nat.blt m 51) (0) (0))))))) (cond (Nat.blt m 78) (cond (Nat.blt m 65) (cond (Nat.blt m 58) (cond (Nat.blt m 55) (cond (Nat.blt m 53) (0) (cond (Nat.blt m 54) (0) (0))) (cond (Nat.blt m 56) (0) (cond (Nat.blt m 57) (0) (0)))) (cond (Nat.blt m 61) (cond (Nat.blt m 59) (0) (cond (Nat.blt m 60) (0) (0))) (cond (Nat.blt m 63) (cond (Nat.blt m 62) (0) (0)) (cond (Nat.blt m 64) (0) (0))))) (cond (Nat.blt m 71) (cond (Nat.blt m 68) (cond (Nat.blt m 66) (0) (cond (Nat.blt m 67) (0) (0))) (cond (Nat.blt m 69) (0) (cond (Nat.blt m 70) (0) (0)))) (cond (Nat.blt m 74) (cond (Nat.blt m 72) (0) (cond (Nat.blt m 73) (0) (0))) (cond (Nat.blt m 76) (cond (Nat.blt m 75) (0) (0)) (cond (Nat.blt m 77) (0) (0)))))) (cond (Nat.blt m 91) (cond (Nat.blt m 84) (cond (Nat.blt m 81) (cond (Nat.blt m 79) (0) (cond (Nat.blt m 80) (0) (0))) (cond (Nat.blt m 82) (0) (cond (Nat.blt m 83) (0) (0)))) (cond (Nat.blt m 87) (cond (Nat.blt m 85) (0) (cond (Nat.blt m 86) (0) (0))) (cond (Nat.blt m 89) (cond (Nat.blt m 88) (0) (0)) (cond (Nat.blt m 90) (0) (0))))) (cond (Nat.blt m 98) (cond (Nat.blt m 94) (cond (Nat.blt m 92) (0) (cond (Nat.blt m 93) (0) (0))) (cond (Nat.blt m 96) (cond (Nat.blt m 95) (0) (0)) (cond (Nat.blt m 97) (0) (0)))) (cond (Nat.blt m 101) (cond (Nat.blt m 99) (0) (cond (Nat.blt m 100) (0) (0))) (cond (Nat.blt m 103) (cond (Nat.blt m 102) (0) (0)) (cond (Nat.blt m 104) (0) (0)))))))) (cond (Nat.blt m 158) (cond (Nat.blt m 131) (cond (Nat.blt m 118) (cond (Nat.blt m 111) (cond (Nat.blt m 108) (cond (Nat.blt m 106) (0) (cond (Nat.blt m 107) (0) (0))) (cond (Nat.blt m 109) (0) (cond (Nat.blt m 110) (0) (0)))) (cond (Nat.blt m 114) (cond (Nat.blt m 112) (0) (cond (Nat.blt m 113) (0) (0))) (cond (Nat.blt m 116) (cond (Nat.blt m 115) (0) (0)) (cond (Nat.blt m 117) (0) (0))))) (cond (Nat.blt m 124) (cond (Nat.blt m 121) (cond (Nat.blt m 119) (0) (cond (Nat.blt m 120) (0) (0))) (cond (Nat.blt m 122) (0) (cond (Nat.blt m 123) (0) (0)))) (cond (Nat.blt m 127) (cond (Nat.blt m 125) (0) (cond (Nat.blt m 126) (0) (0))) (cond (Nat.blt m 129) (cond (Nat.blt m 128) (0) (0)) (cond (Nat.blt m 130) (0) (0)))))) (cond (Nat.blt m 144) (cond (Nat.blt m 137) (cond (Nat.blt m 134) (cond (Nat.blt m 132) (0) (cond (Nat.blt m 133) (0) (0))) (cond (Nat.blt m 135) (0) (cond (Nat.blt m 136) (0) (0)))) (cond (Nat.blt m 140) (cond (Nat.blt m 138) (0) (cond (Nat.blt m 139) (0) (0))) (cond (Nat.blt m 142) (cond (Nat.blt m 141) (0) (0)) (cond (Nat.blt m 143) (0) (0))))) (cond (Nat.blt m 151) (cond (Nat.blt m 147) (cond (Nat.blt m 145) (0) (cond (Nat.blt m 146) (0) (0))) (cond (Nat.blt m 149) (cond (Nat.blt m 148) (0) (0)) (cond (Nat.blt m 150) (0) (0)))) (cond (Nat.blt m 154) (cond (Nat.blt m 152) (0) (cond (Nat.blt m 153) (0) (0))) (cond (Nat.blt m 156) (cond (Nat.blt m 155) (0) (0)) (cond (Nat.blt m 157) (0) (0))))))) (cond (Nat.blt m 184) (cond (Nat.blt m 171) (cond (Nat.blt m 164) (cond (Nat.blt m 161) (cond (Nat.blt m 159) (0) (cond (Nat.blt m 160) (0) (0))) (cond (Nat.blt m 162) (0) (cond (Nat.blt m 163) (0) (0)))) (cond (Nat.blt m 167) (cond (Nat.blt m 165) (0) (cond (Nat.blt m 166) (0) (0))) (cond (Nat.blt m 169) (cond (Nat.blt m 168) (0) (0)) (cond (Nat.blt m 170) (0) (0))))) (cond (Nat.blt m 177) (cond (Nat.blt m 174) (cond (Nat.blt m 172) (0) (cond (Nat.blt m 173) (0) (0))) (cond (Nat.blt m 175) (0) (cond (Nat.blt m 176) (0) (0)))) (cond (Nat.blt m 180) (cond (Nat.blt m 178) (0) (cond (Nat.blt m 179) (0) (0))) (cond (Nat.blt m 182) (cond (Nat.blt m 181) (0) (0)) (cond (Nat.blt m 183) (0) (0)))))) (cond (Nat.blt m 197) (cond (Nat.blt m 190) (cond (Nat.blt m 187) (cond (Nat.blt m 185) (0) (cond (Nat.blt m 186) (0) (0))) (cond (Nat.blt m 188) (0) (cond (Nat.blt m 189) (0) (0)))) (cond (Nat.blt m 193) (cond (Nat.blt m 191) (0) (cond (Nat.blt m 192) (0) (0))) (cond (Nat.blt m 195) (cond (Nat.blt m 194) (0) (0)) (cond (Nat.blt m 196) (0) (0))))) (cond (Nat.blt m 204) (cond (Nat.blt m 200) (cond (Nat.blt m 198) (0) (cond (Nat.blt m 199) (0) (0))) (cond (Nat.blt m 202) (cond (Nat.blt m 201) (0) (0)) (cond (Nat.blt m 203) (0) (0)))) (cond (Nat.blt m 207) (cond (Nat.blt m 205) (0) (cond (Nat.blt m 206) (0) (0))) (cond (Nat.blt m 209) (cond (Nat.blt m 208) (0) (0)) (cond (Nat.blt m 210) (0) (0))))))))) (cond (Nat.blt m 316) (cond (Nat.blt m 263) (cond (Nat.blt m 237) (cond (Nat.blt m 224) (cond (Nat.blt m 217) (cond (Nat.blt m 214) (cond (Nat.blt m 212) (0) (cond (Nat.blt m 213) (0) (0))) (cond (Nat.blt m 215) (0) (cond (Nat.blt m 216) (0) (0)))) (cond (Nat.blt m 220) (cond (Nat.blt m 218) (0) (cond (Nat.blt m 219) (0) (0))) (cond (Nat.blt m 222) (cond (Nat.blt m 221) (0) (0)) (cond (Nat.blt m 223) (0) (0))))) (cond (Nat.blt m 230) (cond (Nat.blt m 227) (cond (Nat.blt m 225) (0) (cond (Nat.blt m 226) (0) (0))) (cond (Nat.blt m 228) (0) (cond (Nat.blt m 229) (0) (0)))) (cond (Nat.blt m 233) (cond (Nat.blt m 231) (0) (cond (Nat.blt m 232) (0) (0))) (cond (Nat.blt m 235) (cond (Nat.blt m 234) (0) (0)) (cond (Nat.blt m 236) (0) (0)))))) (cond (Nat.blt m 250) (cond (Nat.blt m 243) (cond (Nat.blt m 240) (cond (Nat.blt m 238) (0) (cond (Nat.blt m 239) (0) (0))) (cond (Nat.blt m 241) (0) (cond (Nat.blt m 242) (0) (0)))) (cond (Nat.blt m 246) (cond (Nat.blt m 244) (0) (cond (Nat.blt m 245) (0) (0))) (cond (Nat.blt m 248) (cond (Nat.blt m 247) (0) (0)) (cond (Nat.blt m 249) (0) (0))))) (cond (Nat.blt m 256) (cond (Nat.blt m 253) (cond (Nat.blt m 251) (0) (cond (Nat.blt m 252) (0) (0))) (cond (Nat.blt m 254) (0) (cond (Nat.blt m 255) (0) (0)))) (cond (Nat.blt m 259) (cond (Nat.blt m 257) (0) (cond (Nat.blt m 258) (0) (0))) (cond (Nat.blt m 261) (cond (Nat.blt m 260) (0) (0)) (cond (Nat.blt m 262) (0) (0))))))) (cond (Nat.blt m 289) (cond (Nat.blt m 276) (cond (Nat.blt m 269) (cond (Nat.blt m 266) (cond (Nat.blt m 264) (0) (cond (Nat.blt m 265) (0) (0))) (cond (Nat.blt m 267) (0) (cond (Nat.blt m 268) (0) (0)))) (cond (Nat.blt m 272) (cond (Nat.blt m 270) (0) (cond (Nat.blt m 271) (0) (0))) (cond (Nat.blt m 274) (cond (Nat.blt m 273) (0) (0)) (cond (Nat.blt m 275) (0) (0))))) (cond (Nat.blt m 282) (cond (Nat.blt m 279) (cond (Nat.blt m 277) (0) (cond (Nat.blt m 278) (0) (0))) (cond (Nat.blt m 280) (0) (cond (Nat.blt m 281) (0) (0)))) (cond (Nat.blt m 285) (cond (Nat.blt m 283) (0) (cond (Nat.blt m 284) (0) (0))) (cond (Nat.blt m 287) (cond (Nat.blt m 286) (0) (0)) (cond (Nat.blt m 288) (0) (0)))))) (cond (Nat.blt m 302) (cond (Nat.blt m 295) (cond (Nat.blt m 292) (cond (Nat.blt m 290) (0) (cond (Nat.blt m 291) (0) (0))) (cond (Nat.blt m 293) (0) (cond (Nat.blt m 294) (0) (0)))) (cond (Nat.blt m 298) (cond (Nat.blt m 296) (0) (cond (Nat.blt m 297) (0) (0))) (cond (Nat.blt m 300) (cond (Nat.blt m 299) (0) (0)) (cond (Nat.blt m 301) (0) (0))))) (cond (Nat.blt m 309) (cond (Nat.blt m 305) (cond (Nat.blt m 303) (0) (cond (Nat.blt m 304) (0) (0))) (cond (Nat.blt m 307) (cond (Nat.blt m 306) (0) (0)) (cond (Nat.blt m 308) (0) (0)))) (cond (Nat.blt m 312) (cond (Nat.blt m 310) (0) (cond (Nat.blt m 311) (0) (0))) (cond (Nat.blt m 314) (cond (Nat.blt m 313) (0) (0)) (cond (Nat.blt m 315) (0) (0)))))))) (cond (Nat.blt m 369) (cond (Nat.blt m 342) (cond (Nat.blt m 329) (cond (Nat.blt m 322) (cond (Nat.blt m 319) (cond (Nat.blt m 317) (0) (cond (Nat.blt m 318) (0) (0))) (cond (Nat.blt m 320) (0) (cond (Nat.blt m 321) (0) (0)))) (cond (Nat.blt m 325) (cond (Nat.blt m 323) (0) (cond (Nat.blt m 324) (0) (0))) (cond (Nat.blt m 327) (cond (Nat.blt m 326) (0) (0)) (cond (Nat.blt m 328) (0) (0))))) (cond (Nat.blt m 335) (cond (Nat.blt m 332) (cond (Nat.blt m 330) (0) (cond (Nat.blt m 331) (0) (0))) (cond (Nat.blt m 333) (0) (cond (Nat.blt m 334) (0) (0)))) (cond (Nat.blt m 338) (cond (Nat.blt m 336) (0) (cond (Nat.blt m 337) (0) (0))) (cond (Nat.blt m 340) (cond (Nat.blt m 339) (0) (0)) (cond (Nat.blt m 341) (0) (0)))))) (cond (Nat.blt m 355) (cond (Nat.blt m 348) (cond (Nat.blt m 345) (cond (Nat.blt m 343) (0) (cond (Nat.blt m 344) (0) (0))) (cond (Nat.blt m 346) (0) (cond (Nat.blt m 347) (0) (0)))) (cond (Nat.blt m 351) (cond (Nat.blt m 349) (0) (cond (Nat.blt m 350) (0) (0))) (cond (Nat.blt m 353) (cond (Nat.blt m 352) (0) (0)) (cond (Nat.blt m 354) (0) (0))))) (cond (Nat.blt m 362) (cond (Nat.blt m 358) (cond (Nat.blt m 356) (0) (cond (Nat.blt m 357) (0) (0))) (cond (Nat.blt m 360) (cond (Nat.blt m 359) (0) (0)) (cond (Nat.blt m 361) (0) (0)))) (cond (Nat.blt m 365) (cond (Nat.blt m 363) (0) (cond (Nat.blt m 364) (0) (0))) (cond (Nat.blt m 367) (cond (Nat.blt m 366) (0) (0)) (cond (Nat.blt m 368) (0) (0))))))) (cond (Nat.blt m 395) (cond (Nat.blt m 382) (cond (Nat.blt m 375) (cond (Nat.blt m 372) (cond (Nat.blt m 370) (0) (cond (Nat.blt m 371) (0) (0))) (cond (Nat.blt m 373) (0) (cond (Nat.blt m 374) (0) (0)))) (cond (Nat.blt m 378) (cond (Nat.blt m 376) (0) (cond (Nat.blt m 377) (0) (0))) (cond (Nat.blt m 380) (cond (Nat.blt m 379) (0) (0)) (cond (Nat.blt m 381) (0) (0))))) (cond (Nat.blt m 388) (cond (Nat.blt m 385) (cond (Nat.blt m 383) (0) (cond (Nat.blt m 384) (0) (0))) (cond (Nat.blt m 386) (0) (cond (Nat.blt m 387) (0) (0)))) (cond (Nat.blt m 391) (cond (Nat.blt m 389) (0) (cond (Nat.blt m 390) (0) (0))) (cond (Nat.blt m 393) (cond (Nat.blt m 392) (0) (0)) (cond (Nat.blt m 394) (0) (0)))))) (cond (Nat.blt m 408) (cond (Nat.blt m 401) (cond (Nat.blt m 398) (cond (Nat.blt m 396) (0) (cond (Nat.blt m 397) (0) (0))) (cond (Nat.blt m 399) (0) (cond (Nat.blt m 400) (0) (0)))) (cond (Nat.blt m 404) (cond (Nat.blt m 402) (0) (cond (Nat.blt m 403) (0) (0))) (cond (Nat.blt m 406) (cond (Nat.blt m 405) (0) (0)) (cond (Nat.blt m 407) (0) (0))))) (cond (Nat.blt m 415) (cond (Nat.blt m 411) (cond (Nat.blt m 409) (0) (cond (Nat.blt m 410) (0) (0))) (cond (Nat.blt m 413) (cond (Nat.blt m 412) (0) (0)) (cond (Nat.blt m 414) (0) (0)))) (cond (Nat.blt m 418) (cond (Nat.blt m 416) (0) (cond (Nat.blt m 417) (0) (0))) (cond (Nat.blt m 420) (cond (Nat.blt m 419) (0) (0)) (cond (Nat.blt m 421) (0) (0)))))))))
def xo (m : Nat) : Nat := cond (Nat.blt m 211) (cond (Nat.blt m 105) (cond (Nat.blt m 52) (cond (Nat.blt m 26) (cond (Nat.blt m 13) (cond (Nat.blt m 6) (cond (Nat.blt m 3) (cond (Nat.blt m 1) (13) (cond (Nat.blt m 2) (13) (13))) (cond (Nat.blt m 4) (13) (cond (Nat.blt m 5) (13) (13)))) (cond (Nat.blt m 9) (cond (Nat.blt m 7) (13) (cond (Nat.blt m 8) (13) (13))) (cond (Nat.blt m 11) (cond (Nat.blt m 10) (13) (13)) (cond (Nat.blt m 12) (13) (13))))) (cond (Nat.blt m 19) (cond (Nat.blt m 16) (cond (Nat.blt m 14) (13) (cond (Nat.blt m 15) (13) (13))) (cond (Nat.blt m 17) (13) (cond (Nat.blt m 18) (13) (13)))) (cond (Nat.blt m 22) (cond (Nat.blt m 20) (13) (cond (Nat.blt m 21) (13) (13))) (cond (Nat.blt m 24) (cond (Nat.blt m 23) (13) (13)) (cond (Nat.blt m 25) (13) (13)))))) (cond (Nat.blt m 39) (cond (Nat.blt m 32) (cond (Nat.blt m 29) (cond (Nat.blt m 27) (13) (cond (Nat.blt m 28) (13) (13))) (cond (Nat.blt m 30) (13) (cond (Nat.blt m 31) (13) (13)))) (cond (Nat.blt m 35) (cond (Nat.blt m 33) (13) (cond (Nat.blt m 34) (13) (13))) (cond (Nat.blt m 37) (cond (Nat.blt m 36) (13) (13)) (cond (Nat.blt m 38) (13) (13))))) (cond (Nat.blt m 45) (cond (Nat.blt m 42) (cond (Nat.blt m 40) (13) (cond (Nat.blt m 41) (0) (0))) (cond (Nat.blt m 43) (0) (cond (Nat.blt m 44) (0) (0)))) (cond (Nat.blt m 48) (cond (Nat.blt m 46) (0) (cond (Nat.blt m 47) (0) (0))) (cond (Nat.blt m 50) (cond (Nat.blt m 49) (0) (0)) (cond (Nat.blt m 51) (0) (0))))))) (cond (Nat.blt m 78) (cond (Nat.blt m 65) (cond (Nat.blt m 58) (cond (Nat.blt m 55) (cond (Nat.blt m 53) (0) (cond (Nat.blt m 54) (0) (0))) (cond (Nat.blt m 56) (1) (cond (Nat.blt m 57) (1) (1)))) (cond (Nat.blt m 61) (cond (Nat.blt m 59) (1) (cond (Nat.blt m 60) (1) (1))) (cond (Nat.blt m 63) (cond (Nat.blt m 62) (1) (1)) (cond (Nat.blt m 64) (1) (1))))) (cond (Nat.blt m 71) (cond (Nat.blt m 68) (cond (Nat.blt m 66) (1) (cond (Nat.blt m 67) (1) (1))) (cond (Nat.blt m 69) (1) (cond (Nat.blt m 70) (1) (1)))) (cond (Nat.blt m 74) (cond (Nat.blt m 72) (1) (cond (Nat.blt m 73) (1) (1))) (cond (Nat.blt m 76) (cond (Nat.blt m 75) (2) (2)) (cond (Nat.blt m 77) (2) (2)))))) (cond (Nat.blt m 91) (cond (Nat.blt m 84) (cond (Nat.blt m 81) (cond (Nat.blt m 79) (2) (cond (Nat.blt m 80) (2) (2))) (cond (Nat.blt m 82) (2) (cond (Nat.blt m 83) (2) (2)))) (cond (Nat.blt m 87) (cond (Nat.blt m 85) (2) (cond (Nat.blt m 86) (2) (2))) (cond (Nat.blt m 89) (cond (Nat.blt m 88) (3) (3)) (cond (Nat.blt m 90) (3) (3))))) (cond (Nat.blt m 98) (cond (Nat.blt m 94) (cond (Nat.blt m 92) (3) (cond (Nat.blt m 93) (3) (3))) (cond (Nat.blt m 96) (cond (Nat.blt m 95) (3) (3)) (cond (Nat.blt m 97) (3) (3)))) (cond (Nat.blt m 101) (cond (Nat.blt m 99) (3) (cond (Nat.blt m 100) (3) (3))) (cond (Nat.blt m 103) (cond (Nat.blt m 102) (3) (3)) (cond (Nat.blt m 104) (3) (4)))))))) (cond (Nat.blt m 158) (cond (Nat.blt m 131) (cond (Nat.blt m 118) (cond (Nat.blt m 111) (cond (Nat.blt m 108) (cond (Nat.blt m 106) (4) (cond (Nat.blt m 107) (4) (4))) (cond (Nat.blt m 109) (4) (cond (Nat.blt m 110) (4) (4)))) (cond (Nat.blt m 114) (cond (Nat.blt m 112) (4) (cond (Nat.blt m 113) (4) (4))) (cond (Nat.blt m 116) (cond (Nat.blt m 115) (4) (4)) (cond (Nat.blt m 117) (4) (5))))) (cond (Nat.blt m 124) (cond (Nat.blt m 121) (cond (Nat.blt m 119) (5) (cond (Nat.blt m 120) (5) (5))) (cond (Nat.blt m 122) (5) (cond (Nat.blt m 123) (5) (5)))) (cond (Nat.blt m 127) (cond (Nat.blt m 125) (5) (cond (Nat.blt m 126) (5) (5))) (cond (Nat.blt m 129) (cond (Nat.blt m 128) (5) (5)) (cond (Nat.blt m 130) (5) (5)))))) (cond (Nat.blt m 144) (cond (Nat.blt m 137) (cond (Nat.blt m 134) (cond (Nat.blt m 132) (5) (cond (Nat.blt m 133) (5) (5))) (cond (Nat.blt m 135) (5) (cond (Nat.blt m 136) (6) (6)))) (cond (Nat.blt m 140) (cond (Nat.blt m 138) (6) (cond (Nat.blt m 139) (6) (6))) (cond (Nat.blt m 142) (cond (Nat.blt m 141) (6) (6)) (cond (Nat.blt m 143) (6) (6))))) (cond (Nat.blt m 151) (cond (Nat.blt m 147) (cond (Nat.blt m 145) (6) (cond (Nat.blt m 146) (6) (6))) (cond (Nat.blt m 149) (cond (Nat.blt m 148) (6) (6)) (cond (Nat.blt m 150) (7) (7)))) (cond (Nat.blt m 154) (cond (Nat.blt m 152) (7) (cond (Nat.blt m 153) (7) (7))) (cond (Nat.blt m 156) (cond (Nat.blt m 155) (7) (7)) (cond (Nat.blt m 157) (7) (7))))))) (cond (Nat.blt m 184) (cond (Nat.blt m 171) (cond (Nat.blt m 164) (cond (Nat.blt m 161) (cond (Nat.blt m 159) (7) (cond (Nat.blt m 160) (7) (7))) (cond (Nat.blt m 162) (7) (cond (Nat.blt m 163) (8) (8)))) (cond (Nat.blt m 167) (cond (Nat.blt m 165) (8) (cond (Nat.blt m 166) (8) (8))) (cond (Nat.blt m 169) (cond (Nat.blt m 168) (8) (8)) (cond (Nat.blt m 170) (8) (8))))) (cond (Nat.blt m 177) (cond (Nat.blt m 174) (cond (Nat.blt m 172) (8) (cond (Nat.blt m 173) (8) (8))) (cond (Nat.blt m 175) (8) (cond (Nat.blt m 176) (9) (9)))) (cond (Nat.blt m 180) (cond (Nat.blt m 178) (9) (cond (Nat.blt m 179) (9) (9))) (cond (Nat.blt m 182) (cond (Nat.blt m 181) (9) (9)) (cond (Nat.blt m 183) (9) (9)))))) (cond (Nat.blt m 197) (cond (Nat.blt m 190) (cond (Nat.blt m 187) (cond (Nat.blt m 185) (9) (cond (Nat.blt m 186) (9) (9))) (cond (Nat.blt m 188) (9) (cond (Nat.blt m 189) (9) (10)))) (cond (Nat.blt m 193) (cond (Nat.blt m 191) (10) (cond (Nat.blt m 192) (10) (10))) (cond (Nat.blt m 195) (cond (Nat.blt m 194) (10) (10)) (cond (Nat.blt m 196) (10) (10))))) (cond (Nat.blt m 204) (cond (Nat.blt m 200) (cond (Nat.blt m 198) (10) (cond (Nat.blt m 199) (10) (10))) (cond (Nat.blt m 202) (cond (Nat.blt m 201) (10) (10)) (cond (Nat.blt m 203) (10) (10)))) (cond (Nat.blt m 207) (cond (Nat.blt m 205) (10) (cond (Nat.blt m 206) (10) (10))) (cond (Nat.blt m 209) (cond (Nat.blt m 208) (11) (11)) (cond (Nat.blt m 210) (11) (11))))))))) (cond (Nat.blt m 316) (cond (Nat.blt m 263) (cond (Nat.blt m 237) (cond (Nat.blt m 224) (cond (Nat.blt m 217) (cond (Nat.blt m 214) (cond (Nat.blt m 212) (11) (cond (Nat.blt m 213) (11) (11))) (cond (Nat.blt m 215) (11) (cond (Nat.blt m 216) (11) (11)))) (cond (Nat.blt m 220) (cond (Nat.blt m 218) (11) (cond (Nat.blt m 219) (11) (11))) (cond (Nat.blt m 222) (cond (Nat.blt m 221) (11) (11)) (cond (Nat.blt m 223) (11) (11))))) (cond (Nat.blt m 230) (cond (Nat.blt m 227) (cond (Nat.blt m 225) (11) (cond (Nat.blt m 226) (11) (11))) (cond (Nat.blt m 228) (11) (cond (Nat.blt m 229) (11) (11)))) (cond (Nat.blt m 233) (cond (Nat.blt m 231) (11) (cond (Nat.blt m 232) (11) (11))) (cond (Nat.blt m 235) (cond (Nat.blt m 234) (11) (11)) (cond (Nat.blt m 236) (11) (11)))))) (cond (Nat.blt m 250) (cond (Nat.blt m 243) (cond (Nat.blt m 240) (cond (Nat.blt m 238) (11) (cond (Nat.blt m 239) (11) (11))) (cond (Nat.blt m 241) (11) (cond (Nat.blt m 242) (11) (11)))) (cond (Nat.blt m 246) (cond (Nat.blt m 244) (11) (cond (Nat.blt m 245) (11) (11))) (cond (Nat.blt m 248) (cond (Nat.blt m 247) (11) (11)) (cond (Nat.blt m 249) (11) (11))))) (cond (Nat.blt m 256) (cond (Nat.blt m 253) (cond (Nat.blt m 251) (11) (cond (Nat.blt m 252) (11) (11))) (cond (Nat.blt m 254) (11) (cond (Nat.blt m 255) (11) (11)))) (cond (Nat.blt m 259) (cond (Nat.blt m 257) (11) (cond (Nat.blt m 258) (11) (11))) (cond (Nat.blt m 261) (cond (Nat.blt m 260) (11) (11)) (cond (Nat.blt m 262) (11) (11))))))) (cond (Nat.blt m 289) (cond (Nat.blt m 276) (cond (Nat.blt m 269) (cond (Nat.blt m 266) (cond (Nat.blt m 264) (12) (cond (Nat.blt m 265) (12) (12))) (cond (Nat.blt m 267) (12) (cond (Nat.blt m 268) (12) (12)))) (cond (Nat.blt m 272) (cond (Nat.blt m 270) (12) (cond (Nat.blt m 271) (12) (12))) (cond (Nat.blt m 274) (cond (Nat.blt m 273) (12) (12)) (cond (Nat.blt m 275) (12) (12))))) (cond (Nat.blt m 282) (cond (Nat.blt m 279) (cond (Nat.blt m 277) (12) (cond (Nat.blt m 278) (12) (12))) (cond (Nat.blt m 280) (12) (cond (Nat.blt m 281) (12) (12)))) (cond (Nat.blt m 285) (cond (Nat.blt m 283) (12) (cond (Nat.blt m 284) (12) (12))) (cond (Nat.blt m 287) (cond (Nat.blt m 286) (12) (12)) (cond (Nat.blt m 288) (12) (12)))))) (cond (Nat.blt m 302) (cond (Nat.blt m 295) (cond (Nat.blt m 292) (cond (Nat.blt m 290) (12) (cond (Nat.blt m 291) (12) (12))) (cond (Nat.blt m 293) (12) (cond (Nat.blt m 294) (12) (12)))) (cond (Nat.blt m 298) (cond (Nat.blt m 296) (12) (cond (Nat.blt m 297) (12) (12))) (cond (Nat.blt m 300) (cond (Nat.blt m 299) (12) (12)) (cond (Nat.blt m 301) (12) (12))))) (cond (Nat.blt m 309) (cond (Nat.blt m 305) (cond (Nat.blt m 303) (12) (cond (Nat.blt m 304) (12) (12))) (cond (Nat.blt m 307) (cond (Nat.blt m 306) (12) (12)) (cond (Nat.blt m 308) (12) (12)))) (cond (Nat.blt m 312) (cond (Nat.blt m 310) (12) (cond (Nat.blt m 311) (12) (12))) (cond (Nat.blt m 314) (cond (Nat.blt m 313) (12) (12)) (cond (Nat.blt m 315) (12) (12)))))))) (cond (Nat.blt m 369) (cond (Nat.blt m 342) (cond (Nat.blt m 329) (cond (Nat.blt m 322) (cond (Nat.blt m 319) (cond (Nat.blt m 317) (12) (cond (Nat.blt m 318) (12) (12))) (cond (Nat.blt m 320) (12) (cond (Nat.blt m 321) (12) (12)))) (cond (Nat.blt m 325) (cond (Nat.blt m 323) (12) (cond (Nat.blt m 324) (12) (12))) (cond (Nat.blt m 327) (cond (Nat.blt m 326) (12) (12)) (cond (Nat.blt m 328) (12) (12))))) (cond (Nat.blt m 335) (cond (Nat.blt m 332) (cond (Nat.blt m 330) (12) (cond (Nat.blt m 331) (12) (12))) (cond (Nat.blt m 333) (12) (cond (Nat.blt m 334) (12) (12)))) (cond (Nat.blt m 338) (cond (Nat.blt m 336) (12) (cond (Nat.blt m 337) (12) (12))) (cond (Nat.blt m 340) (cond (Nat.blt m 339) (12) (12)) (cond (Nat.blt m 341) (12) (12)))))) (cond (Nat.blt m 355) (cond (Nat.blt m 348) (cond (Nat.blt m 345) (cond (Nat.blt m 343) (12) (cond (Nat.blt m 344) (12) (12))) (cond (Nat.blt m 346) (12) (cond (Nat.blt m 347) (12) (12)))) (cond (Nat.blt m 351) (cond (Nat.blt m 349) (12) (cond (Nat.blt m 350) (12) (12))) (cond (Nat.blt m 353) (cond (Nat.blt m 352) (12) (12)) (cond (Nat.blt m 354) (12) (12))))) (cond (Nat.blt m 362) (cond (Nat.blt m 358) (cond (Nat.blt m 356) (12) (cond (Nat.blt m 357) (12) (12))) (cond (Nat.blt m 360) (cond (Nat.blt m 359) (12) (12)) (cond (Nat.blt m 361) (12) (12)))) (cond (Nat.blt m 365) (cond (Nat.blt m 363) (12) (cond (Nat.blt m 364) (12) (12))) (cond (Nat.blt m 367) (cond (Nat.blt m 366) (12) (12)) (cond (Nat.blt m 368) (12) (12))))))) (cond (Nat.blt m 395) (cond (Nat.blt m 382) (cond (Nat.blt m 375) (cond (Nat.blt m 372) (cond (Nat.blt m 370) (12) (cond (Nat.blt m 371) (12) (12))) (cond (Nat.blt m 373) (12) (cond (Nat.blt m 374) (12) (12)))) (cond (Nat.blt m 378) (cond (Nat.blt m 376) (12) (cond (Nat.blt m 377) (12) (12))) (cond (Nat.blt m 380) (cond (Nat.blt m 379) (12) (12)) (cond (Nat.blt m 381) (12) (12))))) (cond (Nat.blt m 388) (cond (Nat.blt m 385) (cond (Nat.blt m 383) (12) (cond (Nat.blt m 384) (12) (12))) (cond (Nat.blt m 386) (12) (cond (Nat.blt m 387) (12) (12)))) (cond (Nat.blt m 391) (cond (Nat.blt m 389) (12) (cond (Nat.blt m 390) (12) (12))) (cond (Nat.blt m 393) (cond (Nat.blt m 392) (12) (12)) (cond (Nat.blt m 394) (12) (12)))))) (cond (Nat.blt m 408) (cond (Nat.blt m 401) (cond (Nat.blt m 398) (cond (Nat.blt m 396) (12) (cond (Nat.blt m 397) (12) (12))) (cond (Nat.blt m 399) (12) (cond (Nat.blt m 400) (12) (12)))) (cond (Nat.blt m 404) (cond (Nat.blt m 402) (12) (cond (Nat.blt m 403) (12) (12))) (cond (Nat.blt m 406) (cond (Nat.blt m 405) (12) (12)) (cond (Nat.blt m 407) (12) (12))))) (cond (Nat.blt m 415) (cond (Nat.blt m 411) (cond (Nat.blt m 409) (12) (cond (Nat.blt m 410) (12) (14))) (cond (Nat.blt m 413) (cond (Nat.blt m 412) (15) (16)) (cond (Nat.blt m 414) (16) (16)))) (cond (Nat.blt m 418) (cond (Nat.blt m 416) (16) (cond (Nat.blt m 417) (16) (16))) (cond (Nat.blt m 420) (cond (Nat.blt m 419) (16) (16)) (cond (Nat.blt m 421) (17) (17)))))))))
def xh (m : Nat) : List (Nat × Nat × Nat × Nat) := cond (Nat.blt m 211) (cond (Nat.blt m 105) (cond (Nat.blt m 52) (cond (Nat.blt m 26) (cond (Nat.blt m 13) (cond (Nat.blt m 6) (cond (Nat.blt m 3) (cond (Nat.blt m 1) ([]) (cond (Nat.blt m 2) ([(0, 9, 12, 13), (0, 9, 15, 15)]) ([(0, 16, 19, 13), (0, 16, 23, 15)]))) (cond (Nat.blt m 4) ([(0, 9, 12, 13), (0, 9, 15, 15)]) (cond (Nat.blt m 5) ([(0, 12, 15, 13), (0, 12, 19, 15)]) ([(0, 10, 13, 13), (0, 10, 17, 15)])))) (cond (Nat.blt m 9) (cond (Nat.blt m 7) ([(0, 9, 12, 13)]) (cond (Nat.blt m 8) ([(0, 9, 12, 13)]) ([(0, 9, 12, 13)]))) (cond (Nat.blt m 11) (cond (Nat.blt m 10) ([(0, 9, 12, 13)]) ([(0, 12, 15, 13)])) (cond (Nat.blt m 12) ([(0, 9, 12, 13), (0, 9, 15, 15)]) ([(0, 9, 12, 13)]))))) (cond (Nat.blt m 19) (cond (Nat.blt m 16) (cond (Nat.blt m 14) ([(0, 9, 12, 13)]) (cond (Nat.blt m 15) ([(0, 9, 12, 13)]) ([(0, 12, 15, 13)]))) (cond (Nat.blt m 17) ([(0, 10, 13, 13)]) (cond (Nat.blt m 18) ([(0, 10, 13, 13)]) ([(0, 14, 17, 13)])))) (cond (Nat.blt m 22) (cond (Nat.blt m 20) ([(0, 10, 13, 13)]) (cond (Nat.blt m 21) ([(0, 16, 19, 13)]) ([(0, 16, 19, 13)]))) (cond (Nat.blt m 24) (cond (Nat.blt m 23) ([(0, 9, 12, 13)]) ([(0, 9, 12, 13)])) (cond (Nat.blt m 25) ([(0, 9, 12, 13)]) ([(0, 9, 12, 13)])))))) (cond (Nat.blt m 39) (cond (Nat.blt m 32) (cond (Nat.blt m 29) (cond (Nat.blt m 27) ([(0, 9, 12, 13)]) (cond (Nat.blt m 28) ([(0, 19, 22, 13)]) ([(0, 11, 14, 13)]))) (cond (Nat.blt m 30) ([(0, 8, 11, 13)]) (cond (Nat.blt m 31) ([(0, 8, 11, 13)]) ([(0, 16, 19, 13)])))) (cond (Nat.blt m 35) (cond (Nat.blt m 33) ([(0, 9, 12, 13)]) (cond (Nat.blt m 34) ([(0, 14, 17, 13)]) ([(0, 9, 12, 13)]))) (cond (Nat.blt m 37) (cond (Nat.blt m 36) ([(0, 8, 11, 13)]) ([(0, 10, 13, 13)])) (cond (Nat.blt m 38) ([(0, 14, 17, 13)]) ([(0, 8, 11, 13)]))))) (cond (Nat.blt m 45) (cond (Nat.blt m 42) (cond (Nat.blt m 40) ([(0, 9, 12, 13)]) (cond (Nat.blt m 41) ([]) ([]))) (cond (Nat.blt m 43) ([]) (cond (Nat.blt m 44) ([]) ([])))) (cond (Nat.blt m 48) (cond (Nat.blt m 46) ([]) (cond (Nat.blt m 47) ([]) ([]))) (cond (Nat.blt m 50) (cond (Nat.blt m 49) ([]) ([])) (cond (Nat.blt m 51) ([]) ([]))))))) (cond (Nat.blt m 78) (cond (Nat.blt m 65) (cond (Nat.blt m 58) (cond (Nat.blt m 55) (cond (Nat.blt m 53) ([]) (cond (Nat.blt m 54) ([]) ([]))) (cond (Nat.blt m 56) ([]) (cond (Nat.blt m 57) ([]) ([])))) (cond (Nat.blt m 61) (cond (Nat.blt m 59) ([]) (cond (Nat.blt m 60) ([]) ([]))) (cond (Nat.blt m 63) (cond (Nat.blt m 62) ([]) ([])) (cond (Nat.blt m 64) ([]) ([]))))) (cond (Nat.blt m 71) (cond (Nat.blt m 68) (cond (Nat.blt m 66) ([]) (cond (Nat.blt m 67) ([]) ([]))) (cond (Nat.blt m 69) ([]) (cond (Nat.blt m 70) ([]) ([])))) (cond (Nat.blt m 74) (cond (Nat.blt m 72) ([]) (cond (Nat.blt m 73) ([]) ([]))) (cond (Nat.blt m 76) (cond (Nat.blt m 75) ([]) ([])) (cond (Nat.blt m 77) ([]) ([])))))) (cond (Nat.blt m 91) (cond (Nat.blt m 84) (cond (Nat.blt m 81) (cond (Nat.blt m 79) ([]) (cond (Nat.blt m 80) ([]) ([]))) (cond (Nat.blt m 82) ([]) (cond (Nat.blt m 83) ([]) ([])))) (cond (Nat.blt m 87) (cond (Nat.blt m 85) ([]) (cond (Nat.blt m 86) ([]) ([]))) (cond (Nat.blt m 89) (cond (Nat.blt m 88) ([]) ([])) (cond (Nat.blt m 90) ([]) ([]))))) (cond (Nat.blt m 98) (cond (Nat.blt m 94) (cond (Nat.blt m 92) ([]) (cond (Nat.blt m 93) ([]) ([]))) (cond (Nat.blt m 96) (cond (Nat.blt m 95) ([]) ([])) (cond (Nat.blt m 97) ([]) ([])))) (cond (Nat.blt m 101) (cond (Nat.blt m 99) ([]) (cond (Nat.blt m 100) ([]) ([]))) (cond (Nat.blt m 103) (cond (Nat.blt m 102) ([]) ([])) (cond (Nat.blt m 104) ([]) ([])))))))) (cond (Nat.blt m 158) (cond (Nat.blt m 131) (cond (Nat.blt m 118) (cond (Nat.blt m 111) (cond (Nat.blt m 108) (cond (Nat.blt m 106) ([]) (cond (Nat.blt m 107) ([]) ([]))) (cond (Nat.blt m 109) ([]) (cond (Nat.blt m 110) ([]) ([])))) (cond (Nat.blt m 114) (cond (Nat.blt m 112) ([]) (cond (Nat.blt m 113) ([]) ([]))) (cond (Nat.blt m 116) (cond (Nat.blt m 115) ([]) ([])) (cond (Nat.blt m 117) ([]) ([]))))) (cond (Nat.blt m 124) (cond (Nat.blt m 121) (cond (Nat.blt m 119) ([]) (cond (Nat.blt m 120) ([]) ([]))) (cond (Nat.blt m 122) ([]) (cond (Nat.blt m 123) ([]) ([])))) (cond (Nat.blt m 127) (cond (Nat.blt m 125) ([]) (cond (Nat.blt m 126) ([]) ([]))) (cond (Nat.blt m 129) (cond (Nat.blt m 128) ([]) ([])) (cond (Nat.blt m 130) ([]) ([])))))) (cond (Nat.blt m 144) (cond (Nat.blt m 137) (cond (Nat.blt m 134) (cond (Nat.blt m 132) ([]) (cond (Nat.blt m 133) ([]) ([]))) (cond (Nat.blt m 135) ([]) (cond (Nat.blt m 136) ([]) ([])))) (cond (Nat.blt m 140) (cond (Nat.blt m 138) ([]) (cond (Nat.blt m 139) ([]) ([]))) (cond (Nat.blt m 142) (cond (Nat.blt m 141) ([]) ([])) (cond (Nat.blt m 143) ([]) ([]))))) (cond (Nat.blt m 151) (cond (Nat.blt m 147) (cond (Nat.blt m 145) ([]) (cond (Nat.blt m 146) ([]) ([]))) (cond (Nat.blt m 149) (cond (Nat.blt m 148) ([]) ([])) (cond (Nat.blt m 150) ([]) ([])))) (cond (Nat.blt m 154) (cond (Nat.blt m 152) ([]) (cond (Nat.blt m 153) ([]) ([]))) (cond (Nat.blt m 156) (cond (Nat.blt m 155) ([]) ([])) (cond (Nat.blt m 157) ([]) ([]))))))) (cond (Nat.blt m 184) (cond (Nat.blt m 171) (cond (Nat.blt m 164) (cond (Nat.blt m 161) (cond (Nat.blt m 159) ([]) (cond (Nat.blt m 160) ([]) ([]))) (cond (Nat.blt m 162) ([]) (cond (Nat.blt m 163) ([]) ([])))) (cond (Nat.blt m 167) (cond (Nat.blt m 165) ([]) (cond (Nat.blt m 166) ([]) ([]))) (cond (Nat.blt m 169) (cond (Nat.blt m 168) ([]) ([])) (cond (Nat.blt m 170) ([]) ([]))))) (cond (Nat.blt m 177) (cond (Nat.blt m 174) (cond (Nat.blt m 172) ([]) (cond (Nat.blt m 173) ([]) ([]))) (cond (Nat.blt m 175) ([]) (cond (Nat.blt m 176) ([]) ([])))) (cond (Nat.blt m 180) (cond (Nat.blt m 178) ([]) (cond (Nat.blt m 179) ([]) ([]))) (cond (Nat.blt m 182) (cond (Nat.blt m 181) ([]) ([])) (cond (Nat.blt m 183) ([]) ([])))))) (cond (Nat.blt m 197) (cond (Nat.blt m 190) (cond (Nat.blt m 187) (cond (Nat.blt m 185) ([]) (cond (Nat.blt m 186) ([]) ([]))) (cond (Nat.blt m 188) ([]) (cond (Nat.blt m 189) ([]) ([])))) (cond (Nat.blt m 193) (cond (Nat.blt m 191) ([]) (cond (Nat.blt m 192) ([]) ([]))) (cond (Nat.blt m 195) (cond (Nat.blt m 194) ([]) ([])) (cond (Nat.blt m 196) ([]) ([]))))) (cond (Nat.blt m 204) (cond (Nat.blt m 200) (cond (Nat.blt m 198) ([]) (cond (Nat.blt m 199) ([]) ([]))) (cond (Nat.blt m 202) (cond (Nat.blt m 201) ([]) ([])) (cond (Nat.blt m 203) ([]) ([])))) (cond (Nat.blt m 207) (cond (Nat.blt m 205) ([]) (cond (Nat.blt m 206) ([]) ([]))) (cond (Nat.blt m 209) (cond (Nat.blt m 208) ([]) ([])) (cond (Nat.blt m 210) ([]) ([]))))))))) (cond (Nat.blt m 316) (cond (Nat.blt m 263) (cond (Nat.blt m 237) (cond (Nat.blt m 224) (cond (Nat.blt m 217) (cond (Nat.blt m 214) (cond (Nat.blt m 212) ([]) (cond (Nat.blt m 213) ([]) ([]))) (cond (Nat.blt m 215) ([]) (cond (Nat.blt m 216) ([]) ([])))) (cond (Nat.blt m 220) (cond (Nat.blt m 218) ([]) (cond (Nat.blt m 219) ([]) ([]))) (cond (Nat.blt m 222) (cond (Nat.blt m 221) ([]) ([])) (cond (Nat.blt m 223) ([]) ([]))))) (cond (Nat.blt m 230) (cond (Nat.blt m 227) (cond (Nat.blt m 225) ([]) (cond (Nat.blt m 226) ([]) ([]))) (cond (Nat.blt m 228) ([]) (cond (Nat.blt m 229) ([]) ([])))) (cond (Nat.blt m 233) (cond (Nat.blt m 231) ([]) (cond (Nat.blt m 232) ([]) ([]))) (cond (Nat.blt m 235) (cond (Nat.blt m 234) ([]) ([])) (cond (Nat.blt m 236) ([]) ([])))))) (cond (Nat.blt m 250) (cond (Nat.blt m 243) (cond (Nat.blt m 240) (cond (Nat.blt m 238) ([]) (cond (Nat.blt m 239) ([]) ([]))) (cond (Nat.blt m 241) ([]) (cond (Nat.blt m 242) ([]) ([])))) (cond (Nat.blt m 246) (cond (Nat.blt m 244) ([]) (cond (Nat.blt m 245) ([]) ([]))) (cond (Nat.blt m 248) (cond (Nat.blt m 247) ([]) ([])) (cond (Nat.blt m 249) ([]) ([]))))) (cond (Nat.blt m 256) (cond (Nat.blt m 253) (cond (Nat.blt m 251) ([]) (cond (Nat.blt m 252) ([]) ([]))) (cond (Nat.blt m 254) ([]) (cond (Nat.blt m 255) ([]) ([])))) (cond (Nat.blt m 259) (cond (Nat.blt m 257) ([]) (cond (Nat.blt m 258) ([]) ([]))) (cond (Nat.blt m 261) (cond (Nat.blt m 260) ([]) ([])) (cond (Nat.blt m 262) ([]) ([]))))))) (cond (Nat.blt m 289) (cond (Nat.blt m 276) (cond (Nat.blt m 269) (cond (Nat.blt m 266) (cond (Nat.blt m 264) ([]) (cond (Nat.blt m 265) ([]) ([]))) (cond (Nat.blt m 267) ([]) (cond (Nat.blt m 268) ([]) ([])))) (cond (Nat.blt m 272) (cond (Nat.blt m 270) ([]) (cond (Nat.blt m 271) ([]) ([]))) (cond (Nat.blt m 274) (cond (Nat.blt m 273) ([]) ([])) (cond (Nat.blt m 275) ([]) ([]))))) (cond (Nat.blt m 282) (cond (Nat.blt m 279) (cond (Nat.blt m 277) ([]) (cond (Nat.blt m 278) ([]) ([]))) (cond (Nat.blt m 280) ([]) (cond (Nat.blt m 281) ([]) ([])))) (cond (Nat.blt m 285) (cond (Nat.blt m 283) ([]) (cond (Nat.blt m 284) ([]) ([]))) (cond (Nat.blt m 287) (cond (Nat.blt m 286) ([]) ([])) (cond (Nat.blt m 288) ([]) ([])))))) (cond (Nat.blt m 302) (cond (Nat.blt m 295) (cond (Nat.blt m 292) (cond (Nat.blt m 290) ([]) (cond (Nat.blt m 291) ([]) ([]))) (cond (Nat.blt m 293) ([]) (cond (Nat.blt m 294) ([]) ([])))) (cond (Nat.blt m 298) (cond (Nat.blt m 296) ([]) (cond (Nat.blt m 297) ([]) ([]))) (cond (Nat.blt m 300) (cond (Nat.blt m 299) ([]) ([])) (cond (Nat.blt m 301) ([]) ([]))))) (cond (Nat.blt m 309) (cond (Nat.blt m 305) (cond (Nat.blt m 303) ([]) (cond (Nat.blt m 304) ([]) ([]))) (cond (Nat.blt m 307) (cond (Nat.blt m 306) ([]) ([])) (cond (Nat.blt m 308) ([]) ([])))) (cond (Nat.blt m 312) (cond (Nat.blt m 310) ([]) (cond (Nat.blt m 311) ([]) ([]))) (cond (Nat.blt m 314) (cond (Nat.blt m 313) ([]) ([])) (cond (Nat.blt m 315) ([]) ([])))))))) (cond (Nat.blt m 369) (cond (Nat.blt m 342) (cond (Nat.blt m 329) (cond (Nat.blt m 322) (cond (Nat.blt m 319) (cond (Nat.blt m 317) ([]) (cond (Nat.blt m 318) ([]) ([]))) (cond (Nat.blt m 320) ([]) (cond (Nat.blt m 321) ([]) ([])))) (cond (Nat.blt m 325) (cond (Nat.blt m 323) ([]) (cond (Nat.blt m 324) ([]) ([]))) (cond (Nat.blt m 327) (cond (Nat.blt m 326) ([]) ([])) (cond (Nat.blt m 328) ([]) ([]))))) (cond (Nat.blt m 335) (cond (Nat.blt m 332) (cond (Nat.blt m 330) ([]) (cond (Nat.blt m 331) ([]) ([]))) (cond (Nat.blt m 333) ([]) (cond (Nat.blt m 334) ([]) ([])))) (cond (Nat.blt m 338) (cond (Nat.blt m 336) ([]) (cond (Nat.blt m 337) ([]) ([]))) (cond (Nat.blt m 340) (cond (Nat.blt m 339) ([]) ([])) (cond (Nat.blt m 341) ([]) ([])))))) (cond (Nat.blt m 355) (cond (Nat.blt m 348) (cond (Nat.blt m 345) (cond (Nat.blt m 343) ([]) (cond (Nat.blt m 344) ([]) ([]))) (cond (Nat.blt m 346) ([]) (cond (Nat.blt m 347) ([]) ([])))) (cond (Nat.blt m 351) (cond (Nat.blt m 349) ([]) (cond (Nat.blt m 350) ([]) ([]))) (cond (Nat.blt m 353) (cond (Nat.blt m 352) ([]) ([])) (cond (Nat.blt m 354) ([]) ([]))))) (cond (Nat.blt m 362) (cond (Nat.blt m 358) (cond (Nat.blt m 356) ([]) (cond (Nat.blt m 357) ([]) ([]))) (cond (Nat.blt m 360) (cond (Nat.blt m 359) ([]) ([])) (cond (Nat.blt m 361) ([]) ([])))) (cond (Nat.blt m 365) (cond (Nat.blt m 363) ([]) (cond (Nat.blt m 364) ([]) ([]))) (cond (Nat.blt m 367) (cond (Nat.blt m 366) ([]) ([])) (cond (Nat.blt m 368) ([]) ([]))))))) (cond (Nat.blt m 395) (cond (Nat.blt m 382) (cond (Nat.blt m 375) (cond (Nat.blt m 372) (cond (Nat.blt m 370) ([]) (cond (Nat.blt m 371) ([]) ([]))) (cond (Nat.blt m 373) ([]) (cond (Nat.blt m 374) ([]) ([])))) (cond (Nat.blt m 378) (cond (Nat.blt m 376) ([]) (cond (Nat.blt m 377) ([]) ([]))) (cond (Nat.blt m 380) (cond (Nat.blt m 379) ([]) ([])) (cond (Nat.blt m 381) ([]) ([]))))) (cond (Nat.blt m 388) (cond (Nat.blt m 385) (cond (Nat.blt m 383) ([]) (cond (Nat.blt m 384) ([]) ([]))) (cond (Nat.blt m 386) ([]) (cond (Nat.blt m 387) ([]) ([])))) (cond (Nat.blt m 391) (cond (Nat.blt m 389) ([]) (cond (Nat.blt m 390) ([]) ([]))) (cond (Nat.blt m 393) (cond (Nat.blt m 392) ([]) ([])) (cond (Nat.blt m 394) ([]) ([])))))) (cond (Nat.blt m 408) (cond (Nat.blt m 401) (cond (Nat.blt m 398) (cond (Nat.blt m 396) ([]) (cond (Nat.blt m 397) ([]) ([]))) (cond (Nat.blt m 399) ([]) (cond (Nat.blt m 400) ([]) ([])))) (cond (Nat.blt m 404) (cond (Nat.blt m 402) ([]) (cond (Nat.blt m 403) ([]) ([]))) (cond (Nat.blt m 406) (cond (Nat.blt m 405) ([]) ([])) (cond (Nat.blt m 407) ([]) ([]))))) (cond (Nat.blt m 415) (cond (Nat.blt m 411) (cond (Nat.blt m 409) ([]) (cond (Nat.blt m 410) ([]) ([]))) (cond (Nat.blt m 413) (cond (Nat.blt m 412) ([]) ([])) (cond (Nat.blt m 414) ([]) ([])))) (cond (Nat.blt m 418) (cond (Nat.blt m 416) ([]) (cond (Nat.blt m 417) ([]) ([]))) (cond (Nat.blt m 420) (cond (Nat.blt m 419) ([]) ([])) (cond (Nat.blt m 421) ([]) ([])))))))))
def xi (m pc : Nat) : XIs := cond (Nat.blt m 211) (cond (Nat.blt m 105) (cond (Nat.blt m 52) (cond (Nat.blt m 26) (cond (Nat.blt m 13) (cond (Nat.blt m 6) (cond (Nat.blt m 3) (cond (Nat.blt m 1) (xi_0 pc) (cond (Nat.blt m 2) (xi_1 pc) (xi_2 pc))) (cond (Nat.blt m 4) (xi_3 pc) (cond (Nat.blt m 5) (xi_4 pc) (xi_5 pc)))) (cond (Nat.blt m 9) (cond (Nat.blt m 7) (xi_6 pc) (cond (Nat.blt m 8) (xi_7 pc) (xi_8 pc))) (cond (Nat.blt m 11) (cond (Nat.blt m 10) (xi_9 pc) (xi_10 pc)) (cond (Nat.blt m 12) (xi_11 pc) (xi_12 pc))))) (cond (Nat.blt m 19) (cond (Nat.blt m 16) (cond (Nat.blt m 14) (xi_13 pc) (cond (Nat.blt m 15) (xi_14 pc) (xi_15 pc))) (cond (Nat.blt m 17) (xi_16 pc) (cond (Nat.blt m 18) (xi_17 pc) (xi_18 pc)))) (cond (Nat.blt m 22) (cond (Nat.blt m 20) (xi_19 pc) (cond (Nat.blt m 21) (xi_20 pc) (xi_21 pc))) (cond (Nat.blt m 24) (cond (Nat.blt m 23) (xi_22 pc) (xi_23 pc)) (cond (Nat.blt m 25) (xi_24 pc) (xi_25 pc)))))) (cond (Nat.blt m 39) (cond (Nat.blt m 32) (cond (Nat.blt m 29) (cond (Nat.blt m 27) (xi_26 pc) (cond (Nat.blt m 28) (xi_27 pc) (xi_28 pc))) (cond (Nat.blt m 30) (xi_29 pc) (cond (Nat.blt m 31) (xi_30 pc) (xi_31 pc)))) (cond (Nat.blt m 35) (cond (Nat.blt m 33) (xi_32 pc) (cond (Nat.blt m 34) (xi_33 pc) (xi_34 pc))) (cond (Nat.blt m 37) (cond (Nat.blt m 36) (xi_35 pc) (xi_36 pc)) (cond (Nat.blt m 38) (xi_37 pc) (xi_38 pc))))) (cond (Nat.blt m 45) (cond (Nat.blt m 42) (cond (Nat.blt m 40) (xi_39 pc) (cond (Nat.blt m 41) (xi_40 pc) (xi_41 pc))) (cond (Nat.blt m 43) (xi_42 pc) (cond (Nat.blt m 44) (xi_43 pc) (xi_44 pc)))) (cond (Nat.blt m 48) (cond (Nat.blt m 46) (xi_45 pc) (cond (Nat.blt m 47) (xi_46 pc) (xi_47 pc))) (cond (Nat.blt m 50) (cond (Nat.blt m 49) (xi_48 pc) (xi_49 pc)) (cond (Nat.blt m 51) (xi_50 pc) (xi_51 pc))))))) (cond (Nat.blt m 78) (cond (Nat.blt m 65) (cond (Nat.blt m 58) (cond (Nat.blt m 55) (cond (Nat.blt m 53) (xi_52 pc) (cond (Nat.blt m 54) (xi_53 pc) (xi_54 pc))) (cond (Nat.blt m 56) (xi_55 pc) (cond (Nat.blt m 57) (xi_56 pc) (xi_57 pc)))) (cond (Nat.blt m 61) (cond (Nat.blt m 59) (xi_58 pc) (cond (Nat.blt m 60) (xi_59 pc) (xi_60 pc))) (cond (Nat.blt m 63) (cond (Nat.blt m 62) (xi_61 pc) (xi_62 pc)) (cond (Nat.blt m 64) (xi_63 pc) (xi_64 pc))))) (cond (Nat.blt m 71) (cond (Nat.blt m 68) (cond (Nat.blt m 66) (xi_65 pc) (cond (Nat.blt m 67) (xi_66 pc) (xi_67 pc))) (cond (Nat.blt m 69) (xi_68 pc) (cond (Nat.blt m 70) (xi_69 pc) (xi_70 pc)))) (cond (Nat.blt m 74) (cond (Nat.blt m 72) (xi_71 pc) (cond (Nat.blt m 73) (xi_72 pc) (xi_73 pc))) (cond (Nat.blt m 76) (cond (Nat.blt m 75) (xi_74 pc) (xi_75 pc)) (cond (Nat.blt m 77) (xi_76 pc) (xi_77 pc)))))) (cond (Nat.blt m 91) (cond (Nat.blt m 84) (cond (Nat.blt m 81) (cond (Nat.blt m 79) (xi_78 pc) (cond (Nat.blt m 80) (xi_79 pc) (xi_80 pc))) (cond (Nat.blt m 82) (xi_81 pc) (cond (Nat.blt m 83) (xi_82 pc) (xi_83 pc)))) (cond (Nat.blt m 87) (cond (Nat.blt m 85) (xi_84 pc) (cond (Nat.blt m 86) (xi_85 pc) (xi_86 pc))) (cond (Nat.blt m 89) (cond (Nat.blt m 88) (xi_87 pc) (xi_88 pc)) (cond (Nat.blt m 90) (xi_89 pc) (xi_90 pc))))) (cond (Nat.blt m 98) (cond (Nat.blt m 94) (cond (Nat.blt m 92) (xi_91 pc) (cond (Nat.blt m 93) (xi_92 pc) (xi_93 pc))) (cond (Nat.blt m 96) (cond (Nat.blt m 95) (xi_94 pc) (xi_95 pc)) (cond (Nat.blt m 97) (xi_96 pc) (xi_97 pc)))) (cond (Nat.blt m 101) (cond (Nat.blt m 99) (xi_98 pc) (cond (Nat.blt m 100) (xi_99 pc) (xi_100 pc))) (cond (Nat.blt m 103) (cond (Nat.blt m 102) (xi_101 pc) (xi_102 pc)) (cond (Nat.blt m 104) (xi_103 pc) (xi_104 pc)))))))) (cond (Nat.blt m 158) (cond (Nat.blt m 131) (cond (Nat.blt m 118) (cond (Nat.blt m 111) (cond (Nat.blt m 108) (cond (Nat.blt m 106) (xi_105 pc) (cond (Nat.blt m 107) (xi_106 pc) (xi_107 pc))) (cond (Nat.blt m 109) (xi_108 pc) (cond (Nat.blt m 110) (xi_109 pc) (xi_110 pc)))) (cond (Nat.blt m 114) (cond (Nat.blt m 112) (xi_111 pc) (cond (Nat.blt m 113) (xi_112 pc) (xi_113 pc))) (cond (Nat.blt m 116) (cond (Nat.blt m 115) (xi_114 pc) (xi_115 pc)) (cond (Nat.blt m 117) (xi_116 pc) (xi_117 pc))))) (cond (Nat.blt m 124) (cond (Nat.blt m 121) (cond (Nat.blt m 119) (xi_118 pc) (cond (Nat.blt m 120) (xi_119 pc) (xi_120 pc))) (cond (Nat.blt m 122) (xi_121 pc) (cond (Nat.blt m 123) (xi_122 pc) (xi_123 pc)))) (cond (Nat.blt m 127) (cond (Nat.blt m 125) (xi_124 pc) (cond (Nat.blt m 126) (xi_125 pc) (xi_126 pc))) (cond (Nat.blt m 129) (cond (Nat.blt m 128) (xi_127 pc) (xi_128 pc)) (cond (Nat.blt m 130) (xi_129 pc) (xi_130 pc)))))) (cond (Nat.blt m 144) (cond (Nat.blt m 137) (cond (Nat.blt m 134) (cond (Nat.blt m 132) (xi_131 pc) (cond (Nat.blt m 133) (xi_132 pc) (xi_133 pc))) (cond (Nat.blt m 135) (xi_134 pc) (cond (Nat.blt m 136) (xi_135 pc) (xi_136 pc)))) (cond (Nat.blt m 140) (cond (Nat.blt m 138) (xi_137 pc) (cond (Nat.blt m 139) (xi_138 pc) (xi_139 pc))) (cond (Nat.blt m 142) (cond (Nat.blt m 141) (xi_140 pc) (xi_141 pc)) (cond (Nat.blt m 143) (xi_142 pc) (xi_143 pc))))) (cond (Nat.blt m 151) (cond (Nat.blt m 147) (cond (Nat.blt m 145) (xi_144 pc) (cond (Nat.blt m 146) (xi_145 pc) (xi_146 pc))) (cond (Nat.blt m 149) (cond (Nat.blt m 148) (xi_147 pc) (xi_148 pc)) (cond (Nat.blt m 150) (xi_149 pc) (xi_150 pc)))) (cond (Nat.blt m 154) (cond (Nat.blt m 152) (xi_151 pc) (cond (Nat.blt m 153) (xi_152 pc) (xi_153 pc))) (cond (Nat.blt m 156) (cond (Nat.blt m 155) (xi_154 pc) (xi_155 pc)) (cond (Nat.blt m 157) (xi_156 pc) (xi_157 pc))))))) (cond (Nat.blt m 184) (cond (Nat.blt m 171) (cond (Nat.blt m 164) (cond (Nat.blt m 161) (cond (Nat.blt m 159) (xi_158 pc) (cond (Nat.blt m 160) (xi_159 pc) (xi_160 pc))) (cond (Nat.blt m 162) (xi_161 pc) (cond (Nat.blt m 163) (xi_162 pc) (xi_163 pc)))) (cond (Nat.blt m 167) (cond (Nat.blt m 165) (xi_164 pc) (cond (Nat.blt m 166) (xi_165 pc) (xi_166 pc))) (cond (Nat.blt m 169) (cond (Nat.blt m 168) (xi_167 pc) (xi_168 pc)) (cond (Nat.blt m 170) (xi_169 pc) (xi_170 pc))))) (cond (Nat.blt m 177) (cond (Nat.blt m 174) (cond (Nat.blt m 172) (xi_171 pc) (cond (Nat.blt m 173) (xi_172 pc) (xi_173 pc))) (cond (Nat.blt m 175) (xi_174 pc) (cond (Nat.blt m 176) (xi_175 pc) (xi_176 pc)))) (cond (Nat.blt m 180) (cond (Nat.blt m 178) (xi_177 pc) (cond (Nat.blt m 179) (xi_178 pc) (xi_179 pc))) (cond (Nat.blt m 182) (cond (Nat.blt m 181) (xi_180 pc) (xi_181 pc)) (cond (Nat.blt m 183) (xi_182 pc) (xi_183 pc)))))) (cond (Nat.blt m 197) (cond (Nat.blt m 190) (cond (Nat.blt m 187) (cond (Nat.blt m 185) (xi_184 pc) (cond (Nat.blt m 186) (xi_185 pc) (xi_186 pc))) (cond (Nat.blt m 188) (xi_187 pc) (cond (Nat.blt m 189) (xi_188 pc) (xi_189 pc)))) (cond (Nat.blt m 193) (cond (Nat.blt m 191) (xi_190 pc) (cond (Nat.blt m 192) (xi_191 pc) (xi_192 pc))) (cond (Nat.blt m 195) (cond (Nat.blt m 194) (xi_193 pc) (xi_194 pc)) (cond (Nat.blt m 196) (xi_195 pc) (xi_196 pc))))) (cond (Nat.blt m 204) (cond (Nat.blt m 200) (cond (Nat.blt m 198) (xi_197 pc) (cond (Nat.blt m 199) (xi_198 pc) (xi_199 pc))) (cond (Nat.blt m 202) (cond (Nat.blt m 201) (xi_200 pc) (xi_201 pc)) (cond (Nat.blt m 203) (xi_202 pc) (xi_203 pc)))) (cond (Nat.blt m 207) (cond (Nat.blt m 205) (xi_204 pc) (cond (Nat.blt m 206) (xi_205 pc) (xi_206 pc))) (cond (Nat.blt m 209) (cond (Nat.blt m 208) (xi_207 pc) (xi_208 pc)) (cond (Nat.blt m 210) (xi_209 pc) (xi_210 pc))))))))) (cond (Nat.blt m 316) (cond (Nat.blt m 263) (cond (Nat.blt m 237) (cond (Nat.blt m 224) (cond (Nat.blt m 217) (cond (Nat.blt m 214) (cond (Nat.blt m 212) (xi_211 pc) (cond (Nat.blt m 213) (xi_212 pc) (xi_213 pc))) (cond (Nat.blt m 215) (xi_214 pc) (cond (Nat.blt m 216) (xi_215 pc) (xi_216 pc)))) (cond (Nat.blt m 220) (cond (Nat.blt m 218) (xi_217 pc) (cond (Nat.blt m 219) (xi_218 pc) (xi_219 pc))) (cond (Nat.blt m 222) (cond (Nat.blt m 221) (xi_220 pc) (xi_221 pc)) (cond (Nat.blt m 223) (xi_222 pc) (xi_223 pc))))) (cond (Nat.blt m 230) (cond (Nat.blt m 227) (cond (Nat.blt m 225) (xi_224 pc) (cond (Nat.blt m 226) (xi_225 pc) (xi_226 pc))) (cond (Nat.blt m 228) (xi_227 pc) (cond (Nat.blt m 229) (xi_228 pc) (xi_229 pc)))) (cond (Nat.blt m 233) (cond (Nat.blt m 231) (xi_230 pc) (cond (Nat.blt m 232) (xi_231 pc) (xi_232 pc))) (cond (Nat.blt m 235) (cond (Nat.blt m 234) (xi_233 pc) (xi_234 pc)) (cond (Nat.blt m 236) (xi_235 pc) (xi_236 pc)))))) (cond (Nat.blt m 250) (cond (Nat.blt m 243) (cond (Nat.blt m 240) (cond (Nat.blt m 238) (xi_237 pc) (cond (Nat.blt m 239) (xi_238 pc) (xi_239 pc))) (cond (Nat.blt m 241) (xi_240 pc) (cond (Nat.blt m 242) (xi_241 pc) (xi_242 pc)))) (cond (Nat.blt m 246) (cond (Nat.blt m 244) (xi_243 pc) (cond (Nat.blt m 245) (xi_244 pc) (xi_245 pc))) (cond (Nat.blt m 248) (cond (Nat.blt m 247) (xi_246 pc) (xi_247 pc)) (cond (Nat.blt m 249) (xi_248 pc) (xi_249 pc))))) (cond (Nat.blt m 256) (cond (Nat.blt m 253) (cond (Nat.blt m 251) (xi_250 pc) (cond (Nat.blt m 252) (xi_251 pc) (xi_252 pc))) (cond (Nat.blt m 254) (xi_253 pc) (cond (Nat.blt m 255) (xi_254 pc) (xi_255 pc)))) (cond (Nat.blt m 259) (cond (Nat.blt m 257) (xi_256 pc) (cond (Nat.blt m 258) (xi_257 pc) (xi_258 pc))) (cond (Nat.blt m 261) (cond (Nat.blt m 260) (xi_259 pc) (xi_260 pc)) (cond (Nat.blt m 262) (xi_261 pc) (xi_262 pc))))))) (cond (Nat.blt m 289) (cond (Nat.blt m 276) (cond (Nat.blt m 269) (cond (Nat.blt m 266) (cond (Nat.blt m 264) (xi_263 pc) (cond (Nat.blt m 265) (xi_264 pc) (xi_265 pc))) (cond (Nat.blt m 267) (xi_266 pc) (cond (Nat.blt m 268) (xi_267 pc) (xi_268 pc)))) (cond (Nat.blt m 272) (cond (Nat.blt m 270) (xi_269 pc) (cond (Nat.blt m 271) (xi_270 pc) (xi_271 pc))) (cond (Nat.blt m 274) (cond (Nat.blt m 273) (xi_272 pc) (xi_273 pc)) (cond (Nat.blt m 275) (xi_274 pc) (xi_275 pc))))) (cond (Nat.blt m 282) (cond (Nat.blt m 279) (cond (Nat.blt m 277) (xi_276 pc) (cond (Nat.blt m 278) (xi_277 pc) (xi_278 pc))) (cond (Nat.blt m 280) (xi_279 pc) (cond (Nat.blt m 281) (xi_280 pc) (xi_281 pc)))) (cond (Nat.blt m 285) (cond (Nat.blt m 283) (xi_282 pc) (cond (Nat.blt m 284) (xi_283 pc) (xi_284 pc))) (cond (Nat.blt m 287) (cond (Nat.blt m 286) (xi_285 pc) (xi_286 pc)) (cond (Nat.blt m 288) (xi_287 pc) (xi_288 pc)))))) (cond (Nat.blt m 302) (cond (Nat.blt m 295) (cond (Nat.blt m 292) (cond (Nat.blt m 290) (xi_289 pc) (cond (Nat.blt m 291) (xi_290 pc) (xi_291 pc))) (cond (Nat.blt m 293) (xi_292 pc) (cond (Nat.blt m 294) (xi_293 pc) (xi_294 pc)))) (cond (Nat.blt m 298) (cond (Nat.blt m 296) (xi_295 pc) (cond (Nat.blt m 297) (xi_296 pc) (xi_297 pc))) (cond (Nat.blt m 300) (cond (Nat.blt m 299) (xi_298 pc) (xi_299 pc)) (cond (Nat.blt m 301) (xi_300 pc) (xi_301 pc))))) (cond (Nat.blt m 309) (cond (Nat.blt m 305) (cond (Nat.blt m 303) (xi_302 pc) (cond (Nat.blt m 304) (xi_303 pc) (xi_304 pc))) (cond (Nat.blt m 307) (cond (Nat.blt m 306) (xi_305 pc) (xi_306 pc)) (cond (Nat.blt m 308) (xi_307 pc) (xi_308 pc)))) (cond (Nat.blt m 312) (cond (Nat.blt m 310) (xi_309 pc) (cond (Nat.blt m 311) (xi_310 pc) (xi_311 pc))) (cond (Nat.blt m 314) (cond (Nat.blt m 313) (xi_312 pc) (xi_313 pc)) (cond (Nat.blt m 315) (xi_314 pc) (xi_315 pc)))))))) (cond (Nat.blt m 369) (cond (Nat.blt m 342) (cond (Nat.blt m 329) (cond (Nat.blt m 322) (cond (Nat.blt m 319) (cond (Nat.blt m 317) (xi_316 pc) (cond (Nat.blt m 318) (xi_317 pc) (xi_318 pc))) (cond (Nat.blt m 320) (xi_319 pc) (cond (Nat.blt m 321) (xi_320 pc) (xi_321 pc)))) (cond (Nat.blt m 325) (cond (Nat.blt m 323) (xi_322 pc) (cond (Nat.blt m 324) (xi_323 pc) (xi_324 pc))) (cond (Nat.blt m 327) (cond (Nat.blt m 326) (xi_325 pc) (xi_326 pc)) (cond (Nat.blt m 328) (xi_327 pc) (xi_328 pc))))) (cond (Nat.blt m 335) (cond (Nat.blt m 332) (cond (Nat.blt m 330) (xi_329 pc) (cond (Nat.blt m 331) (xi_330 pc) (xi_331 pc))) (cond (Nat.blt m 333) (xi_332 pc) (cond (Nat.blt m 334) (xi_333 pc) (xi_334 pc)))) (cond (Nat.blt m 338) (cond (Nat.blt m 336) (xi_335 pc) (cond (Nat.blt m 337) (xi_336 pc) (xi_337 pc))) (cond (Nat.blt m 340) (cond (Nat.blt m 339) (xi_338 pc) (xi_339 pc)) (cond (Nat.blt m 341) (xi_340 pc) (xi_341 pc)))))) (cond (Nat.blt m 355) (cond (Nat.blt m 348) (cond (Nat.blt m 345) (cond (Nat.blt m 343) (xi_342 pc) (cond (Nat.blt m 344) (xi_343 pc) (xi_344 pc))) (cond (Nat.blt m 346) (xi_345 pc) (cond (Nat.blt m 347) (xi_346 pc) (xi_347 pc)))) (cond (Nat.blt m 351) (cond (Nat.blt m 349) (xi_348 pc) (cond (Nat.blt m 350) (xi_349 pc) (xi_350 pc))) (cond (Nat.blt m 353) (cond (Nat.blt m 352) (xi_351 pc) (xi_352 pc)) (cond (Nat.blt m 354) (xi_353 pc) (xi_354 pc))))) (cond (Nat.blt m 362) (cond (Nat.blt m 358) (cond (Nat.blt m 356) (xi_355 pc) (cond (Nat.blt m 357) (xi_356 pc) (xi_357 pc))) (cond (Nat.blt m 360) (cond (Nat.blt m 359) (xi_358 pc) (xi_359 pc)) (cond (Nat.blt m 361) (xi_360 pc) (xi_361 pc)))) (cond (Nat.blt m 365) (cond (Nat.blt m 363) (xi_362 pc) (cond (Nat.blt m 364) (xi_363 pc) (xi_364 pc))) (cond (Nat.blt m 367) (cond (Nat.blt m 366) (xi_365 pc) (xi_366 pc)) (cond (Nat.blt m 368) (xi_367 pc) (xi_368 pc))))))) (cond (Nat.blt m 395) (cond (Nat.blt m 382) (cond (Nat.blt m 375) (cond (Nat.blt m 372) (cond (Nat.blt m 370) (xi_369 pc) (cond (Nat.blt m 371) (xi_370 pc) (xi_371 pc))) (cond (Nat.blt m 373) (xi_372 pc) (cond (Nat.blt m 374) (xi_373 pc) (xi_374 pc)))) (cond (Nat.blt m 378) (cond (Nat.blt m 376) (xi_375 pc) (cond (Nat.blt m 377) (xi_376 pc) (xi_377 pc))) (cond (Nat.blt m 380) (cond (Nat.blt m 379) (xi_378 pc) (xi_379 pc)) (cond (Nat.blt m 381) (xi_380 pc) (xi_381 pc))))) (cond (Nat.blt m 388) (cond (Nat.blt m 385) (cond (Nat.blt m 383) (xi_382 pc) (cond (Nat.blt m 384) (xi_383 pc) (xi_384 pc))) (cond (Nat.blt m 386) (xi_385 pc) (cond (Nat.blt m 387) (xi_386 pc) (xi_387 pc)))) (cond (Nat.blt m 391) (cond (Nat.blt m 389) (xi_388 pc) (cond (Nat.blt m 390) (xi_389 pc) (xi_390 pc))) (cond (Nat.blt m 393) (cond (Nat.blt m 392) (xi_391 pc) (xi_392 pc)) (cond (Nat.blt m 394) (xi_393 pc) (xi_394 pc)))))) (cond (Nat.blt m 408) (cond (Nat.blt m 401) (cond (Nat.blt m 398) (cond (Nat.blt m 396) (xi_395 pc) (cond (Nat.blt m 397) (xi_396 pc) (xi_397 pc))) (cond (Nat.blt m 399) (xi_398 pc) (cond (Nat.blt m 400) (xi_399 pc) (xi_400 pc)))) (cond (Nat.blt m 404) (cond (Nat.blt m 402) (xi_401 pc) (cond (Nat.blt m 403) (xi_402 pc) (xi_403 pc))) (cond (Nat.blt m 406) (cond (Nat.blt m 405) (xi_404 pc) (xi_405 pc)) (cond (Nat.blt m 407) (xi_406 pc) (xi_407 pc))))) (cond (Nat.blt m 415) (cond (Nat.blt m 411) (cond (Nat.blt m 409) (xi_408 pc) (cond (Nat.blt m 410) (xi_409 pc) (xi_410 pc))) (cond (Nat.blt m 413) (cond (Nat.blt m 412) (xi_411 pc) (xi_412 pc)) (cond (Nat.blt m 414) (xi_413 pc) (xi_414 pc)))) (cond (Nat.blt m 418) (cond (Nat.blt m 416) (xi_415 pc) (cond (Nat.blt m 417) (xi_416 pc) (xi_417 pc))) (cond (Nat.blt m 420) (cond (Nat.blt m 419) (xi_418 pc) (xi_419 pc)) (cond (Nat.blt m 421) (xi_420 pc) (xi_421 pc)))))))))
def xf_0 : List (Nat × Nat × Nat × Nat) := [(9, 0, 0, 513), (15, 0, 2, 515), (18, 0, 4, 517), (22, 0, 5, 518), (25, 0, 6, 519), (28, 0, 8, 521), (31, 3, 0, 220), (39, 0, 1, 514), (42, 3, 11, 294), (76, 0, 3, 516), (79, 0, 7, 520), (91, 3, 1, 232)]
def xf_1 : List (Nat × Nat × Nat × Nat) := [(11, 1, 0, 731), (15, 1, 1, 732), (19, 1, 2, 733), (22, 1, 3, 734), (25, 1, 5, 736), (29, 1, 6, 737), (32, 1, 7, 738), (35, 1, 8, 740), (43, 8, 1, 392), (50, 1, 4, 735), (68, 8, 3, 396), (80, 8, 5, 402), (98, 8, 4, 400), (116, 3, 1, 236), (119, 1, 9, 741), (142, 3, 16, 319), (145, 3, 17, 325), (148, 3, 6, 265), (151, 3, 8, 282), (167, 3, 5, 255), (186, 1, 10, 743), (189, 1, 11, 745), (192, 1, 12, 747), (203, 3, 12, 299)]
def xf_2 : List (Nat × Nat × Nat × Nat) := [(9, 2, 0, 547), (15, 2, 5, 553), (19, 2, 6, 554), (22, 2, 7, 555), (25, 2, 9, 557), (28, 2, 10, 558), (31, 2, 11, 559), (34, 2, 12, 560), (37, 2, 13, 561), (40, 2, 14, 562), (43, 2, 15, 563), (47, 2, 16, 564), (50, 3, 0, 221), (55, 2, 1, 548), (58, 2, 2, 549), (61, 2, 3, 550), (84, 3, 3, 244), (91, 3, 9, 285), (94, 3, 6, 259), (97, 3, 7, 269), (104, 2, 4, 551), (119, 2, 8, 556), (126, 3, 1, 234), (136, 3, 8, 280), (148, 2, 17, 565), (151, 2, 18, 567), (158, 3, 5, 256)]
def xf_3 : List (Nat × Nat × Nat × Nat) := [(9, 3, 5, 251), (15, 3, 6, 257), (18, 3, 7, 267), (21, 3, 8, 277), (24, 3, 9, 284), (27, 3, 10, 289), (30, 3, 11, 293), (33, 3, 12, 297), (36, 3, 13, 301), (39, 3, 14, 304), (42, 3, 15, 310), (45, 3, 16, 316), (48, 3, 17, 322), (51, 3, 4, 250), (61, 3, 0, 218), (64, 3, 1, 227), (67, 3, 2, 239), (70, 3, 3, 242)]
def xf_4 : List (Nat × Nat × Nat × Nat) := [(9, 4, 0, 657), (15, 4, 2, 659), (19, 4, 3, 660), (22, 4, 4, 661), (25, 4, 6, 663), (29, 4, 7, 664), (32, 4, 8, 665), (35, 4, 9, 666), (38, 4, 10, 667), (41, 3, 0, 222), (46, 4, 1, 658), (64, 3, 1, 230), (75, 3, 14, 305), (78, 3, 7, 271), (81, 3, 15, 311), (90, 3, 3, 246), (97, 3, 6, 261), (102, 4, 5, 662), (130, 3, 11, 296), (144, 3, 16, 318), (147, 3, 17, 324)]
def xf_5 : List (Nat × Nat × Nat × Nat) := [(12, 5, 0, 366), (18, 5, 1, 368), (21, 5, 2, 369), (25, 5, 3, 370), (28, 3, 0, 219), (45, 3, 1, 231), (78, 3, 5, 254), (93, 3, 6, 266), (96, 3, 7, 275), (99, 3, 8, 283), (102, 3, 9, 288), (105, 3, 10, 291), (108, 3, 2, 241), (111, 3, 3, 249), (128, 8, 3, 398), (135, 8, 4, 401), (138, 8, 5, 404)]
def xf_6 : List (Nat × Nat × Nat × Nat) := [(9, 6, 0, 488), (15, 6, 2, 490), (19, 6, 3, 491), (22, 6, 4, 492), (25, 6, 5, 493), (33, 3, 12, 298), (40, 3, 13, 302), (47, 3, 11, 295), (54, 3, 6, 260), (57, 3, 7, 272), (60, 3, 3, 245), (63, 3, 0, 224), (70, 6, 1, 489), (77, 3, 1, 235), (104, 3, 14, 307), (107, 3, 15, 313), (110, 3, 16, 320), (113, 3, 17, 326)]
def xf_7 : List (Nat × Nat × Nat × Nat) := [(9, 7, 0, 697), (15, 7, 1, 698), (18, 7, 2, 699), (22, 7, 3, 700), (25, 7, 4, 701), (29, 7, 5, 702), (32, 7, 6, 703), (35, 7, 7, 704), (38, 7, 8, 705), (46, 8, 1, 391), (62, 8, 0, 389), (108, 3, 1, 238), (111, 3, 14, 308), (114, 3, 15, 314), (117, 3, 7, 276), (120, 3, 10, 292)]
def xf_8 : List (Nat × Nat × Nat × Nat) := [(9, 8, 0, 388), (15, 8, 6, 405), (19, 8, 7, 407), (22, 8, 8, 409), (25, 8, 2, 395), (28, 8, 3, 397), (31, 8, 4, 399), (38, 8, 5, 403), (41, 8, 1, 393), (64, 8, 9, 411), (67, 3, 1, 237), (76, 3, 5, 253), (84, 3, 3, 248), (87, 3, 6, 263), (93, 3, 7, 274), (96, 3, 8, 281), (99, 3, 9, 287), (102, 3, 10, 290)]
def xf_9 : List (Nat × Nat × Nat × Nat) := [(9, 9, 1, 615), (15, 9, 2, 616), (18, 9, 3, 617), (22, 9, 4, 618), (25, 9, 5, 619), (28, 9, 6, 620), (31, 9, 7, 621), (34, 9, 8, 622), (37, 9, 9, 623), (41, 9, 11, 625), (48, 3, 1, 228), (69, 9, 0, 614), (72, 3, 3, 243), (79, 3, 6, 258), (82, 3, 7, 268), (85, 3, 8, 278), (107, 3, 0, 226), (114, 9, 10, 624)]
def xf_10 : List (Nat × Nat × Nat × Nat) := [(9, 10, 0, 441), (15, 10, 3, 444), (19, 10, 4, 445), (23, 10, 5, 446), (26, 10, 6, 447), (29, 10, 7, 448), (32, 10, 8, 449), (35, 10, 12, 453), (42, 10, 2, 443), (66, 3, 7, 270), (71, 3, 14, 306), (74, 3, 15, 312), (81, 3, 8, 279), (87, 3, 0, 225), (90, 10, 1, 442), (99, 3, 1, 233), (105, 3, 13, 303), (116, 3, 16, 317), (119, 3, 17, 323), (122, 3, 6, 262), (136, 3, 9, 286), (155, 10, 11, 452), (162, 10, 9, 450), (165, 10, 10, 451), (181, 3, 12, 300)]
def xf_11 : List (Nat × Nat × Nat × Nat) := [(10, 11, 0, 776), (19, 11, 1, 777), (23, 11, 2, 778), (30, 11, 3, 779), (37, 11, 4, 780), (44, 11, 5, 781), (51, 11, 6, 782), (58, 11, 7, 783), (65, 11, 8, 784), (72, 11, 9, 785), (79, 11, 10, 786), (86, 11, 11, 787), (98, 5, 0, 367), (101, 3, 1, 229), (130, 3, 0, 223), (148, 3, 5, 252), (164, 3, 2, 240), (171, 3, 3, 247), (176, 3, 6, 264), (179, 3, 7, 273), (188, 3, 15, 315), (191, 3, 14, 309), (197, 3, 17, 327), (200, 3, 16, 321), (203, 8, 1, 394), (206, 8, 0, 390), (214, 8, 6, 406), (217, 8, 7, 408), (224, 8, 9, 412), (227, 8, 8, 410), (289, 2, 4, 552), (301, 2, 17, 566), (304, 2, 18, 568), (355, 1, 9, 742), (356, 1, 7, 739), (360, 1, 10, 744), (363, 1, 11, 746), (366, 1, 12, 748)]
def xf_12 : List (Nat × Nat × Nat × Nat) := [(7, 12, 1, 2126), (13, 12, 2, 2127), (16, 12, 3, 2128), (20, 12, 4, 2129), (23, 12, 5, 2130), (26, 12, 6, 2131), (29, 12, 7, 2132), (32, 12, 8, 2133), (35, 12, 10, 2135), (38, 12, 11, 2136), (41, 12, 12, 2137), (44, 12, 13, 2138), (47, 12, 14, 2139), (50, 12, 15, 2140), (53, 12, 16, 2141), (56, 12, 17, 2142), (60, 12, 21, 2146), (63, 12, 25, 2150), (66, 12, 33, 2158), (69, 12, 34, 2159), (72, 12, 35, 2160), (75, 12, 36, 2161), (79, 12, 37, 2162), (82, 12, 38, 2163), (85, 12, 39, 2164), (88, 12, 41, 2166), (91, 12, 42, 2167), (94, 12, 43, 2168), (97, 12, 44, 2169), (100, 12, 45, 2170), (103, 12, 46, 2171), (106, 12, 47, 2172), (109, 12, 48, 2173), (112, 12, 49, 2174), (115, 12, 50, 2175), (118, 12, 51, 2176), (121, 12, 52, 2177), (124, 12, 54, 2179), (127, 12, 55, 2180), (130, 12, 56, 2181), (133, 12, 57, 2182), (136, 12, 58, 2183), (139, 12, 59, 2184), (142, 12, 60, 2185), (145, 12, 61, 2186), (148, 12, 62, 2187), (151, 12, 63, 2188), (154, 12, 64, 2189), (157, 12, 65, 2190), (160, 12, 66, 2191), (163, 12, 67, 2192), (166, 12, 68, 2193), (169, 12, 69, 2194), (172, 12, 70, 2195), (175, 12, 71, 2196), (178, 12, 72, 2197), (181, 12, 73, 2198), (184, 12, 74, 2199), (187, 12, 75, 2200), (190, 12, 76, 2201), (193, 12, 77, 2202), (196, 12, 78, 2203), (199, 12, 79, 2204), (202, 12, 82, 2207), (205, 12, 83, 2208), (208, 12, 84, 2209), (212, 12, 87, 2212), (215, 12, 88, 2213), (218, 12, 89, 2214), (221, 12, 90, 2215), (224, 12, 91, 2216), (227, 12, 92, 2217), (230, 12, 93, 2218), (233, 12, 94, 2219), (236, 12, 95, 2220), (239, 12, 102, 2227), (242, 12, 103, 2228), (245, 12, 104, 2229), (248, 12, 105, 2230), (251, 12, 106, 2231), (254, 12, 107, 2232), (257, 12, 108, 2233), (260, 12, 110, 2235), (263, 12, 114, 2239), (266, 12, 115, 2240), (269, 12, 119, 2244), (272, 12, 120, 2245), (278, 12, 0, 2125), (285, 12, 20, 2145), (288, 12, 19, 2144), (291, 12, 9, 2134), (301, 12, 18, 2143), (356, 12, 22, 2147), (359, 12, 23, 2148), (362, 12, 24, 2149), (365, 12, 27, 2152), (368, 12, 29, 2154), (371, 12, 28, 2153), (374, 12, 30, 2155), (384, 12, 31, 2156), (398, 12, 32, 2157), (418, 12, 26, 2151), (446, 12, 40, 2165), (495, 12, 53, 2178), (594, 12, 80, 2205), (615, 12, 96, 2221), (621, 12, 97, 2222), (624, 12, 98, 2223), (627, 12, 100, 2225), (634, 12, 101, 2226), (637, 12, 99, 2224), (656, 12, 81, 2206), (659, 12, 85, 2210), (662, 12, 86, 2211), (669, 12, 109, 2234), (672, 12, 111, 2236), (675, 12, 112, 2237), (729, 12, 113, 2238), (732, 12, 116, 2241), (735, 12, 117, 2242), (738, 12, 118, 2243), (741, 12, 121, 2246)]
def xf_13 : List (Nat × Nat × Nat × Nat) := []
def xf_14 : List (Nat × Nat × Nat × Nat) := []
def xf_15 : List (Nat × Nat × Nat × Nat) := []
def xf_16 : List (Nat × Nat × Nat × Nat) := []
def xf_17 : List (Nat × Nat × Nat × Nat) := []
def xf (m : Nat) : List (Nat × Nat × Nat × Nat) := cond (Nat.blt m 9) (cond (Nat.blt m 4) (cond (Nat.blt m 2) (cond (Nat.blt m 1) (xf_0) (xf_1)) (cond (Nat.blt m 3) (xf_2) (xf_3))) (cond (Nat.blt m 6) (cond (Nat.blt m 5) (xf_4) (xf_5)) (cond (Nat.blt m 7) (xf_6) (cond (Nat.blt m 8) (xf_7) (xf_8))))) (cond (Nat.blt m 13) (cond (Nat.blt m 11) (cond (Nat.blt m 10) (xf_9) (xf_10)) (cond (Nat.blt m 12) (xf_11) (xf_12))) (cond (Nat.blt m 15) (cond (Nat.blt m 14) (xf_13) (xf_14)) (cond (Nat.blt m 16) (xf_15) (cond (Nat.blt m 17) (xf_16) (xf_17)))))
def xl_0 : List (Nat × Nat × Nat × Nat × Nat) := [(3, 1000, 0, 512, 0), (36, 102, 0, 1741, 0), (45, 98, 0, 1742, 0), (49, 42, 4, 1743, 0), (53, 410, 1, 1747, 0), (59, 260, 1, 1748, 1), (62, 44, 1, 1760, 0), (66, 41, 1, 1764, 0), (70, 416, 2, 1765, 0), (82, 421, 2, 1766, 0), (88, 46, 3, 1767, 0), (94, 53, 3, 1796, 0), (98, 49, 2, 1771, 0), (102, 262, 3, 1779, 1), (106, 47, 3, 1780, 0), (109, 50, 2, 1792, 0), (112, 52, 2, 1784, 0), (115, 48, 2, 1789, 0), (118, 51, 1, 1775, 0), (122, 45, 1, 1800, 0), (125, 54, 4, 1804, 0), (129, 1001, 5, 1808, 0)]
def xl_1 : List (Nat × Nat × Nat × Nat × Nat) := [(5, 1000, 0, 730, 0), (38, 163, 0, 1271, 0), (46, 164, 2, 1272, 0), (53, 167, 2, 1273, 0), (57, 58, 2, 1274, 0), (61, 166, 1, 1301, 0), (65, 165, 2, 1302, 0), (71, 1001, 5, 1306, 0), (77, 59, 2, 1278, 0), (84, 57, 1, 1297, 0), (87, 60, 2, 1282, 0), (90, 61, 2, 1286, 0), (94, 62, 1, 1290, 0), (111, 102, 0, 2045, 0), (120, 420, 2, 2046, 0), (126, 64, 2, 2047, 0), (130, 65, 3, 2051, 0), (134, 66, 2, 2068, 0), (154, 69, 1, 2057, 0), (158, 419, 2, 2060, 0), (164, 417, 2, 2063, 0), (170, 99, 1, 2066, 0), (173, 100, 1, 2067, 0), (176, 67, 3, 2072, 0), (180, 68, 2, 2075, 0), (183, 415, 1, 2078, 0), (195, 71, 2, 2085, 0), (199, 72, 3, 2090, 0), (206, 260, 1, 2088, 1), (209, 410, 1, 2089, 0), (216, 73, 1, 2095, 0)]
def xl_2 : List (Nat × Nat × Nat × Nat × Nat) := [(3, 1000, 0, 546, 0), (65, 76, 1, 1820, 0), (70, 77, 2, 1827, 0), (74, 78, 2, 1832, 0), (78, 421, 2, 1824, 0), (87, 93, 1, 1825, 0), (100, 260, 1, 1831, 1), (108, 418, 2, 1837, 0), (113, 75, 3, 1857, 0), (122, 80, 2, 1859, 0), (129, 82, 1, 1867, 0), (132, 84, 1, 1876, 0), (139, 81, 4, 1863, 0), (145, 83, 1, 1872, 0), (154, 86, 2, 1891, 0)]
def xl_3 : List (Nat × Nat × Nat × Nat × Nat) := [(3, 1000, 0, 214, 0), (55, 421, 2, 215, 0), (73, 1001, 5, 833, 0), (79, 90, 1, 1610, 0), (83, 93, 1, 1172, 0), (86, 103, 2, 1164, 0)]
def xl_4 : List (Nat × Nat × Nat × Nat × Nat) := [(3, 1000, 0, 656, 0), (51, 420, 2, 1955, 0), (57, 102, 0, 1160, 0), (60, 106, 1, 1956, 0), (67, 99, 1, 1960, 0), (84, 109, 1, 1152, 0), (87, 260, 1, 1191, 1), (93, 93, 1, 1212, 0), (105, 110, 1, 1156, 0), (108, 111, 2, 1178, 0), (112, 94, 0, 1168, 0), (115, 95, 1, 1173, 0), (119, 421, 2, 1177, 0), (122, 113, 2, 1182, 0), (126, 114, 2, 1186, 0), (133, 112, 3, 1200, 0), (137, 115, 0, 1204, 0), (140, 116, 2, 1208, 0)]
def xl_5 : List (Nat × Nat × Nat × Nat × Nat) := [(3, 1000, 0, 208, 0), (11, 87, 0, 211, 0), (32, 90, 1, 1045, 0), (36, 257, 1, 1049, 1), (39, 258, 1, 1054, 1), (42, 256, 1, 1057, 1), (48, 125, 4, 1003, 0), (52, 97, 0, 1064, 0), (56, 126, 0, 1007, 0), (59, 127, 1, 1025, 0), (63, 418, 2, 1011, 0), (69, 416, 2, 1012, 0), (81, 128, 3, 1029, 0), (85, 101, 1, 1033, 0), (89, 129, 4, 1037, 0), (114, 88, 0, 1460, 0), (117, 89, 1, 829, 0), (119, 163, 0, 836, 0), (124, 167, 2, 840, 0), (131, 132, 1, 942, 0), (141, 133, 1, 946, 0), (151, 165, 2, 958, 0), (162, 166, 1, 987, 0), (165, 134, 1, 991, 0), (168, 164, 2, 1080, 0), (181, 118, 0, 995, 0), (184, 120, 1, 999, 0), (188, 119, 5, 1041, 0), (192, 121, 5, 1060, 0), (196, 92, 1, 1068, 0), (199, 122, 1, 1072, 0), (202, 123, 3, 1076, 0)]
def xl_6 : List (Nat × Nat × Nat × Nat × Nat) := [(3, 1000, 0, 487, 0), (28, 102, 0, 1656, 0), (36, 262, 3, 1657, 1), (43, 260, 1, 1658, 1), (50, 93, 1, 1674, 0), (66, 141, 1, 1697, 0), (73, 98, 0, 1701, 0), (80, 142, 2, 1702, 0), (84, 144, 1, 1716, 0), (87, 95, 1, 1720, 0), (91, 145, 1, 1721, 0), (94, 416, 2, 1725, 0), (100, 146, 2, 1726, 0), (116, 410, 1, 2005, 0)]
def xl_7 : List (Nat × Nat × Nat × Nat × Nat) := [(3, 1000, 0, 696, 0), (41, 163, 0, 1222, 0), (50, 164, 2, 1223, 0), (54, 151, 1, 1224, 0), (58, 154, 1, 1233, 0), (66, 152, 3, 1227, 0), (70, 153, 1, 1230, 0), (74, 420, 2, 1237, 0), (80, 155, 2, 1238, 0), (84, 156, 3, 1251, 0), (88, 157, 3, 1255, 0), (91, 158, 1, 1259, 0), (95, 261, 1, 1242, 1), (99, 102, 0, 2023, 0), (104, 160, 1, 2024, 0), (123, 161, 1, 2028, 0), (129, 1001, 5, 2033, 0)]
def xl_8 : List (Nat × Nat × Nat × Nat × Nat) := [(3, 1000, 0, 387, 0), (34, 164, 2, 962, 0), (44, 168, 1, 844, 0), (48, 169, 2, 848, 0), (52, 170, 2, 852, 0), (72, 173, 1, 1094, 0), (80, 172, 1, 1098, 0), (90, 174, 1, 1102, 0), (105, 414, 1, 1106, 0)]
def xl_9 : List (Nat × Nat × Nat × Nat × Nat) := [(3, 1000, 0, 613, 0), (44, 177, 1, 1905, 0), (53, 178, 2, 1909, 0), (59, 179, 2, 1915, 0), (63, 180, 2, 1920, 0), (66, 181, 0, 1924, 0), (75, 93, 1, 1124, 0), (90, 420, 2, 1121, 0), (96, 421, 2, 1919, 0), (99, 183, 3, 1939, 0), (103, 262, 3, 1942, 1), (110, 185, 1, 1117, 0), (119, 413, 2, 1129, 0), (125, 186, 2, 1132, 0), (129, 187, 2, 1136, 0), (135, 188, 2, 1141, 0)]
def xl_10 : List (Nat × Nat × Nat × Nat × Nat) := [(3, 1000, 0, 440, 0), (38, 194, 2, 1535, 0), (53, 412, 2, 1557, 0), (59, 413, 2, 1571, 0), (62, 192, 2, 1572, 0), (77, 193, 2, 1547, 0), (84, 102, 0, 1539, 0), (93, 420, 2, 1541, 0), (102, 195, 2, 1542, 0), (108, 262, 3, 1551, 1), (112, 260, 1, 1546, 1), (125, 421, 2, 1587, 0), (129, 98, 0, 1589, 0), (133, 197, 1, 1593, 0), (139, 418, 2, 1597, 0), (143, 416, 2, 1598, 0), (146, 200, 2, 1974, 0), (151, 203, 3, 1615, 0), (168, 204, 5, 1619, 0), (172, 206, 0, 1628, 0), (177, 205, 4, 1624, 0)]
def xl_11 : List (Nat × Nat × Nat × Nat × Nat) := [(1, 1000, 0, 200, 0), (9, 117, 0, 205, 1), (18, 87, 0, 381, 0), (29, 162, 0, 384, 1), (36, 189, 0, 437, 1), (43, 135, 0, 484, 1), (50, 40, 0, 509, 1), (57, 74, 0, 543, 1), (64, 175, 0, 610, 1), (71, 104, 0, 653, 1), (78, 149, 0, 693, 1), (85, 55, 0, 727, 1), (90, 256, 1, 1316, 0), (94, 1002, 1, 1317, 0), (104, 118, 0, 1382, 0), (108, 1003, 1, 1383, 0), (111, 120, 1, 1401, 0), (115, 119, 5, 1409, 0), (119, 121, 5, 1410, 0), (123, 92, 1, 1418, 0), (126, 122, 1, 1419, 0), (133, 259, 2, 1427, 0), (137, 96, 2, 1432, 0), (141, 123, 3, 1436, 0), (145, 90, 1, 1444, 0), (152, 124, 2, 1445, 0), (156, 130, 2, 1456, 0), (160, 255, 0, 1086, 0), (167, 94, 0, 1471, 0), (182, 102, 0, 1494, 0), (185, 99, 1, 1495, 0), (194, 100, 1, 1499, 0), (210, 131, 1, 825, 0), (220, 171, 1, 1090, 0), (230, 190, 3, 1531, 0), (234, 191, 4, 1567, 0), (238, 196, 3, 1583, 0), (242, 91, 2, 1606, 0), (245, 201, 3, 1611, 0), (248, 202, 5, 1639, 0), (252, 136, 2, 1652, 0), (256, 137, 2, 1659, 0), (259, 138, 2, 1670, 0), (263, 139, 2, 1682, 0), (266, 140, 2, 1693, 0), (269, 143, 2, 1712, 0), (272, 41, 1, 1737, 0), (275, 410, 1, 1194, 0), (280, 260, 1, 1554, 0), (283, 43, 2, 1756, 0), (286, 75, 3, 1816, 0), (293, 79, 4, 1853, 0), (297, 85, 1, 1887, 0), (308, 176, 2, 1901, 0), (312, 182, 2, 1935, 0), (315, 184, 1, 1113, 0), (318, 105, 3, 1950, 0), (321, 198, 3, 1970, 0), (324, 199, 4, 1979, 0), (327, 107, 2, 1990, 0), (330, 108, 1, 1148, 0), (334, 147, 1, 2001, 0), (337, 148, 1, 2007, 0), (340, 150, 1, 1218, 0), (344, 159, 3, 2019, 0), (347, 56, 1, 1267, 0), (348, 63, 2, 2041, 0), (351, 70, 5, 2081, 0), (377, 257, 1, 1430, 0), (380, 258, 1, 1431, 0), (383, 411, 1, 1245, 0)]
def xl_12 : List (Nat × Nat × Nat × Nat × Nat) := [(1, 1000, 0, 2120, 0), (275, 387, 0, 2121, 0), (281, 266, 2, 2505, 0), (294, 271, 2, 2513, 0), (298, 272, 0, 2517, 0), (308, 265, 3, 2502, 0), (314, 270, 7, 2509, 0), (318, 273, 1, 2525, 0), (322, 275, 1, 2529, 0), (325, 276, 1, 2534, 0), (329, 274, 1, 2542, 0), (334, 267, 1, 2559, 0), (340, 284, 1, 2572, 0), (349, 268, 1, 2587, 0), (377, 293, 1, 2621, 0), (380, 296, 1, 2624, 0), (388, 292, 1, 2634, 0), (391, 294, 2, 2630, 0), (401, 299, 0, 2613, 0), (404, 295, 0, 2617, 0), (407, 300, 0, 2637, 0), (410, 297, 2, 2641, 0), (414, 301, 2, 2645, 0), (421, 302, 1, 2653, 0), (424, 303, 1, 2657, 0), (427, 307, 2, 2677, 0), (430, 309, 2, 2684, 0), (433, 306, 3, 2673, 0), (437, 310, 2, 2669, 0), (440, 308, 2, 2680, 0), (449, 315, 3, 2706, 0), (453, 314, 5, 2710, 0), (457, 317, 4, 2714, 0), (461, 318, 5, 2718, 0), (464, 319, 2, 2730, 0), (467, 316, 2, 2702, 0), (470, 320, 0, 2726, 0), (473, 323, 1, 2750, 0), (476, 269, 1, 2742, 0), (479, 325, 2, 2746, 0), (482, 329, 2, 2765, 0), (485, 331, 0, 2777, 0), (488, 332, 1, 2781, 0), (491, 333, 0, 2773, 0), (498, 335, 1, 2796, 0), (501, 337, 1, 2792, 0), (504, 338, 2, 2800, 0), (507, 341, 2, 2804, 0), (510, 342, 2, 2816, 0), (513, 336, 1, 2808, 0), (516, 340, 4, 2812, 0), (519, 339, 1, 2788, 0), (522, 344, 1, 2831, 0), (527, 346, 1, 2836, 0), (531, 345, 1, 2840, 0), (534, 347, 2, 2844, 0), (538, 349, 2, 2823, 0), (541, 348, 2, 2827, 0), (547, 354, 1, 2857, 0), (550, 352, 1, 2861, 0), (553, 355, 1, 2873, 0), (556, 357, 0, 2877, 0), (559, 356, 0, 2869, 0), (562, 360, 2, 2885, 0), (565, 362, 2, 2893, 0), (578, 363, 2, 2905, 0), (590, 366, 4, 2921, 0), (597, 368, 2, 2941, 0), (600, 372, 1, 2933, 0), (603, 369, 2, 2937, 0), (606, 371, 2, 2945, 0), (609, 373, 0, 2949, 0), (612, 370, 0, 2929, 0), (618, 378, 0, 2969, 0), (630, 379, 2, 2977, 0), (640, 380, 0, 2973, 0), (643, 377, 0, 2965, 0), (646, 383, 3, 2981, 0), (650, 384, 2, 2985, 0), (653, 381, 0, 2989, 0), (665, 386, 4, 2997, 0), (678, 391, 0, 3025, 0), (681, 394, 1, 3048, 0), (684, 389, 2, 3017, 0), (687, 393, 0, 3029, 0), (690, 396, 0, 3021, 0), (692, 390, 1, 3033, 0), (695, 392, 1, 3036, 0), (698, 395, 1, 3044, 0), (701, 388, 0, 3009, 0), (704, 397, 0, 3013, 0), (708, 398, 1, 3040, 0), (712, 399, 1, 3005, 0), (718, 401, 1, 3062, 0), (722, 402, 2, 3069, 0), (744, 403, 2, 3057, 0), (747, 404, 1, 3065, 0), (750, 407, 3, 3072, 0), (754, 406, 3, 3076, 0)]
def xl_13 : List (Nat × Nat × Nat × Nat × Nat) := [(7, 208, 1, 1312, 0), (17, 209, 5, 1405, 0), (21, 210, 1, 1414, 0), (24, 211, 3, 1423, 0), (28, 212, 2, 1440, 0), (32, 213, 1, 1452, 0), (35, 215, 1, 1467, 0), (38, 216, 2, 1475, 0), (42, 217, 1, 1483, 0), (45, 218, 3, 1490, 0), (48, 219, 1, 1506, 0), (51, 222, 1, 1513, 0), (54, 224, 1, 1520, 0), (57, 225, 2, 1527, 0), (60, 226, 3, 1563, 0), (63, 227, 2, 1579, 0), (66, 228, 2, 1602, 0), (69, 229, 4, 1635, 0), (73, 230, 2, 1648, 0), (76, 231, 1, 1666, 0), (80, 232, 1, 1678, 0), (83, 233, 1, 1689, 0), (86, 234, 1, 1708, 0), (89, 235, 1, 1733, 0), (92, 236, 1, 1752, 0), (95, 237, 2, 1812, 0), (98, 238, 3, 1841, 0), (102, 239, 3, 1848, 0), (106, 240, 1, 1883, 0), (110, 241, 1, 1897, 0), (113, 242, 1, 1931, 0), (116, 244, 2, 1946, 0), (119, 245, 4, 1966, 0), (122, 246, 1, 1986, 0), (125, 248, 1, 1997, 0), (128, 250, 2, 2015, 0), (131, 252, 4, 2037, 0), (135, 253, 1, 2104, 0), (138, 254, 1, 2111, 0), (141, 207, 0, 197, 0), (144, 263, 0, 2117, 0), (145, 1, 3, 1307, 0), (150, 277, 1, 2497, 0), (151, 264, 0, 2493, 0), (155, 2, 7, 1402, 0), (158, 278, 5, 2521, 0), (159, 3, 3, 1411, 0), (161, 279, 1, 2538, 0), (162, 4, 5, 1420, 0), (165, 280, 3, 2546, 0), (166, 5, 4, 1437, 0), (169, 281, 2, 2550, 0), (170, 6, 3, 1449, 0), (172, 282, 1, 2554, 0), (173, 214, 0, 813, 0), (176, 283, 0, 2563, 0), (177, 7, 3, 1464, 0), (179, 285, 1, 2567, 0), (180, 8, 4, 1472, 0), (182, 286, 2, 2576, 0), (183, 9, 3, 1480, 0), (185, 287, 1, 2583, 0), (186, 10, 5, 1487, 0), (188, 288, 3, 2591, 0), (189, 11, 3, 1503, 0), (191, 289, 1, 2595, 0), (192, 220, 0, 817, 0), (195, 290, 0, 2601, 0), (196, 221, 0, 821, 0), (199, 298, 0, 2609, 0), (200, 12, 3, 1510, 0), (202, 291, 1, 2605, 0), (203, 223, 0, 1082, 0), (206, 304, 0, 2649, 0), (207, 13, 3, 1517, 0), (209, 305, 1, 2661, 0), (210, 14, 4, 1524, 0), (212, 311, 2, 2665, 0), (213, 15, 5, 1560, 0), (215, 312, 3, 2689, 0), (216, 16, 4, 1576, 0), (218, 313, 2, 2693, 0), (219, 17, 4, 1599, 0), (221, 321, 2, 2698, 0), (222, 18, 6, 1632, 0), (225, 322, 4, 2722, 0), (226, 19, 4, 1645, 0), (228, 324, 2, 2734, 0), (229, 20, 3, 1663, 0), (231, 326, 1, 2738, 0), (232, 21, 3, 1675, 0), (234, 327, 1, 2753, 0), (235, 22, 3, 1686, 0), (237, 328, 1, 2757, 0), (238, 23, 3, 1705, 0), (240, 330, 1, 2761, 0), (241, 24, 3, 1730, 0), (243, 334, 1, 2769, 0), (244, 25, 3, 1749, 0), (246, 343, 1, 2784, 0), (247, 26, 4, 1809, 0), (249, 350, 2, 2819, 0), (250, 27, 5, 1838, 0), (252, 351, 3, 2848, 0), (253, 28, 5, 1845, 0), (255, 353, 3, 2852, 0), (256, 29, 3, 1880, 0), (258, 358, 1, 2865, 0), (259, 30, 3, 1894, 0), (261, 359, 1, 2881, 0), (262, 31, 3, 1928, 0), (264, 361, 1, 2889, 0), (265, 243, 0, 1109, 0), (268, 364, 0, 2898, 0), (269, 32, 4, 1943, 0), (271, 365, 2, 2909, 0), (272, 33, 6, 1963, 0), (274, 367, 4, 2917, 0), (275, 34, 3, 1983, 0), (277, 374, 1, 2925, 0), (278, 247, 0, 1144, 0), (282, 375, 0, 2953, 0), (283, 35, 3, 1994, 0), (285, 376, 1, 2957, 0), (286, 249, 0, 1214, 0), (289, 382, 0, 2961, 0), (290, 36, 4, 2012, 0), (292, 385, 2, 2993, 0), (293, 251, 0, 1263, 0), (296, 400, 0, 3001, 0), (299, 37, 6, 2034, 0), (302, 405, 4, 3051, 0), (303, 38, 3, 2101, 0), (305, 408, 1, 3083, 0), (306, 39, 3, 2108, 0), (308, 409, 1, 3087, 0)]
def xl_14 : List (Nat × Nat × Nat × Nat × Nat) := []
def xl_15 : List (Nat × Nat × Nat × Nat × Nat) := []
def xl_16 : List (Nat × Nat × Nat × Nat × Nat) := []
def xl_17 : List (Nat × Nat × Nat × Nat × Nat) := [(150, 1001, 5, 1024, 0), (304, 418, 2, 1023, 0)]
def xl (m : Nat) : List (Nat × Nat × Nat × Nat × Nat) := cond (Nat.blt m 9) (cond (Nat.blt m 4) (cond (Nat.blt m 2) (cond (Nat.blt m 1) (xl_0) (xl_1)) (cond (Nat.blt m 3) (xl_2) (xl_3))) (cond (Nat.blt m 6) (cond (Nat.blt m 5) (xl_4) (xl_5)) (cond (Nat.blt m 7) (xl_6) (cond (Nat.blt m 8) (xl_7) (xl_8))))) (cond (Nat.blt m 13) (cond (Nat.blt m 11) (cond (Nat.blt m 10) (xl_9) (xl_10)) (cond (Nat.blt m 12) (xl_11) (xl_12))) (cond (Nat.blt m 15) (cond (Nat.blt m 14) (xl_13) (xl_14)) (cond (Nat.blt m 16) (xl_15) (cond (Nat.blt m 17) (xl_16) (xl_17)))))
def xw_0 : List (Nat × Nat × Nat) := []
def xw_1 : List (Nat × Nat × Nat) := []
def xw_2 : List (Nat × Nat × Nat) := []
def xw_3 : List (Nat × Nat × Nat) := []
def xw_4 : List (Nat × Nat × Nat) := []
def xw_5 : List (Nat × Nat × Nat) := [(9, 3, 209)]
def xw_6 : List (Nat × Nat × Nat) := []
def xw_7 : List (Nat × Nat × Nat) := []
def xw_8 : List (Nat × Nat × Nat) := []
def xw_9 : List (Nat × Nat × Nat) := []
def xw_10 : List (Nat × Nat × Nat) := []
def xw_11 : List (Nat × Nat × Nat) := [(7, 5, 203), (16, 3, 380), (27, 8, 382), (34, 10, 435), (41, 6, 482), (48, 0, 507), (55, 2, 541), (62, 9, 608), (69, 4, 651), (76, 7, 691), (83, 1, 725)]
def xw_12 : List (Nat × Nat × Nat) := []
def xw_13 : List (Nat × Nat × Nat) := [(8, 11, 195), (142, 12, 2115)]
def xw_14 : List (Nat × Nat × Nat) := []
def xw_15 : List (Nat × Nat × Nat) := []
def xw_16 : List (Nat × Nat × Nat) := []
def xw_17 : List (Nat × Nat × Nat) := []
def xw (m : Nat) : List (Nat × Nat × Nat) := cond (Nat.blt m 9) (cond (Nat.blt m 4) (cond (Nat.blt m 2) (cond (Nat.blt m 1) (xw_0) (xw_1)) (cond (Nat.blt m 3) (xw_2) (xw_3))) (cond (Nat.blt m 6) (cond (Nat.blt m 5) (xw_4) (xw_5)) (cond (Nat.blt m 7) (xw_6) (cond (Nat.blt m 8) (xw_7) (xw_8))))) (cond (Nat.blt m 13) (cond (Nat.blt m 11) (cond (Nat.blt m 10) (xw_9) (xw_10)) (cond (Nat.blt m 12) (xw_11) (xw_12))) (cond (Nat.blt m 15) (cond (Nat.blt m 14) (xw_13) (xw_14)) (cond (Nat.blt m 16) (xw_15) (cond (Nat.blt m 17) (xw_16) (xw_17)))))
def xa_0 : List (Nat × Int32 × Nat) := [(121, 32768, 1788)]
def xa_1 : List (Nat × Int32 × Nat) := [(83, 1000100, 1305), (93, 1000142, 1304), (101, 1000226, 1303), (110, 1000000, 1296)]
def xa_2 : List (Nat × Int32 × Nat) := [(69, 1000000, 1826), (107, 160000000, 1836)]
def xa_3 : List (Nat × Int32 × Nat) := []
def xa_4 : List (Nat × Int32 × Nat) := []
def xa_5 : List (Nat × Int32 × Nat) := []
def xa_6 : List (Nat × Int32 × Nat) := []
def xa_7 : List (Nat × Int32 × Nat) := []
def xa_8 : List (Nat × Int32 × Nat) := []
def xa_9 : List (Nat × Int32 × Nat) := []
def xa_10 : List (Nat × Int32 × Nat) := [(128, 1000001, 1588)]
def xa_11 : List (Nat × Int32 × Nat) := [(292, 200000000, 1852), (375, (-1000000), 1052), (376, 1000000, 1053)]
def xa_12 : List (Nat × Int32 × Nat) := [(445, 1000001, 2697)]
def xa_13 : List (Nat × Int32 × Nat) := []
def xa_14 : List (Nat × Int32 × Nat) := [(265, 1431655765, 1197), (266, 858993459, 1198), (267, 252645135, 1199)]
def xa_15 : List (Nat × Int32 × Nat) := []
def xa_16 : List (Nat × Int32 × Nat) := []
def xa_17 : List (Nat × Int32 × Nat) := []
def xa (m : Nat) : List (Nat × Int32 × Nat) := cond (Nat.blt m 9) (cond (Nat.blt m 4) (cond (Nat.blt m 2) (cond (Nat.blt m 1) (xa_0) (xa_1)) (cond (Nat.blt m 3) (xa_2) (xa_3))) (cond (Nat.blt m 6) (cond (Nat.blt m 5) (xa_4) (xa_5)) (cond (Nat.blt m 7) (xa_6) (cond (Nat.blt m 8) (xa_7) (xa_8))))) (cond (Nat.blt m 13) (cond (Nat.blt m 11) (cond (Nat.blt m 10) (xa_9) (xa_10)) (cond (Nat.blt m 12) (xa_11) (xa_12))) (cond (Nat.blt m 15) (cond (Nat.blt m 14) (xa_13) (xa_14)) (cond (Nat.blt m 16) (xa_15) (cond (Nat.blt m 17) (xa_16) (xa_17)))))
def xb_0 : List (Nat × Int64 × Nat) := []
def xb_1 : List (Nat × Int64 × Nat) := [(138, 1000000000000, 2055), (140, (-1000000000000), 2056), (214, (-7046029254386353131), 2094), (219, (-4658895280553007687), 2098), (221, (-7723592293110705685), 2099), (223, 100, 2100)]
def xb_2 : List (Nat × Int64 × Nat) := [(117, 9000000000000000, 1858), (143, 9223372036854775807, 1871)]
def xb_3 : List (Nat × Int64 × Nat) := []
def xb_4 : List (Nat × Int64 × Nat) := [(49, 1000000000000, 1954), (71, 85, 1961), (73, 100, 1962), (100, 4, 1213), (150, 2, 1190)]
def xb_5 : List (Nat × Int64 × Nat) := []
def xb_6 : List (Nat × Int64 × Nat) := [(121, 6, 2006), (123, 2, 2011)]
def xb_7 : List (Nat × Int64 × Nat) := [(127, (-1), 2032)]
def xb_8 : List (Nat × Int64 × Nat) := []
def xb_9 : List (Nat × Int64 × Nat) := [(57, 9000000000000000, 1914), (88, 9223372036854775807, 1913), (117, 1000000007, 1128), (133, 1000000005, 1140)]
def xb_10 : List (Nat × Int64 × Nat) := [(45, 9000000000000001, 1555), (47, 9223372036854775807, 1540), (49, 9000000000000000, 1556), (51, 1024, 1550), (149, 1000000007, 1978), (158, 7, 1643), (160, 255, 1644), (175, 137438953472000000, 1623)]
def xb_11 : List (Nat × Int64 × Nat) := [(174, 9000000000000000, 1479)]
def xb_12 : List (Nat × Int64 × Nat) := [(304, (-1000000), 2532), (306, 1000000, 2533), (312, 25, 2501), (332, (-1), 2558), (338, 3, 2571), (343, 159, 2580), (345, 4, 2581), (347, 9000000000000000, 2582), (352, 32, 2599), (354, 126, 2600), (394, 10, 2628), (396, 48, 2629), (443, 9000000000000001, 2688), (525, 1000000000, 2835), (545, 200000000, 2856), (568, 1000, 2897), (570, 2, 2908), (572, 1000000007, 2903), (574, 1000000006, 2902), (576, 1000000005, 2904), (582, 40, 2913), (584, 1000000000000, 2914), (586, 85, 2915), (588, 100, 2916), (716, (-1000000000000), 3061), (725, 200, 3055), (727, 90, 3056), (757, (-7046029254386353131), 3080), (759, (-4658895280553007687), 3081), (761, (-7723592293110705685), 3082)]
def xb_13 : List (Nat × Int64 × Nat) := [(297, 4294967295, 3091)]
def xb_14 : List (Nat × Int64 × Nat) := []
def xb_15 : List (Nat × Int64 × Nat) := [(314, 6148914691236517205, 1248), (316, 3689348814741910323, 1249), (318, 1085102592571150095, 1250)]
def xb_16 : List (Nat × Int64 × Nat) := []
def xb_17 : List (Nat × Int64 × Nat) := []
def xb (m : Nat) : List (Nat × Int64 × Nat) := cond (Nat.blt m 9) (cond (Nat.blt m 4) (cond (Nat.blt m 2) (cond (Nat.blt m 1) (xb_0) (xb_1)) (cond (Nat.blt m 3) (xb_2) (xb_3))) (cond (Nat.blt m 6) (cond (Nat.blt m 5) (xb_4) (xb_5)) (cond (Nat.blt m 7) (xb_6) (cond (Nat.blt m 8) (xb_7) (xb_8))))) (cond (Nat.blt m 13) (cond (Nat.blt m 11) (cond (Nat.blt m 10) (xb_9) (xb_10)) (cond (Nat.blt m 12) (xb_11) (xb_12))) (cond (Nat.blt m 15) (cond (Nat.blt m 14) (xb_13) (xb_14)) (cond (Nat.blt m 16) (xb_15) (cond (Nat.blt m 17) (xb_16) (xb_17)))))
def xck (p : Nat) (w : Cond) : Bool := decide (lw_tbl[p]? = some w) && goodWord w
theorem xck_ok {p : Nat} {w : Cond} (h : xck p w = true) : w ∈ am_T := by
  unfold xck at h
  rw [Bool.and_eq_true] at h
  exact am_at p (of_decide_eq_true h.1) h.2
/-- a field's link: its class's number, its place -/
def xf_ck (c : Nat) (q : Nat × Nat × Nat × Nat) : Bool := match vwCl[q.2.1]? with
  | some (_, T, N) => decide (q.2.2.1 < N) && xck q.2.2.2 (.fieldLink (xcls c) q.1 (T q.2.2.1).1 (T q.2.2.1).2.1 (T q.2.2.1).2.2.1)
  | none => false
def xl_ck (c : Nat) (q : Nat × Nat × Nat × Nat × Nat) : Bool :=
  if q.2.1 = 1000 then xck q.2.2.2.1 (.methodLink (xcls c) q.1 objectInit) else if q.2.1 = 1001 then xck q.2.2.2.1 (.methodLink (xcls c) q.1 arraycopyName) else if q.2.1 = 1002 then xck q.2.2.2.1 (.methodLink (xcls c) q.1 yX11_allow) else if q.2.1 = 1003 then xck q.2.2.2.1 (.methodLink (xcls c) q.1 yX11_ready)
  else if q.2.2.2.2 = 0 then xck q.2.2.2.1 (.methodLink (xcls c) q.1 (xy q.2.1)) && decide ((parseMethodDescriptor (xy q.2.1).desc).map (fun d => d.parameters.length) = some q.2.2.1)
  else decide (lw_tbl[q.2.2.2.1]? = some (.methodLinkNest (xcls c) q.1 (xy q.2.1) "GraphHouse")) && decide ((parseMethodDescriptor (xy q.2.1).desc).map (fun d => d.parameters.length) = some q.2.2.1)
def xw_ck (c : Nat) (q : Nat × Nat × Nat) : Bool := match vwCl[q.2.1]? with
  | some (Cn, _, _) => xck q.2.2 (.classLink (xcls c) q.1 Cn)
  | none => false
def xa_ck (c : Nat) (q : Nat × Int32 × Nat) : Bool := xck q.2.2 (.constant (xcls c) q.1 q.2.1)
def xb_ck (c : Nat) (q : Nat × Int64 × Nat) : Bool := xck q.2.2 (.constantLong (xcls c) q.1 q.2.1)
set_option maxRecDepth 100000 in
theorem xf_ok0 : xf_0.all (xf_ck 0) = true := by decide +kernel
set_option maxRecDepth 100000 in
theorem xf_ok1 : xf_1.all (xf_ck 1) = true := by decide +kernel
set_option maxRecDepth 100000 in
theorem xf_ok2 : xf_2.all (xf_ck 2) = true := by decide +kernel
set_option maxRecDepth 100000 in
theorem xf_ok3 : xf_3.all (xf_ck 3) = true := by decide +kernel
set_option maxRecDepth 100000 in
theorem xf_ok4 : xf_4.all (xf_ck 4) = true := by decide +kernel
set_option maxRecDepth 100000 in
theorem xf_ok5 : xf_5.all (xf_ck 5) = true := by decide +kernel
set_option maxRecDepth 100000 in
theorem xf_ok6 : xf_6.all (xf_ck 6) = true := by decide +kernel
set_option maxRecDepth 100000 in
theorem xf_ok7 : xf_7.all (xf_ck 7) = true := by decide +kernel
set_option maxRecDepth 100000 in
theorem xf_ok8 : xf_8.all (xf_ck 8) = true := by decide +kernel
set_option maxRecDepth 100000 in
theorem xf_ok9 : xf_9.all (xf_ck 9) = true := by decide +kernel
set_option maxRecDepth 100000 in
theorem xf_ok10 : xf_10.all (xf_ck 10) = true := by decide +kernel
set_option maxRecDepth 100000 in
theorem xf_ok11 : xf_11.all (xf_ck 11) = true := by decide +kernel
set_option maxRecDepth 100000 in
theorem xf_ok12 : xf_12.all (xf_ck 12) = true := by decide +kernel
set_option maxRecDepth 100000 in
theorem xf_ok13 : xf_13.all (xf_ck 13) = true := by decide +kernel
set_option maxRecDepth 100000 in
theorem xf_ok14 : xf_14.all (xf_ck 14) = true := by decide +kernel
set_option maxRecDepth 100000 in
theorem xf_ok15 : xf_15.all (xf_ck 15) = true := by decide +kernel
set_option maxRecDepth 100000 in
theorem xf_ok16 : xf_16.all (xf_ck 16) = true := by decide +kernel
set_option maxRecDepth 100000 in
theorem xf_ok17 : xf_17.all (xf_ck 17) = true := by decide +kernel
set_option maxRecDepth 100000 in
theorem xl_ok0 : xl_0.all (xl_ck 0) = true := by decide +kernel
set_option maxRecDepth 100000 in
theorem xl_ok1 : xl_1.all (xl_ck 1) = true := by decide +kernel
set_option maxRecDepth 100000 in
theorem xl_ok2 : xl_2.all (xl_ck 2) = true := by decide +kernel
set_option maxRecDepth 100000 in
theorem xl_ok3 : xl_3.all (xl_ck 3) = true := by decide +kernel
set_option maxRecDepth 100000 in
theorem xl_ok4 : xl_4.all (xl_ck 4) = true := by decide +kernel
set_option maxRecDepth 100000 in
theorem xl_ok5 : xl_5.all (xl_ck 5) = true := by decide +kernel
set_option maxRecDepth 100000 in
theorem xl_ok6 : xl_6.all (xl_ck 6) = true := by decide +kernel
set_option maxRecDepth 100000 in
theorem xl_ok7 : xl_7.all (xl_ck 7) = true := by decide +kernel
set_option maxRecDepth 100000 in
theorem xl_ok8 : xl_8.all (xl_ck 8) = true := by decide +kernel
set_option maxRecDepth 100000 in
theorem xl_ok9 : xl_9.all (xl_ck 9) = true := by decide +kernel
set_option maxRecDepth 100000 in
theorem xl_ok10 : xl_10.all (xl_ck 10) = true := by decide +kernel
set_option maxRecDepth 100000 in
theorem xl_ok11 : xl_11.all (xl_ck 11) = true := by decide +kernel
set_option maxRecDepth 100000 in
theorem xl_ok12 : xl_12.all (xl_ck 12) = true := by decide +kernel
set_option maxRecDepth 100000 in
theorem xl_ok13 : xl_13.all (xl_ck 13) = true := by decide +kernel
set_option maxRecDepth 100000 in
theorem xl_ok14 : xl_14.all (xl_ck 14) = true := by decide +kernel
set_option maxRecDepth 100000 in
theorem xl_ok15 : xl_15.all (xl_ck 15) = true := by decide +kernel
set_option maxRecDepth 100000 in
theorem xl_ok16 : xl_16.all (xl_ck 16) = true := by decide +kernel
set_option maxRecDepth 100000 in
theorem xl_ok17 : xl_17.all (xl_ck 17) = true := by decide +kernel
set_option maxRecDepth 100000 in
theorem xw_ok0 : xw_0.all (xw_ck 0) = true := by decide +kernel
set_option maxRecDepth 100000 in
theorem xw_ok1 : xw_1.all (xw_ck 1) = true := by decide +kernel
set_option maxRecDepth 100000 in
theorem xw_ok2 : xw_2.all (xw_ck 2) = true := by decide +kernel
set_option maxRecDepth 100000 in
theorem xw_ok3 : xw_3.all (xw_ck 3) = true := by decide +kernel
set_option maxRecDepth 100000 in
theorem xw_ok4 : xw_4.all (xw_ck 4) = true := by decide +kernel
set_option maxRecDepth 100000 in
theorem xw_ok5 : xw_5.all (xw_ck 5) = true := by decide +kernel
set_option maxRecDepth 100000 in
theorem xw_ok6 : xw_6.all (xw_ck 6) = true := by decide +kernel
set_option maxRecDepth 100000 in
theorem xw_ok7 : xw_7.all (xw_ck 7) = true := by decide +kernel
set_option maxRecDepth 100000 in
theorem xw_ok8 : xw_8.all (xw_ck 8) = true := by decide +kernel
set_option maxRecDepth 100000 in
theorem xw_ok9 : xw_9.all (xw_ck 9) = true := by decide +kernel
set_option maxRecDepth 100000 in
theorem xw_ok10 : xw_10.all (xw_ck 10) = true := by decide +kernel
set_option maxRecDepth 100000 in
theorem xw_ok11 : xw_11.all (xw_ck 11) = true := by decide +kernel
set_option maxRecDepth 100000 in
theorem xw_ok12 : xw_12.all (xw_ck 12) = true := by decide +kernel
set_option maxRecDepth 100000 in
theorem xw_ok13 : xw_13.all (xw_ck 13) = true := by decide +kernel
set_option maxRecDepth 100000 in
theorem xw_ok14 : xw_14.all (xw_ck 14) = true := by decide +kernel
set_option maxRecDepth 100000 in
theorem xw_ok15 : xw_15.all (xw_ck 15) = true := by decide +kernel
set_option maxRecDepth 100000 in
theorem xw_ok16 : xw_16.all (xw_ck 16) = true := by decide +kernel
set_option maxRecDepth 100000 in
theorem xw_ok17 : xw_17.all (xw_ck 17) = true := by decide +kernel
set_option maxRecDepth 100000 in
theorem xa_ok0 : xa_0.all (xa_ck 0) = true := by decide +kernel
set_option maxRecDepth 100000 in
theorem xa_ok1 : xa_1.all (xa_ck 1) = true := by decide +kernel
set_option maxRecDepth 100000 in
theorem xa_ok2 : xa_2.all (xa_ck 2) = true := by decide +kernel
set_option maxRecDepth 100000 in
theorem xa_ok3 : xa_3.all (xa_ck 3) = true := by decide +kernel
set_option maxRecDepth 100000 in
theorem xa_ok4 : xa_4.all (xa_ck 4) = true := by decide +kernel
set_option maxRecDepth 100000 in
theorem xa_ok5 : xa_5.all (xa_ck 5) = true := by decide +kernel
set_option maxRecDepth 100000 in
theorem xa_ok6 : xa_6.all (xa_ck 6) = true := by decide +kernel
set_option maxRecDepth 100000 in
theorem xa_ok7 : xa_7.all (xa_ck 7) = true := by decide +kernel
set_option maxRecDepth 100000 in
theorem xa_ok8 : xa_8.all (xa_ck 8) = true := by decide +kernel
set_option maxRecDepth 100000 in
theorem xa_ok9 : xa_9.all (xa_ck 9) = true := by decide +kernel
set_option maxRecDepth 100000 in
theorem xa_ok10 : xa_10.all (xa_ck 10) = true := by decide +kernel
set_option maxRecDepth 100000 in
theorem xa_ok11 : xa_11.all (xa_ck 11) = true := by decide +kernel
set_option maxRecDepth 100000 in
theorem xa_ok12 : xa_12.all (xa_ck 12) = true := by decide +kernel
set_option maxRecDepth 100000 in
theorem xa_ok13 : xa_13.all (xa_ck 13) = true := by decide +kernel
set_option maxRecDepth 100000 in
theorem xa_ok14 : xa_14.all (xa_ck 14) = true := by decide +kernel
set_option maxRecDepth 100000 in
theorem xa_ok15 : xa_15.all (xa_ck 15) = true := by decide +kernel
set_option maxRecDepth 100000 in
theorem xa_ok16 : xa_16.all (xa_ck 16) = true := by decide +kernel
set_option maxRecDepth 100000 in
theorem xa_ok17 : xa_17.all (xa_ck 17) = true := by decide +kernel
set_option maxRecDepth 100000 in
theorem xb_ok0 : xb_0.all (xb_ck 0) = true := by decide +kernel
set_option maxRecDepth 100000 in
theorem xb_ok1 : xb_1.all (xb_ck 1) = true := by decide +kernel
set_option maxRecDepth 100000 in
theorem xb_ok2 : xb_2.all (xb_ck 2) = true := by decide +kernel
set_option maxRecDepth 100000 in
theorem xb_ok3 : xb_3.all (xb_ck 3) = true := by decide +kernel
set_option maxRecDepth 100000 in
theorem xb_ok4 : xb_4.all (xb_ck 4) = true := by decide +kernel
set_option maxRecDepth 100000 in
theorem xb_ok5 : xb_5.all (xb_ck 5) = true := by decide +kernel
set_option maxRecDepth 100000 in
theorem xb_ok6 : xb_6.all (xb_ck 6) = true := by decide +kernel
set_option maxRecDepth 100000 in
theorem xb_ok7 : xb_7.all (xb_ck 7) = true := by decide +kernel
set_option maxRecDepth 100000 in
theorem xb_ok8 : xb_8.all (xb_ck 8) = true := by decide +kernel
set_option maxRecDepth 100000 in
theorem xb_ok9 : xb_9.all (xb_ck 9) = true := by decide +kernel
set_option maxRecDepth 100000 in
theorem xb_ok10 : xb_10.all (xb_ck 10) = true := by decide +kernel
set_option maxRecDepth 100000 in
theorem xb_ok11 : xb_11.all (xb_ck 11) = true := by decide +kernel
set_option maxRecDepth 100000 in
theorem xb_ok12 : xb_12.all (xb_ck 12) = true := by decide +kernel
set_option maxRecDepth 100000 in
theorem xb_ok13 : xb_13.all (xb_ck 13) = true := by decide +kernel
set_option maxRecDepth 100000 in
theorem xb_ok14 : xb_14.all (xb_ck 14) = true := by decide +kernel
set_option maxRecDepth 100000 in
theorem xb_ok15 : xb_15.all (xb_ck 15) = true := by decide +kernel
set_option maxRecDepth 100000 in
theorem xb_ok16 : xb_16.all (xb_ck 16) = true := by decide +kernel
set_option maxRecDepth 100000 in
theorem xb_ok17 : xb_17.all (xb_ck 17) = true := by decide +kernel
/-- a method's words by their places: code, static or instance, initialized, selects -/
def xm_ck (m : Nat) (q : Nat × Nat × Nat × Nat × Nat) : Bool := decide (xn m ≤ 45) && plainName (xy m).cls && decide ((xy m).cls = xcls (xo m)) && decide ((xy m).cls ≠ "java/lang/invoke/MethodHandle") && decide ((xy m).cls ≠ "java/lang/invoke/VarHandle") && (if xk m = 0 then xck q.2.1 (.code (xy m) (xc m) (xn m) (xr m)) else xck q.2.1 (.codeWith (xy m) (xc m) (xn m) (xr m) (xh m))) && (if q.1 = 1 then xck q.2.2.1 (.static (xy m)) else xck q.2.2.1 (.instanceMethod (xy m))) && xck q.2.2.2.1 (.initialized (xy m).cls) && (if q.1 = 0 && !decide ((xy m).name = "<init>") then xck q.2.2.2.2 (.selects (xy m).cls (xy m) (xy m)) else true)
def xm_f (m : Nat) : Nat × Nat × Nat × Nat × Nat := cond (Nat.blt m 211) (cond (Nat.blt m 105) (cond (Nat.blt m 52) (cond (Nat.blt m 26) (cond (Nat.blt m 13) (cond (Nat.blt m 6) (cond (Nat.blt m 3) (cond (Nat.blt m 1) ((0, 0, 0, 0, 0)) (cond (Nat.blt m 2) ((1, 1309, 1308, 166, 0)) ((1, 1404, 1403, 166, 0)))) (cond (Nat.blt m 4) ((1, 1413, 1412, 166, 0)) (cond (Nat.blt m 5) ((1, 1422, 1421, 166, 0)) ((1, 1439, 1438, 166, 0))))) (cond (Nat.blt m 9) (cond (Nat.blt m 7) ((1, 1451, 1450, 166, 0)) (cond (Nat.blt m 8) ((1, 1466, 1465, 166, 0)) ((1, 1474, 1473, 166, 0)))) (cond (Nat.blt m 11) (cond (Nat.blt m 10) ((1, 1482, 1481, 166, 0)) ((1, 1489, 1488, 166, 0))) (cond (Nat.blt m 12) ((1, 1505, 1504, 166, 0)) ((1, 1512, 1511, 166, 0)))))) (cond (Nat.blt m 19) (cond (Nat.blt m 16) (cond (Nat.blt m 14) ((1, 1519, 1518, 166, 0)) (cond (Nat.blt m 15) ((1, 1526, 1525, 166, 0)) ((1, 1562, 1561, 166, 0)))) (cond (Nat.blt m 17) ((1, 1578, 1577, 166, 0)) (cond (Nat.blt m 18) ((1, 1601, 1600, 166, 0)) ((1, 1634, 1633, 166, 0))))) (cond (Nat.blt m 22) (cond (Nat.blt m 20) ((1, 1647, 1646, 166, 0)) (cond (Nat.blt m 21) ((1, 1665, 1664, 166, 0)) ((1, 1677, 1676, 166, 0)))) (cond (Nat.blt m 24) (cond (Nat.blt m 23) ((1, 1688, 1687, 166, 0)) ((1, 1707, 1706, 166, 0))) (cond (Nat.blt m 25) ((1, 1732, 1731, 166, 0)) ((1, 1751, 1750, 166, 0))))))) (cond (Nat.blt m 39) (cond (Nat.blt m 32) (cond (Nat.blt m 29) (cond (Nat.blt m 27) ((1, 1811, 1810, 166, 0)) (cond (Nat.blt m 28) ((1, 1840, 1839, 166, 0)) ((1, 1847, 1846, 166, 0)))) (cond (Nat.blt m 30) ((1, 1882, 1881, 166, 0)) (cond (Nat.blt m 31) ((1, 1896, 1895, 166, 0)) ((1, 1930, 1929, 166, 0))))) (cond (Nat.blt m 35) (cond (Nat.blt m 33) ((1, 1945, 1944, 166, 0)) (cond (Nat.blt m 34) ((1, 1965, 1964, 166, 0)) ((1, 1985, 1984, 166, 0)))) (cond (Nat.blt m 37) (cond (Nat.blt m 36) ((1, 1996, 1995, 166, 0)) ((1, 2014, 2013, 166, 0))) (cond (Nat.blt m 38) ((1, 2036, 2035, 166, 0)) ((1, 2103, 2102, 166, 0)))))) (cond (Nat.blt m 45) (cond (Nat.blt m 42) (cond (Nat.blt m 40) ((1, 2110, 2109, 166, 0)) (cond (Nat.blt m 41) ((0, 511, 510, 174, 0)) ((0, 1740, 1738, 174, 1739)))) (cond (Nat.blt m 43) ((0, 1746, 1745, 174, 49)) (cond (Nat.blt m 44) ((0, 1759, 1757, 174, 1758)) ((0, 1763, 1762, 174, 50))))) (cond (Nat.blt m 48) (cond (Nat.blt m 46) ((0, 1803, 1802, 174, 58)) (cond (Nat.blt m 47) ((0, 1770, 1769, 174, 51)) ((0, 1783, 1782, 174, 54)))) (cond (Nat.blt m 50) (cond (Nat.blt m 49) ((1, 1791, 1790, 174, 0)) ((0, 1774, 1773, 174, 52))) (cond (Nat.blt m 51) ((0, 1795, 1794, 174, 56)) ((0, 1778, 1777, 174, 53)))))))) (cond (Nat.blt m 78) (cond (Nat.blt m 65) (cond (Nat.blt m 58) (cond (Nat.blt m 55) (cond (Nat.blt m 53) ((0, 1787, 1786, 174, 55)) (cond (Nat.blt m 54) ((0, 1799, 1798, 174, 57)) ((0, 1807, 1806, 174, 59)))) (cond (Nat.blt m 56) ((0, 729, 728, 179, 0)) (cond (Nat.blt m 57) ((0, 1270, 1268, 179, 1269)) ((0, 1300, 1299, 179, 35))))) (cond (Nat.blt m 61) (cond (Nat.blt m 59) ((0, 1277, 1276, 179, 30)) (cond (Nat.blt m 60) ((0, 1281, 1280, 179, 31)) ((0, 1285, 1284, 179, 32)))) (cond (Nat.blt m 63) (cond (Nat.blt m 62) ((0, 1289, 1288, 179, 33)) ((0, 1293, 1292, 179, 34))) (cond (Nat.blt m 64) ((0, 2044, 2042, 179, 2043)) ((0, 2050, 2049, 179, 77)))))) (cond (Nat.blt m 71) (cond (Nat.blt m 68) (cond (Nat.blt m 66) ((0, 2054, 2053, 179, 78)) (cond (Nat.blt m 67) ((0, 2071, 2070, 179, 79)) ((1, 2074, 2073, 179, 0)))) (cond (Nat.blt m 69) ((1, 2077, 2076, 179, 0)) (cond (Nat.blt m 70) ((1, 2059, 2058, 179, 0)) ((0, 2084, 2082, 179, 2083))))) (cond (Nat.blt m 74) (cond (Nat.blt m 72) ((1, 2087, 2086, 179, 0)) (cond (Nat.blt m 73) ((0, 2093, 2092, 179, 80)) ((1, 2097, 2096, 179, 0)))) (cond (Nat.blt m 76) (cond (Nat.blt m 75) ((0, 545, 544, 175, 0)) ((0, 1819, 1817, 175, 1818))) (cond (Nat.blt m 77) ((0, 1823, 1822, 175, 60)) ((0, 1830, 1829, 175, 61))))))) (cond (Nat.blt m 91) (cond (Nat.blt m 84) (cond (Nat.blt m 81) (cond (Nat.blt m 79) ((0, 1835, 1834, 175, 62)) (cond (Nat.blt m 80) ((0, 1856, 1854, 175, 1855)) ((0, 1862, 1861, 175, 63)))) (cond (Nat.blt m 82) ((0, 1866, 1865, 175, 64)) (cond (Nat.blt m 83) ((0, 1870, 1869, 175, 65)) ((0, 1875, 1874, 175, 66))))) (cond (Nat.blt m 87) (cond (Nat.blt m 85) ((0, 1879, 1878, 175, 67)) (cond (Nat.blt m 86) ((0, 1890, 1888, 175, 1889)) ((1, 1893, 1892, 175, 0)))) (cond (Nat.blt m 89) (cond (Nat.blt m 88) ((0, 213, 212, 169, 0)) ((0, 1463, 1461, 169, 1462))) (cond (Nat.blt m 90) ((0, 832, 830, 169, 831)) ((0, 1048, 1046, 169, 1047)))))) (cond (Nat.blt m 98) (cond (Nat.blt m 94) (cond (Nat.blt m 92) ((0, 1609, 1607, 169, 1608)) (cond (Nat.blt m 93) ((0, 1071, 1069, 169, 1070)) ((0, 1127, 1125, 169, 1126)))) (cond (Nat.blt m 96) (cond (Nat.blt m 95) ((0, 1171, 1169, 169, 1170)) ((0, 1176, 1174, 169, 1175))) (cond (Nat.blt m 97) ((0, 1435, 1433, 169, 1434)) ((0, 1067, 1065, 169, 1066))))) (cond (Nat.blt m 101) (cond (Nat.blt m 99) ((0, 1592, 1590, 169, 1591)) (cond (Nat.blt m 100) ((0, 1498, 1496, 169, 1497)) ((0, 1502, 1500, 169, 1501)))) (cond (Nat.blt m 103) (cond (Nat.blt m 102) ((0, 1036, 1034, 169, 1035)) ((0, 1163, 1161, 169, 1162))) (cond (Nat.blt m 104) ((0, 1167, 1166, 169, 18)) ((0, 655, 654, 177, 0))))))))) (cond (Nat.blt m 158) (cond (Nat.blt m 131) (cond (Nat.blt m 118) (cond (Nat.blt m 111) (cond (Nat.blt m 108) (cond (Nat.blt m 106) ((0, 1953, 1951, 177, 1952)) (cond (Nat.blt m 107) ((0, 1959, 1958, 177, 73)) ((0, 1993, 1991, 177, 1992)))) (cond (Nat.blt m 109) ((0, 1151, 1149, 177, 1150)) (cond (Nat.blt m 110) ((0, 1155, 1154, 177, 16)) ((0, 1159, 1158, 177, 17))))) (cond (Nat.blt m 114) (cond (Nat.blt m 112) ((0, 1181, 1180, 177, 19)) (cond (Nat.blt m 113) ((0, 1203, 1202, 177, 22)) ((0, 1185, 1184, 177, 20)))) (cond (Nat.blt m 116) (cond (Nat.blt m 115) ((0, 1189, 1188, 177, 21)) ((0, 1207, 1206, 177, 23))) (cond (Nat.blt m 117) ((0, 1211, 1210, 177, 24)) ((0, 207, 206, 168, 0)))))) (cond (Nat.blt m 124) (cond (Nat.blt m 121) (cond (Nat.blt m 119) ((0, 998, 996, 168, 997)) (cond (Nat.blt m 120) ((0, 1044, 1042, 168, 1043)) ((0, 1002, 1000, 168, 1001)))) (cond (Nat.blt m 122) ((0, 1063, 1061, 168, 1062)) (cond (Nat.blt m 123) ((0, 1075, 1073, 168, 1074)) ((0, 1079, 1077, 168, 1078))))) (cond (Nat.blt m 127) (cond (Nat.blt m 125) ((0, 1448, 1446, 168, 1447)) (cond (Nat.blt m 126) ((0, 1006, 1005, 168, 4)) ((0, 1010, 1009, 168, 5)))) (cond (Nat.blt m 129) (cond (Nat.blt m 128) ((0, 1028, 1027, 168, 6)) ((0, 1032, 1031, 168, 7))) (cond (Nat.blt m 130) ((0, 1040, 1039, 168, 8)) ((0, 1459, 1457, 168, 1458))))))) (cond (Nat.blt m 144) (cond (Nat.blt m 137) (cond (Nat.blt m 134) (cond (Nat.blt m 132) ((0, 828, 826, 168, 827)) (cond (Nat.blt m 133) ((0, 945, 944, 168, 2)) ((1, 948, 947, 168, 0)))) (cond (Nat.blt m 135) ((0, 994, 993, 168, 3)) (cond (Nat.blt m 136) ((0, 486, 485, 173, 0)) ((0, 1655, 1653, 173, 1654))))) (cond (Nat.blt m 140) (cond (Nat.blt m 138) ((0, 1662, 1660, 173, 1661)) (cond (Nat.blt m 139) ((0, 1673, 1671, 173, 1672)) ((0, 1685, 1683, 173, 1684)))) (cond (Nat.blt m 142) (cond (Nat.blt m 141) ((0, 1696, 1694, 173, 1695)) ((0, 1700, 1699, 173, 45))) (cond (Nat.blt m 143) ((1, 1704, 1703, 173, 0)) ((0, 1715, 1713, 173, 1714)))))) (cond (Nat.blt m 151) (cond (Nat.blt m 147) (cond (Nat.blt m 145) ((0, 1719, 1718, 173, 46)) (cond (Nat.blt m 146) ((0, 1724, 1723, 173, 47)) ((0, 1729, 1728, 173, 48)))) (cond (Nat.blt m 149) (cond (Nat.blt m 148) ((0, 2004, 2002, 173, 2003)) ((0, 2010, 2008, 173, 2009))) (cond (Nat.blt m 150) ((0, 695, 694, 178, 0)) ((0, 1221, 1219, 178, 1220))))) (cond (Nat.blt m 154) (cond (Nat.blt m 152) ((1, 1226, 1225, 178, 0)) (cond (Nat.blt m 153) ((1, 1229, 1228, 178, 0)) ((1, 1232, 1231, 178, 0)))) (cond (Nat.blt m 156) (cond (Nat.blt m 155) ((0, 1236, 1235, 178, 25)) ((0, 1241, 1240, 178, 26))) (cond (Nat.blt m 157) ((0, 1254, 1253, 178, 27)) ((0, 1258, 1257, 178, 28)))))))) (cond (Nat.blt m 184) (cond (Nat.blt m 171) (cond (Nat.blt m 164) (cond (Nat.blt m 161) (cond (Nat.blt m 159) ((0, 1262, 1261, 178, 29)) (cond (Nat.blt m 160) ((0, 2022, 2020, 178, 2021)) ((0, 2027, 2026, 178, 75)))) (cond (Nat.blt m 162) ((0, 2031, 2030, 178, 76)) (cond (Nat.blt m 163) ((0, 386, 385, 171, 0)) ((0, 839, 837, 171, 838))))) (cond (Nat.blt m 167) (cond (Nat.blt m 165) ((0, 965, 963, 171, 964)) (cond (Nat.blt m 166) ((0, 961, 959, 171, 960)) ((0, 990, 988, 171, 989)))) (cond (Nat.blt m 169) (cond (Nat.blt m 168) ((0, 843, 841, 171, 842)) ((0, 847, 846, 171, 0))) (cond (Nat.blt m 170) ((0, 851, 850, 171, 1)) ((1, 854, 853, 171, 0)))))) (cond (Nat.blt m 177) (cond (Nat.blt m 174) (cond (Nat.blt m 172) ((0, 1093, 1091, 171, 1092)) (cond (Nat.blt m 173) ((0, 1101, 1100, 171, 11)) ((0, 1097, 1096, 171, 10)))) (cond (Nat.blt m 175) ((0, 1105, 1104, 171, 12)) (cond (Nat.blt m 176) ((0, 612, 611, 176, 0)) ((0, 1904, 1902, 176, 1903))))) (cond (Nat.blt m 180) (cond (Nat.blt m 178) ((0, 1908, 1907, 176, 68)) (cond (Nat.blt m 179) ((0, 1912, 1911, 176, 69)) ((0, 1918, 1917, 176, 70)))) (cond (Nat.blt m 182) (cond (Nat.blt m 181) ((0, 1923, 1922, 176, 71)) ((0, 1927, 1926, 176, 72))) (cond (Nat.blt m 183) ((0, 1938, 1936, 176, 1937)) ((1, 1941, 1940, 176, 0))))))) (cond (Nat.blt m 197) (cond (Nat.blt m 190) (cond (Nat.blt m 187) (cond (Nat.blt m 185) ((0, 1116, 1114, 176, 1115)) (cond (Nat.blt m 186) ((0, 1120, 1119, 176, 13)) ((0, 1135, 1134, 176, 14)))) (cond (Nat.blt m 188) ((0, 1139, 1138, 176, 15)) (cond (Nat.blt m 189) ((1, 1143, 1142, 176, 0)) ((0, 439, 438, 172, 0))))) (cond (Nat.blt m 193) (cond (Nat.blt m 191) ((0, 1534, 1532, 172, 1533)) (cond (Nat.blt m 192) ((0, 1570, 1568, 172, 1569)) ((0, 1575, 1574, 172, 39)))) (cond (Nat.blt m 195) (cond (Nat.blt m 194) ((1, 1549, 1548, 172, 0)) ((0, 1538, 1537, 172, 37))) (cond (Nat.blt m 196) ((0, 1545, 1544, 172, 38)) ((0, 1586, 1584, 172, 1585)))))) (cond (Nat.blt m 204) (cond (Nat.blt m 200) (cond (Nat.blt m 198) ((0, 1596, 1595, 172, 40)) (cond (Nat.blt m 199) ((0, 1973, 1971, 172, 1972)) ((0, 1982, 1980, 172, 1981)))) (cond (Nat.blt m 202) (cond (Nat.blt m 201) ((0, 1977, 1976, 172, 74)) ((0, 1614, 1612, 172, 1613))) (cond (Nat.blt m 203) ((0, 1642, 1640, 172, 1641)) ((0, 1618, 1617, 172, 41))))) (cond (Nat.blt m 207) (cond (Nat.blt m 205) ((0, 1622, 1621, 172, 42)) (cond (Nat.blt m 206) ((0, 1627, 1626, 172, 43)) ((0, 1631, 1630, 172, 44)))) (cond (Nat.blt m 209) (cond (Nat.blt m 208) ((0, 199, 198, 167, 0)) ((0, 1315, 1313, 167, 1314))) (cond (Nat.blt m 210) ((0, 1408, 1406, 167, 1407)) ((0, 1417, 1415, 167, 1416)))))))))) (cond (Nat.blt m 316) (cond (Nat.blt m 263) (cond (Nat.blt m 237) (cond (Nat.blt m 224) (cond (Nat.blt m 217) (cond (Nat.blt m 214) (cond (Nat.blt m 212) ((0, 1426, 1424, 167, 1425)) (cond (Nat.blt m 213) ((0, 1443, 1441, 167, 1442)) ((0, 1455, 1453, 167, 1454)))) (cond (Nat.blt m 215) ((0, 816, 814, 167, 815)) (cond (Nat.blt m 216) ((0, 1470, 1468, 167, 1469)) ((0, 1478, 1476, 167, 1477))))) (cond (Nat.blt m 220) (cond (Nat.blt m 218) ((0, 1486, 1484, 167, 1485)) (cond (Nat.blt m 219) ((0, 1493, 1491, 167, 1492)) ((0, 1509, 1507, 167, 1508)))) (cond (Nat.blt m 222) (cond (Nat.blt m 221) ((0, 820, 818, 167, 819)) ((0, 824, 822, 167, 823))) (cond (Nat.blt m 223) ((0, 1516, 1514, 167, 1515)) ((0, 1085, 1083, 167, 1084)))))) (cond (Nat.blt m 230) (cond (Nat.blt m 227) (cond (Nat.blt m 225) ((0, 1523, 1521, 167, 1522)) (cond (Nat.blt m 226) ((0, 1530, 1528, 167, 1529)) ((0, 1566, 1564, 167, 1565)))) (cond (Nat.blt m 228) ((0, 1582, 1580, 167, 1581)) (cond (Nat.blt m 229) ((0, 1605, 1603, 167, 1604)) ((0, 1638, 1636, 167, 1637))))) (cond (Nat.blt m 233) (cond (Nat.blt m 231) ((0, 1651, 1649, 167, 1650)) (cond (Nat.blt m 232) ((0, 1669, 1667, 167, 1668)) ((0, 1681, 1679, 167, 1680)))) (cond (Nat.blt m 235) (cond (Nat.blt m 234) ((0, 1692, 1690, 167, 1691)) ((0, 1711, 1709, 167, 1710))) (cond (Nat.blt m 236) ((0, 1736, 1734, 167, 1735)) ((0, 1755, 1753, 167, 1754))))))) (cond (Nat.blt m 250) (cond (Nat.blt m 243) (cond (Nat.blt m 240) (cond (Nat.blt m 238) ((0, 1815, 1813, 167, 1814)) (cond (Nat.blt m 239) ((0, 1844, 1842, 167, 1843)) ((0, 1851, 1849, 167, 1850)))) (cond (Nat.blt m 241) ((0, 1886, 1884, 167, 1885)) (cond (Nat.blt m 242) ((0, 1900, 1898, 167, 1899)) ((0, 1934, 1932, 167, 1933))))) (cond (Nat.blt m 246) (cond (Nat.blt m 244) ((0, 1112, 1110, 167, 1111)) (cond (Nat.blt m 245) ((0, 1949, 1947, 167, 1948)) ((0, 1969, 1967, 167, 1968)))) (cond (Nat.blt m 248) (cond (Nat.blt m 247) ((0, 1989, 1987, 167, 1988)) ((0, 1147, 1145, 167, 1146))) (cond (Nat.blt m 249) ((0, 2000, 1998, 167, 1999)) ((0, 1217, 1215, 167, 1216)))))) (cond (Nat.blt m 256) (cond (Nat.blt m 253) (cond (Nat.blt m 251) ((0, 2018, 2016, 167, 2017)) (cond (Nat.blt m 252) ((0, 1266, 1264, 167, 1265)) ((0, 2040, 2038, 167, 2039)))) (cond (Nat.blt m 254) ((0, 2107, 2105, 167, 2106)) (cond (Nat.blt m 255) ((0, 2114, 2112, 167, 2113)) ((0, 1089, 1088, 167, 9))))) (cond (Nat.blt m 259) (cond (Nat.blt m 257) ((1, 1059, 1058, 167, 0)) (cond (Nat.blt m 258) ((1, 1051, 1050, 167, 0)) ((1, 1056, 1055, 167, 0)))) (cond (Nat.blt m 261) (cond (Nat.blt m 260) ((1, 1429, 1428, 167, 0)) ((1, 1193, 1192, 167, 0))) (cond (Nat.blt m 262) ((1, 1244, 1243, 167, 0)) ((1, 1553, 1552, 167, 0)))))))) (cond (Nat.blt m 289) (cond (Nat.blt m 276) (cond (Nat.blt m 269) (cond (Nat.blt m 266) (cond (Nat.blt m 264) ((0, 2119, 2118, 180, 0)) (cond (Nat.blt m 265) ((0, 2496, 2494, 180, 2495)) ((1, 2504, 2503, 180, 0)))) (cond (Nat.blt m 267) ((0, 2508, 2507, 180, 82)) (cond (Nat.blt m 268) ((0, 2562, 2561, 180, 89)) ((0, 2590, 2589, 180, 91))))) (cond (Nat.blt m 272) (cond (Nat.blt m 270) ((0, 2745, 2744, 180, 112)) (cond (Nat.blt m 271) ((0, 2512, 2511, 180, 83)) ((0, 2516, 2515, 180, 84)))) (cond (Nat.blt m 274) (cond (Nat.blt m 273) ((0, 2520, 2519, 180, 85)) ((0, 2528, 2527, 180, 86))) (cond (Nat.blt m 275) ((0, 2545, 2544, 180, 88)) ((1, 2531, 2530, 180, 0)))))) (cond (Nat.blt m 282) (cond (Nat.blt m 279) (cond (Nat.blt m 277) ((0, 2537, 2536, 180, 87)) (cond (Nat.blt m 278) ((0, 2500, 2498, 180, 2499)) ((0, 2524, 2522, 180, 2523)))) (cond (Nat.blt m 280) ((0, 2541, 2539, 180, 2540)) (cond (Nat.blt m 281) ((0, 2549, 2547, 180, 2548)) ((0, 2553, 2551, 180, 2552))))) (cond (Nat.blt m 285) (cond (Nat.blt m 283) ((0, 2557, 2555, 180, 2556)) (cond (Nat.blt m 284) ((0, 2566, 2564, 180, 2565)) ((0, 2575, 2574, 180, 90)))) (cond (Nat.blt m 287) (cond (Nat.blt m 286) ((0, 2570, 2568, 180, 2569)) ((0, 2579, 2577, 180, 2578))) (cond (Nat.blt m 288) ((0, 2586, 2584, 180, 2585)) ((0, 2594, 2592, 180, 2593))))))) (cond (Nat.blt m 302) (cond (Nat.blt m 295) (cond (Nat.blt m 292) (cond (Nat.blt m 290) ((0, 2598, 2596, 180, 2597)) (cond (Nat.blt m 291) ((0, 2604, 2602, 180, 2603)) ((0, 2608, 2606, 180, 2607)))) (cond (Nat.blt m 293) ((1, 2636, 2635, 180, 0)) (cond (Nat.blt m 294) ((1, 2623, 2622, 180, 0)) ((0, 2633, 2632, 180, 95))))) (cond (Nat.blt m 298) (cond (Nat.blt m 296) ((0, 2620, 2619, 180, 93)) (cond (Nat.blt m 297) ((0, 2627, 2626, 180, 94)) ((0, 2644, 2643, 180, 97)))) (cond (Nat.blt m 300) (cond (Nat.blt m 299) ((0, 2612, 2610, 180, 2611)) ((0, 2616, 2615, 180, 92))) (cond (Nat.blt m 301) ((0, 2640, 2639, 180, 96)) ((0, 2648, 2647, 180, 98)))))) (cond (Nat.blt m 309) (cond (Nat.blt m 305) (cond (Nat.blt m 303) ((0, 2656, 2655, 180, 99)) (cond (Nat.blt m 304) ((0, 2660, 2659, 180, 100)) ((0, 2652, 2650, 180, 2651)))) (cond (Nat.blt m 307) (cond (Nat.blt m 306) ((0, 2664, 2662, 180, 2663)) ((0, 2676, 2675, 180, 102))) (cond (Nat.blt m 308) ((1, 2679, 2678, 180, 0)) ((0, 2683, 2682, 180, 103))))) (cond (Nat.blt m 312) (cond (Nat.blt m 310) ((0, 2687, 2686, 180, 104)) (cond (Nat.blt m 311) ((0, 2672, 2671, 180, 101)) ((0, 2668, 2666, 180, 2667)))) (cond (Nat.blt m 314) (cond (Nat.blt m 313) ((0, 2692, 2690, 180, 2691)) ((0, 2696, 2694, 180, 2695))) (cond (Nat.blt m 315) ((0, 2713, 2712, 180, 107)) ((0, 2709, 2708, 180, 106))))))))) (cond (Nat.blt m 369) (cond (Nat.blt m 342) (cond (Nat.blt m 329) (cond (Nat.blt m 322) (cond (Nat.blt m 319) (cond (Nat.blt m 317) ((0, 2705, 2704, 180, 105)) (cond (Nat.blt m 318) ((0, 2717, 2716, 180, 108)) ((0, 2721, 2720, 180, 109)))) (cond (Nat.blt m 320) ((0, 2733, 2732, 180, 111)) (cond (Nat.blt m 321) ((0, 2729, 2728, 180, 110)) ((0, 2701, 2699, 180, 2700))))) (cond (Nat.blt m 325) (cond (Nat.blt m 323) ((0, 2725, 2723, 180, 2724)) (cond (Nat.blt m 324) ((1, 2752, 2751, 180, 0)) ((0, 2737, 2735, 180, 2736)))) (cond (Nat.blt m 327) (cond (Nat.blt m 326) ((0, 2749, 2748, 180, 113)) ((0, 2741, 2739, 180, 2740))) (cond (Nat.blt m 328) ((0, 2756, 2754, 180, 2755)) ((0, 2760, 2758, 180, 2759)))))) (cond (Nat.blt m 335) (cond (Nat.blt m 332) (cond (Nat.blt m 330) ((0, 2768, 2767, 180, 114)) (cond (Nat.blt m 331) ((0, 2764, 2762, 180, 2763)) ((0, 2780, 2779, 180, 116)))) (cond (Nat.blt m 333) ((1, 2783, 2782, 180, 0)) (cond (Nat.blt m 334) ((0, 2776, 2775, 180, 115)) ((0, 2772, 2770, 180, 2771))))) (cond (Nat.blt m 338) (cond (Nat.blt m 336) ((0, 2799, 2798, 180, 119)) (cond (Nat.blt m 337) ((0, 2811, 2810, 180, 122)) ((0, 2795, 2794, 180, 118)))) (cond (Nat.blt m 340) (cond (Nat.blt m 339) ((0, 2803, 2802, 180, 120)) ((0, 2791, 2790, 180, 117))) (cond (Nat.blt m 341) ((0, 2815, 2814, 180, 123)) ((0, 2807, 2806, 180, 121))))))) (cond (Nat.blt m 355) (cond (Nat.blt m 348) (cond (Nat.blt m 345) (cond (Nat.blt m 343) ((1, 2818, 2817, 180, 0)) (cond (Nat.blt m 344) ((0, 2787, 2785, 180, 2786)) ((0, 2834, 2833, 180, 126)))) (cond (Nat.blt m 346) ((0, 2843, 2842, 180, 128)) (cond (Nat.blt m 347) ((0, 2839, 2838, 180, 127)) ((0, 2847, 2846, 180, 129))))) (cond (Nat.blt m 351) (cond (Nat.blt m 349) ((0, 2830, 2829, 180, 125)) (cond (Nat.blt m 350) ((0, 2826, 2825, 180, 124)) ((0, 2822, 2820, 180, 2821)))) (cond (Nat.blt m 353) (cond (Nat.blt m 352) ((0, 2851, 2849, 180, 2850)) ((0, 2864, 2863, 180, 131))) (cond (Nat.blt m 354) ((0, 2855, 2853, 180, 2854)) ((0, 2860, 2859, 180, 130)))))) (cond (Nat.blt m 362) (cond (Nat.blt m 358) (cond (Nat.blt m 356) ((0, 2876, 2875, 180, 133)) (cond (Nat.blt m 357) ((0, 2872, 2871, 180, 132)) ((0, 2880, 2879, 180, 134)))) (cond (Nat.blt m 360) (cond (Nat.blt m 359) ((0, 2868, 2866, 180, 2867)) ((0, 2884, 2882, 180, 2883))) (cond (Nat.blt m 361) ((0, 2888, 2887, 180, 135)) ((0, 2892, 2890, 180, 2891))))) (cond (Nat.blt m 365) (cond (Nat.blt m 363) ((0, 2896, 2895, 180, 136)) (cond (Nat.blt m 364) ((1, 2907, 2906, 180, 0)) ((0, 2901, 2899, 180, 2900)))) (cond (Nat.blt m 367) (cond (Nat.blt m 366) ((0, 2912, 2910, 180, 2911)) ((0, 2924, 2923, 180, 137))) (cond (Nat.blt m 368) ((0, 2920, 2918, 180, 2919)) ((0, 2944, 2943, 180, 141)))))))) (cond (Nat.blt m 395) (cond (Nat.blt m 382) (cond (Nat.blt m 375) (cond (Nat.blt m 372) (cond (Nat.blt m 370) ((0, 2940, 2939, 180, 140)) (cond (Nat.blt m 371) ((0, 2932, 2931, 180, 138)) ((0, 2948, 2947, 180, 142)))) (cond (Nat.blt m 373) ((0, 2936, 2935, 180, 139)) (cond (Nat.blt m 374) ((0, 2952, 2951, 180, 143)) ((0, 2928, 2926, 180, 2927))))) (cond (Nat.blt m 378) (cond (Nat.blt m 376) ((0, 2956, 2954, 180, 2955)) (cond (Nat.blt m 377) ((0, 2960, 2958, 180, 2959)) ((0, 2968, 2967, 180, 144)))) (cond (Nat.blt m 380) (cond (Nat.blt m 379) ((0, 2972, 2971, 180, 145)) ((0, 2980, 2979, 180, 147))) (cond (Nat.blt m 381) ((0, 2976, 2975, 180, 146)) ((0, 2992, 2991, 180, 150)))))) (cond (Nat.blt m 388) (cond (Nat.blt m 385) (cond (Nat.blt m 383) ((0, 2964, 2962, 180, 2963)) (cond (Nat.blt m 384) ((0, 2984, 2983, 180, 148)) ((0, 2988, 2987, 180, 149)))) (cond (Nat.blt m 386) ((0, 2996, 2994, 180, 2995)) (cond (Nat.blt m 387) ((0, 3000, 2999, 180, 151)) ((0, 2124, 2123, 180, 81))))) (cond (Nat.blt m 391) (cond (Nat.blt m 389) ((0, 3012, 3011, 180, 153)) (cond (Nat.blt m 390) ((0, 3020, 3019, 180, 155)) ((1, 3035, 3034, 180, 0)))) (cond (Nat.blt m 393) (cond (Nat.blt m 392) ((0, 3028, 3027, 180, 157)) ((0, 3039, 3038, 180, 159))) (cond (Nat.blt m 394) ((0, 3032, 3031, 180, 158)) ((1, 3050, 3049, 180, 0))))))) (cond (Nat.blt m 408) (cond (Nat.blt m 401) (cond (Nat.blt m 398) (cond (Nat.blt m 396) ((0, 3047, 3046, 180, 161)) (cond (Nat.blt m 397) ((0, 3024, 3023, 180, 156)) ((0, 3016, 3015, 180, 154)))) (cond (Nat.blt m 399) ((0, 3043, 3042, 180, 160)) (cond (Nat.blt m 400) ((0, 3008, 3007, 180, 152)) ((0, 3004, 3002, 180, 3003))))) (cond (Nat.blt m 404) (cond (Nat.blt m 402) ((1, 3064, 3063, 180, 0)) (cond (Nat.blt m 403) ((1, 3071, 3070, 180, 0)) ((0, 3060, 3059, 180, 162)))) (cond (Nat.blt m 406) (cond (Nat.blt m 405) ((0, 3068, 3067, 180, 163)) ((0, 3054, 3052, 180, 3053))) (cond (Nat.blt m 407) ((0, 3079, 3078, 180, 165)) ((0, 3075, 3074, 180, 164)))))) (cond (Nat.blt m 415) (cond (Nat.blt m 411) (cond (Nat.blt m 409) ((0, 3086, 3084, 180, 3085)) (cond (Nat.blt m 410) ((0, 3090, 3088, 180, 3089)) ((1, 1196, 1195, 193, 0)))) (cond (Nat.blt m 413) (cond (Nat.blt m 412) ((1, 1247, 1246, 194, 0)) ((1, 1559, 1558, 186, 0))) (cond (Nat.blt m 414) ((1, 1131, 1130, 186, 0)) ((1, 1108, 1107, 186, 0))))) (cond (Nat.blt m 418) (cond (Nat.blt m 416) ((1, 2080, 2079, 186, 0)) (cond (Nat.blt m 417) ((1, 886, 885, 186, 0)) ((1, 2065, 2064, 186, 0)))) (cond (Nat.blt m 420) (cond (Nat.blt m 419) ((1, 889, 888, 186, 0)) ((1, 2062, 2061, 186, 0))) (cond (Nat.blt m 421) ((1, 1123, 1122, 170, 0)) ((1, 217, 216, 170, 0))))))))))
/-- 1 static -/
def xsta (m : Nat) : Nat := (xm_f m).1
set_option maxRecDepth 100000 in
theorem xm_ok1 : ((List.range' 1 40).all (fun m => xm_ck m (xm_f m))) = true := by decide +kernel
set_option maxRecDepth 100000 in
theorem xm_ok41 : ((List.range' 41 40).all (fun m => xm_ck m (xm_f m))) = true := by decide +kernel
set_option maxRecDepth 100000 in
theorem xm_ok81 : ((List.range' 81 40).all (fun m => xm_ck m (xm_f m))) = true := by decide +kernel
set_option maxRecDepth 100000 in
theorem xm_ok121 : ((List.range' 121 40).all (fun m => xm_ck m (xm_f m))) = true := by decide +kernel
set_option maxRecDepth 100000 in
theorem xm_ok161 : ((List.range' 161 40).all (fun m => xm_ck m (xm_f m))) = true := by decide +kernel
set_option maxRecDepth 100000 in
theorem xm_ok201 : ((List.range' 201 40).all (fun m => xm_ck m (xm_f m))) = true := by decide +kernel
set_option maxRecDepth 100000 in
theorem xm_ok241 : ((List.range' 241 40).all (fun m => xm_ck m (xm_f m))) = true := by decide +kernel
set_option maxRecDepth 100000 in
theorem xm_ok281 : ((List.range' 281 40).all (fun m => xm_ck m (xm_f m))) = true := by decide +kernel
set_option maxRecDepth 100000 in
theorem xm_ok321 : ((List.range' 321 40).all (fun m => xm_ck m (xm_f m))) = true := by decide +kernel
set_option maxRecDepth 100000 in
theorem xm_ok361 : ((List.range' 361 40).all (fun m => xm_ck m (xm_f m))) = true := by decide +kernel
set_option maxRecDepth 100000 in
theorem xm_ok401 : ((List.range' 401 21).all (fun m => xm_ck m (xm_f m))) = true := by decide +kernel
def xbud (m : Nat) : Nat × Nat := cond (Nat.blt m 211) (cond (Nat.blt m 105) (cond (Nat.blt m 52) (cond (Nat.blt m 26) (cond (Nat.blt m 13) (cond (Nat.blt m 6) (cond (Nat.blt m 3) (cond (Nat.blt m 1) ((4, 24)) (cond (Nat.blt m 2) ((4, 24)) ((4, 24)))) (cond (Nat.blt m 4) ((4, 24)) (cond (Nat.blt m 5) ((4, 24)) ((4, 24))))) (cond (Nat.blt m 9) (cond (Nat.blt m 7) ((4, 24)) (cond (Nat.blt m 8) ((4, 24)) ((4, 24)))) (cond (Nat.blt m 11) (cond (Nat.blt m 10) ((4, 24)) ((4, 24))) (cond (Nat.blt m 12) ((4, 24)) ((4, 24)))))) (cond (Nat.blt m 19) (cond (Nat.blt m 16) (cond (Nat.blt m 14) ((4, 24)) (cond (Nat.blt m 15) ((4, 24)) ((4, 24)))) (cond (Nat.blt m 17) ((4, 24)) (cond (Nat.blt m 18) ((4, 24)) ((4, 24))))) (cond (Nat.blt m 22) (cond (Nat.blt m 20) ((4, 24)) (cond (Nat.blt m 21) ((4, 24)) ((4, 24)))) (cond (Nat.blt m 24) (cond (Nat.blt m 23) ((4, 24)) ((4, 24))) (cond (Nat.blt m 25) ((4, 24)) ((4, 24))))))) (cond (Nat.blt m 39) (cond (Nat.blt m 32) (cond (Nat.blt m 29) (cond (Nat.blt m 27) ((4, 24)) (cond (Nat.blt m 28) ((4, 24)) ((4, 24)))) (cond (Nat.blt m 30) ((4, 24)) (cond (Nat.blt m 31) ((4, 24)) ((4, 24))))) (cond (Nat.blt m 35) (cond (Nat.blt m 33) ((4, 24)) (cond (Nat.blt m 34) ((4, 24)) ((4, 24)))) (cond (Nat.blt m 37) (cond (Nat.blt m 36) ((4, 24)) ((4, 24))) (cond (Nat.blt m 38) ((4, 24)) ((4, 24)))))) (cond (Nat.blt m 45) (cond (Nat.blt m 42) (cond (Nat.blt m 40) ((4, 24)) (cond (Nat.blt m 41) ((20, 8000)) ((0, 0)))) (cond (Nat.blt m 43) ((0, 0)) (cond (Nat.blt m 44) ((0, 0)) ((0, 0))))) (cond (Nat.blt m 48) (cond (Nat.blt m 46) ((0, 0)) (cond (Nat.blt m 47) ((0, 0)) ((0, 0)))) (cond (Nat.blt m 50) (cond (Nat.blt m 49) ((0, 0)) ((0, 0))) (cond (Nat.blt m 51) ((0, 0)) ((0, 0)))))))) (cond (Nat.blt m 78) (cond (Nat.blt m 65) (cond (Nat.blt m 58) (cond (Nat.blt m 55) (cond (Nat.blt m 53) ((0, 0)) (cond (Nat.blt m 54) ((0, 0)) ((0, 0)))) (cond (Nat.blt m 56) ((20, 8000)) (cond (Nat.blt m 57) ((0, 0)) ((0, 0))))) (cond (Nat.blt m 61) (cond (Nat.blt m 59) ((0, 0)) (cond (Nat.blt m 60) ((0, 0)) ((0, 0)))) (cond (Nat.blt m 63) (cond (Nat.blt m 62) ((0, 0)) ((0, 0))) (cond (Nat.blt m 64) ((0, 0)) ((0, 0)))))) (cond (Nat.blt m 71) (cond (Nat.blt m 68) (cond (Nat.blt m 66) ((0, 0)) (cond (Nat.blt m 67) ((0, 0)) ((0, 0)))) (cond (Nat.blt m 69) ((0, 0)) (cond (Nat.blt m 70) ((0, 0)) ((0, 0))))) (cond (Nat.blt m 74) (cond (Nat.blt m 72) ((0, 0)) (cond (Nat.blt m 73) ((0, 0)) ((0, 0)))) (cond (Nat.blt m 76) (cond (Nat.blt m 75) ((20, 8000)) ((0, 0))) (cond (Nat.blt m 77) ((0, 0)) ((0, 0))))))) (cond (Nat.blt m 91) (cond (Nat.blt m 84) (cond (Nat.blt m 81) (cond (Nat.blt m 79) ((0, 0)) (cond (Nat.blt m 80) ((0, 0)) ((0, 0)))) (cond (Nat.blt m 82) ((0, 0)) (cond (Nat.blt m 83) ((0, 0)) ((0, 0))))) (cond (Nat.blt m 87) (cond (Nat.blt m 85) ((0, 0)) (cond (Nat.blt m 86) ((0, 0)) ((0, 0)))) (cond (Nat.blt m 89) (cond (Nat.blt m 88) ((15, 1500)) ((0, 0))) (cond (Nat.blt m 90) ((0, 0)) ((0, 0)))))) (cond (Nat.blt m 98) (cond (Nat.blt m 94) (cond (Nat.blt m 92) ((0, 0)) (cond (Nat.blt m 93) ((0, 0)) ((0, 0)))) (cond (Nat.blt m 96) (cond (Nat.blt m 95) ((0, 0)) ((0, 0))) (cond (Nat.blt m 97) ((0, 0)) ((0, 0))))) (cond (Nat.blt m 101) (cond (Nat.blt m 99) ((0, 0)) (cond (Nat.blt m 100) ((0, 0)) ((0, 0)))) (cond (Nat.blt m 103) (cond (Nat.blt m 102) ((0, 0)) ((0, 0))) (cond (Nat.blt m 104) ((0, 0)) ((20, 8000))))))))) (cond (Nat.blt m 158) (cond (Nat.blt m 131) (cond (Nat.blt m 118) (cond (Nat.blt m 111) (cond (Nat.blt m 108) (cond (Nat.blt m 106) ((0, 0)) (cond (Nat.blt m 107) ((0, 0)) ((0, 0)))) (cond (Nat.blt m 109) ((0, 0)) (cond (Nat.blt m 110) ((0, 0)) ((0, 0))))) (cond (Nat.blt m 114) (cond (Nat.blt m 112) ((0, 0)) (cond (Nat.blt m 113) ((0, 0)) ((0, 0)))) (cond (Nat.blt m 116) (cond (Nat.blt m 115) ((0, 0)) ((0, 0))) (cond (Nat.blt m 117) ((0, 0)) ((40, 4000)))))) (cond (Nat.blt m 124) (cond (Nat.blt m 121) (cond (Nat.blt m 119) ((0, 0)) (cond (Nat.blt m 120) ((0, 0)) ((0, 0)))) (cond (Nat.blt m 122) ((0, 0)) (cond (Nat.blt m 123) ((0, 0)) ((0, 0))))) (cond (Nat.blt m 127) (cond (Nat.blt m 125) ((0, 0)) (cond (Nat.blt m 126) ((0, 0)) ((0, 0)))) (cond (Nat.blt m 129) (cond (Nat.blt m 128) ((0, 0)) ((0, 0))) (cond (Nat.blt m 130) ((0, 0)) ((0, 0))))))) (cond (Nat.blt m 144) (cond (Nat.blt m 137) (cond (Nat.blt m 134) (cond (Nat.blt m 132) ((0, 0)) (cond (Nat.blt m 133) ((0, 0)) ((0, 0)))) (cond (Nat.blt m 135) ((0, 0)) (cond (Nat.blt m 136) ((20, 8000)) ((0, 0))))) (cond (Nat.blt m 140) (cond (Nat.blt m 138) ((0, 0)) (cond (Nat.blt m 139) ((0, 0)) ((0, 0)))) (cond (Nat.blt m 142) (cond (Nat.blt m 141) ((0, 0)) ((0, 0))) (cond (Nat.blt m 143) ((0, 0)) ((0, 0)))))) (cond (Nat.blt m 151) (cond (Nat.blt m 147) (cond (Nat.blt m 145) ((0, 0)) (cond (Nat.blt m 146) ((0, 0)) ((0, 0)))) (cond (Nat.blt m 149) (cond (Nat.blt m 148) ((0, 0)) ((0, 0))) (cond (Nat.blt m 150) ((20, 8000)) ((0, 0))))) (cond (Nat.blt m 154) (cond (Nat.blt m 152) ((0, 0)) (cond (Nat.blt m 153) ((0, 0)) ((0, 0)))) (cond (Nat.blt m 156) (cond (Nat.blt m 155) ((0, 0)) ((0, 0))) (cond (Nat.blt m 157) ((0, 0)) ((0, 0)))))))) (cond (Nat.blt m 184) (cond (Nat.blt m 171) (cond (Nat.blt m 164) (cond (Nat.blt m 161) (cond (Nat.blt m 159) ((0, 0)) (cond (Nat.blt m 160) ((0, 0)) ((0, 0)))) (cond (Nat.blt m 162) ((0, 0)) (cond (Nat.blt m 163) ((20, 8000)) ((0, 0))))) (cond (Nat.blt m 167) (cond (Nat.blt m 165) ((0, 0)) (cond (Nat.blt m 166) ((0, 0)) ((0, 0)))) (cond (Nat.blt m 169) (cond (Nat.blt m 168) ((0, 0)) ((0, 0))) (cond (Nat.blt m 170) ((0, 0)) ((0, 0)))))) (cond (Nat.blt m 177) (cond (Nat.blt m 174) (cond (Nat.blt m 172) ((0, 0)) (cond (Nat.blt m 173) ((0, 0)) ((0, 0)))) (cond (Nat.blt m 175) ((0, 0)) (cond (Nat.blt m 176) ((20, 8000)) ((0, 0))))) (cond (Nat.blt m 180) (cond (Nat.blt m 178) ((0, 0)) (cond (Nat.blt m 179) ((0, 0)) ((0, 0)))) (cond (Nat.blt m 182) (cond (Nat.blt m 181) ((0, 0)) ((0, 0))) (cond (Nat.blt m 183) ((0, 0)) ((0, 0))))))) (cond (Nat.blt m 197) (cond (Nat.blt m 190) (cond (Nat.blt m 187) (cond (Nat.blt m 185) ((0, 0)) (cond (Nat.blt m 186) ((0, 0)) ((0, 0)))) (cond (Nat.blt m 188) ((0, 0)) (cond (Nat.blt m 189) ((0, 0)) ((20, 8000))))) (cond (Nat.blt m 193) (cond (Nat.blt m 191) ((0, 0)) (cond (Nat.blt m 192) ((0, 0)) ((0, 0)))) (cond (Nat.blt m 195) (cond (Nat.blt m 194) ((0, 0)) ((0, 0))) (cond (Nat.blt m 196) ((0, 0)) ((0, 0)))))) (cond (Nat.blt m 204) (cond (Nat.blt m 200) (cond (Nat.blt m 198) ((0, 0)) (cond (Nat.blt m 199) ((0, 0)) ((0, 0)))) (cond (Nat.blt m 202) (cond (Nat.blt m 201) ((0, 0)) ((0, 0))) (cond (Nat.blt m 203) ((0, 0)) ((0, 0))))) (cond (Nat.blt m 207) (cond (Nat.blt m 205) ((0, 0)) (cond (Nat.blt m 206) ((0, 0)) ((0, 0)))) (cond (Nat.blt m 209) (cond (Nat.blt m 208) ((300, 90000)) ((3, 18))) (cond (Nat.blt m 210) ((3, 18)) ((3, 18)))))))))) (cond (Nat.blt m 316) (cond (Nat.blt m 263) (cond (Nat.blt m 237) (cond (Nat.blt m 224) (cond (Nat.blt m 217) (cond (Nat.blt m 214) (cond (Nat.blt m 212) ((3, 18)) (cond (Nat.blt m 213) ((3, 18)) ((3, 18)))) (cond (Nat.blt m 215) ((3, 18)) (cond (Nat.blt m 216) ((3, 18)) ((3, 18))))) (cond (Nat.blt m 220) (cond (Nat.blt m 218) ((3, 18)) (cond (Nat.blt m 219) ((3, 18)) ((3, 18)))) (cond (Nat.blt m 222) (cond (Nat.blt m 221) ((3, 18)) ((3, 18))) (cond (Nat.blt m 223) ((3, 18)) ((3, 18)))))) (cond (Nat.blt m 230) (cond (Nat.blt m 227) (cond (Nat.blt m 225) ((3, 18)) (cond (Nat.blt m 226) ((3, 18)) ((3, 18)))) (cond (Nat.blt m 228) ((3, 18)) (cond (Nat.blt m 229) ((3, 18)) ((3, 18))))) (cond (Nat.blt m 233) (cond (Nat.blt m 231) ((3, 18)) (cond (Nat.blt m 232) ((3, 18)) ((3, 18)))) (cond (Nat.blt m 235) (cond (Nat.blt m 234) ((3, 18)) ((3, 18))) (cond (Nat.blt m 236) ((3, 18)) ((3, 18))))))) (cond (Nat.blt m 250) (cond (Nat.blt m 243) (cond (Nat.blt m 240) (cond (Nat.blt m 238) ((3, 18)) (cond (Nat.blt m 239) ((3, 18)) ((3, 18)))) (cond (Nat.blt m 241) ((3, 18)) (cond (Nat.blt m 242) ((3, 18)) ((3, 18))))) (cond (Nat.blt m 246) (cond (Nat.blt m 244) ((3, 18)) (cond (Nat.blt m 245) ((3, 18)) ((3, 18)))) (cond (Nat.blt m 248) (cond (Nat.blt m 247) ((3, 18)) ((3, 18))) (cond (Nat.blt m 249) ((3, 18)) ((3, 18)))))) (cond (Nat.blt m 256) (cond (Nat.blt m 253) (cond (Nat.blt m 251) ((3, 18)) (cond (Nat.blt m 252) ((3, 18)) ((3, 18)))) (cond (Nat.blt m 254) ((3, 18)) (cond (Nat.blt m 255) ((3, 18)) ((0, 0))))) (cond (Nat.blt m 259) (cond (Nat.blt m 257) ((0, 0)) (cond (Nat.blt m 258) ((0, 0)) ((0, 0)))) (cond (Nat.blt m 261) (cond (Nat.blt m 260) ((0, 0)) ((0, 0))) (cond (Nat.blt m 262) ((0, 0)) ((0, 0)))))))) (cond (Nat.blt m 289) (cond (Nat.blt m 276) (cond (Nat.blt m 269) (cond (Nat.blt m 266) (cond (Nat.blt m 264) ((130, 120000)) (cond (Nat.blt m 265) ((0, 0)) ((0, 0)))) (cond (Nat.blt m 267) ((0, 0)) (cond (Nat.blt m 268) ((0, 0)) ((0, 0))))) (cond (Nat.blt m 272) (cond (Nat.blt m 270) ((0, 0)) (cond (Nat.blt m 271) ((0, 0)) ((0, 0)))) (cond (Nat.blt m 274) (cond (Nat.blt m 273) ((0, 0)) ((0, 0))) (cond (Nat.blt m 275) ((0, 0)) ((0, 0)))))) (cond (Nat.blt m 282) (cond (Nat.blt m 279) (cond (Nat.blt m 277) ((0, 0)) (cond (Nat.blt m 278) ((0, 0)) ((0, 0)))) (cond (Nat.blt m 280) ((0, 0)) (cond (Nat.blt m 281) ((0, 0)) ((0, 0))))) (cond (Nat.blt m 285) (cond (Nat.blt m 283) ((0, 0)) (cond (Nat.blt m 284) ((0, 0)) ((0, 0)))) (cond (Nat.blt m 287) (cond (Nat.blt m 286) ((0, 0)) ((0, 0))) (cond (Nat.blt m 288) ((0, 0)) ((0, 0))))))) (cond (Nat.blt m 302) (cond (Nat.blt m 295) (cond (Nat.blt m 292) (cond (Nat.blt m 290) ((0, 0)) (cond (Nat.blt m 291) ((0, 0)) ((0, 0)))) (cond (Nat.blt m 293) ((0, 0)) (cond (Nat.blt m 294) ((0, 0)) ((0, 0))))) (cond (Nat.blt m 298) (cond (Nat.blt m 296) ((0, 0)) (cond (Nat.blt m 297) ((0, 0)) ((0, 0)))) (cond (Nat.blt m 300) (cond (Nat.blt m 299) ((0, 0)) ((0, 0))) (cond (Nat.blt m 301) ((0, 0)) ((0, 0)))))) (cond (Nat.blt m 309) (cond (Nat.blt m 305) (cond (Nat.blt m 303) ((0, 0)) (cond (Nat.blt m 304) ((0, 0)) ((0, 0)))) (cond (Nat.blt m 307) (cond (Nat.blt m 306) ((0, 0)) ((0, 0))) (cond (Nat.blt m 308) ((0, 0)) ((0, 0))))) (cond (Nat.blt m 312) (cond (Nat.blt m 310) ((0, 0)) (cond (Nat.blt m 311) ((0, 0)) ((0, 0)))) (cond (Nat.blt m 314) (cond (Nat.blt m 313) ((0, 0)) ((0, 0))) (cond (Nat.blt m 315) ((0, 0)) ((0, 0))))))))) (cond (Nat.blt m 369) (cond (Nat.blt m 342) (cond (Nat.blt m 329) (cond (Nat.blt m 322) (cond (Nat.blt m 319) (cond (Nat.blt m 317) ((0, 0)) (cond (Nat.blt m 318) ((0, 0)) ((0, 0)))) (cond (Nat.blt m 320) ((0, 0)) (cond (Nat.blt m 321) ((0, 0)) ((0, 0))))) (cond (Nat.blt m 325) (cond (Nat.blt m 323) ((0, 0)) (cond (Nat.blt m 324) ((0, 0)) ((0, 0)))) (cond (Nat.blt m 327) (cond (Nat.blt m 326) ((0, 0)) ((0, 0))) (cond (Nat.blt m 328) ((0, 0)) ((0, 0)))))) (cond (Nat.blt m 335) (cond (Nat.blt m 332) (cond (Nat.blt m 330) ((0, 0)) (cond (Nat.blt m 331) ((0, 0)) ((0, 0)))) (cond (Nat.blt m 333) ((0, 0)) (cond (Nat.blt m 334) ((0, 0)) ((0, 0))))) (cond (Nat.blt m 338) (cond (Nat.blt m 336) ((0, 0)) (cond (Nat.blt m 337) ((0, 0)) ((0, 0)))) (cond (Nat.blt m 340) (cond (Nat.blt m 339) ((0, 0)) ((0, 0))) (cond (Nat.blt m 341) ((0, 0)) ((0, 0))))))) (cond (Nat.blt m 355) (cond (Nat.blt m 348) (cond (Nat.blt m 345) (cond (Nat.blt m 343) ((0, 0)) (cond (Nat.blt m 344) ((0, 0)) ((0, 0)))) (cond (Nat.blt m 346) ((0, 0)) (cond (Nat.blt m 347) ((0, 0)) ((0, 0))))) (cond (Nat.blt m 351) (cond (Nat.blt m 349) ((0, 0)) (cond (Nat.blt m 350) ((0, 0)) ((0, 0)))) (cond (Nat.blt m 353) (cond (Nat.blt m 352) ((0, 0)) ((0, 0))) (cond (Nat.blt m 354) ((0, 0)) ((0, 0)))))) (cond (Nat.blt m 362) (cond (Nat.blt m 358) (cond (Nat.blt m 356) ((0, 0)) (cond (Nat.blt m 357) ((0, 0)) ((0, 0)))) (cond (Nat.blt m 360) (cond (Nat.blt m 359) ((0, 0)) ((0, 0))) (cond (Nat.blt m 361) ((0, 0)) ((0, 0))))) (cond (Nat.blt m 365) (cond (Nat.blt m 363) ((0, 0)) (cond (Nat.blt m 364) ((0, 0)) ((0, 0)))) (cond (Nat.blt m 367) (cond (Nat.blt m 366) ((0, 0)) ((0, 0))) (cond (Nat.blt m 368) ((0, 0)) ((0, 0)))))))) (cond (Nat.blt m 395) (cond (Nat.blt m 382) (cond (Nat.blt m 375) (cond (Nat.blt m 372) (cond (Nat.blt m 370) ((0, 0)) (cond (Nat.blt m 371) ((0, 0)) ((0, 0)))) (cond (Nat.blt m 373) ((0, 0)) (cond (Nat.blt m 374) ((0, 0)) ((0, 0))))) (cond (Nat.blt m 378) (cond (Nat.blt m 376) ((0, 0)) (cond (Nat.blt m 377) ((0, 0)) ((0, 0)))) (cond (Nat.blt m 380) (cond (Nat.blt m 379) ((0, 0)) ((0, 0))) (cond (Nat.blt m 381) ((0, 0)) ((0, 0)))))) (cond (Nat.blt m 388) (cond (Nat.blt m 385) (cond (Nat.blt m 383) ((0, 0)) (cond (Nat.blt m 384) ((0, 0)) ((0, 0)))) (cond (Nat.blt m 386) ((0, 0)) (cond (Nat.blt m 387) ((0, 0)) ((0, 0))))) (cond (Nat.blt m 391) (cond (Nat.blt m 389) ((0, 0)) (cond (Nat.blt m 390) ((0, 0)) ((0, 0)))) (cond (Nat.blt m 393) (cond (Nat.blt m 392) ((0, 0)) ((0, 0))) (cond (Nat.blt m 394) ((0, 0)) ((0, 0))))))) (cond (Nat.blt m 408) (cond (Nat.blt m 401) (cond (Nat.blt m 398) (cond (Nat.blt m 396) ((0, 0)) (cond (Nat.blt m 397) ((0, 0)) ((0, 0)))) (cond (Nat.blt m 399) ((0, 0)) (cond (Nat.blt m 400) ((0, 0)) ((0, 0))))) (cond (Nat.blt m 404) (cond (Nat.blt m 402) ((0, 0)) (cond (Nat.blt m 403) ((0, 0)) ((0, 0)))) (cond (Nat.blt m 406) (cond (Nat.blt m 405) ((0, 0)) ((0, 0))) (cond (Nat.blt m 407) ((0, 0)) ((0, 0)))))) (cond (Nat.blt m 415) (cond (Nat.blt m 411) (cond (Nat.blt m 409) ((0, 0)) (cond (Nat.blt m 410) ((0, 0)) ((0, 0)))) (cond (Nat.blt m 413) (cond (Nat.blt m 412) ((0, 0)) ((0, 0))) (cond (Nat.blt m 414) ((0, 0)) ((0, 0))))) (cond (Nat.blt m 418) (cond (Nat.blt m 416) ((0, 0)) (cond (Nat.blt m 417) ((0, 0)) ((0, 0)))) (cond (Nat.blt m 420) (cond (Nat.blt m 419) ((0, 0)) ((0, 0))) (cond (Nat.blt m 421) ((0, 0)) ((0, 0))))))))))
def xin (m : Nat) : Bool := cond (Nat.blt m 211) (cond (Nat.blt m 105) (cond (Nat.blt m 52) (cond (Nat.blt m 26) (cond (Nat.blt m 13) (cond (Nat.blt m 6) (cond (Nat.blt m 3) (cond (Nat.blt m 1) (false) (cond (Nat.blt m 2) (false) (false))) (cond (Nat.blt m 4) (false) (cond (Nat.blt m 5) (false) (false)))) (cond (Nat.blt m 9) (cond (Nat.blt m 7) (false) (cond (Nat.blt m 8) (false) (false))) (cond (Nat.blt m 11) (cond (Nat.blt m 10) (false) (false)) (cond (Nat.blt m 12) (false) (false))))) (cond (Nat.blt m 19) (cond (Nat.blt m 16) (cond (Nat.blt m 14) (false) (cond (Nat.blt m 15) (false) (false))) (cond (Nat.blt m 17) (false) (cond (Nat.blt m 18) (false) (false)))) (cond (Nat.blt m 22) (cond (Nat.blt m 20) (false) (cond (Nat.blt m 21) (false) (false))) (cond (Nat.blt m 24) (cond (Nat.blt m 23) (false) (false)) (cond (Nat.blt m 25) (false) (false)))))) (cond (Nat.blt m 39) (cond (Nat.blt m 32) (cond (Nat.blt m 29) (cond (Nat.blt m 27) (false) (cond (Nat.blt m 28) (false) (false))) (cond (Nat.blt m 30) (false) (cond (Nat.blt m 31) (false) (false)))) (cond (Nat.blt m 35) (cond (Nat.blt m 33) (false) (cond (Nat.blt m 34) (false) (false))) (cond (Nat.blt m 37) (cond (Nat.blt m 36) (false) (false)) (cond (Nat.blt m 38) (false) (false))))) (cond (Nat.blt m 45) (cond (Nat.blt m 42) (cond (Nat.blt m 40) (false) (cond (Nat.blt m 41) (true) (false))) (cond (Nat.blt m 43) (false) (cond (Nat.blt m 44) (false) (false)))) (cond (Nat.blt m 48) (cond (Nat.blt m 46) (false) (cond (Nat.blt m 47) (false) (false))) (cond (Nat.blt m 50) (cond (Nat.blt m 49) (false) (false)) (cond (Nat.blt m 51) (false) (false))))))) (cond (Nat.blt m 78) (cond (Nat.blt m 65) (cond (Nat.blt m 58) (cond (Nat.blt m 55) (cond (Nat.blt m 53) (false) (cond (Nat.blt m 54) (false) (false))) (cond (Nat.blt m 56) (true) (cond (Nat.blt m 57) (false) (false)))) (cond (Nat.blt m 61) (cond (Nat.blt m 59) (false) (cond (Nat.blt m 60) (false) (false))) (cond (Nat.blt m 63) (cond (Nat.blt m 62) (false) (false)) (cond (Nat.blt m 64) (false) (false))))) (cond (Nat.blt m 71) (cond (Nat.blt m 68) (cond (Nat.blt m 66) (false) (cond (Nat.blt m 67) (false) (false))) (cond (Nat.blt m 69) (false) (cond (Nat.blt m 70) (false) (false)))) (cond (Nat.blt m 74) (cond (Nat.blt m 72) (false) (cond (Nat.blt m 73) (false) (false))) (cond (Nat.blt m 76) (cond (Nat.blt m 75) (true) (false)) (cond (Nat.blt m 77) (false) (false)))))) (cond (Nat.blt m 91) (cond (Nat.blt m 84) (cond (Nat.blt m 81) (cond (Nat.blt m 79) (false) (cond (Nat.blt m 80) (false) (false))) (cond (Nat.blt m 82) (false) (cond (Nat.blt m 83) (false) (false)))) (cond (Nat.blt m 87) (cond (Nat.blt m 85) (false) (cond (Nat.blt m 86) (false) (false))) (cond (Nat.blt m 89) (cond (Nat.blt m 88) (true) (false)) (cond (Nat.blt m 90) (false) (false))))) (cond (Nat.blt m 98) (cond (Nat.blt m 94) (cond (Nat.blt m 92) (false) (cond (Nat.blt m 93) (false) (false))) (cond (Nat.blt m 96) (cond (Nat.blt m 95) (false) (false)) (cond (Nat.blt m 97) (false) (false)))) (cond (Nat.blt m 101) (cond (Nat.blt m 99) (false) (cond (Nat.blt m 100) (false) (false))) (cond (Nat.blt m 103) (cond (Nat.blt m 102) (false) (false)) (cond (Nat.blt m 104) (false) (true)))))))) (cond (Nat.blt m 158) (cond (Nat.blt m 131) (cond (Nat.blt m 118) (cond (Nat.blt m 111) (cond (Nat.blt m 108) (cond (Nat.blt m 106) (false) (cond (Nat.blt m 107) (false) (false))) (cond (Nat.blt m 109) (false) (cond (Nat.blt m 110) (false) (false)))) (cond (Nat.blt m 114) (cond (Nat.blt m 112) (false) (cond (Nat.blt m 113) (false) (false))) (cond (Nat.blt m 116) (cond (Nat.blt m 115) (false) (false)) (cond (Nat.blt m 117) (false) (true))))) (cond (Nat.blt m 124) (cond (Nat.blt m 121) (cond (Nat.blt m 119) (false) (cond (Nat.blt m 120) (false) (false))) (cond (Nat.blt m 122) (false) (cond (Nat.blt m 123) (false) (false)))) (cond (Nat.blt m 127) (cond (Nat.blt m 125) (false) (cond (Nat.blt m 126) (false) (false))) (cond (Nat.blt m 129) (cond (Nat.blt m 128) (false) (false)) (cond (Nat.blt m 130) (false) (false)))))) (cond (Nat.blt m 144) (cond (Nat.blt m 137) (cond (Nat.blt m 134) (cond (Nat.blt m 132) (false) (cond (Nat.blt m 133) (false) (false))) (cond (Nat.blt m 135) (false) (cond (Nat.blt m 136) (true) (false)))) (cond (Nat.blt m 140) (cond (Nat.blt m 138) (false) (cond (Nat.blt m 139) (false) (false))) (cond (Nat.blt m 142) (cond (Nat.blt m 141) (false) (false)) (cond (Nat.blt m 143) (false) (false))))) (cond (Nat.blt m 151) (cond (Nat.blt m 147) (cond (Nat.blt m 145) (false) (cond (Nat.blt m 146) (false) (false))) (cond (Nat.blt m 149) (cond (Nat.blt m 148) (false) (false)) (cond (Nat.blt m 150) (true) (false)))) (cond (Nat.blt m 154) (cond (Nat.blt m 152) (false) (cond (Nat.blt m 153) (false) (false))) (cond (Nat.blt m 156) (cond (Nat.blt m 155) (false) (false)) (cond (Nat.blt m 157) (false) (false))))))) (cond (Nat.blt m 184) (cond (Nat.blt m 171) (cond (Nat.blt m 164) (cond (Nat.blt m 161) (cond (Nat.blt m 159) (false) (cond (Nat.blt m 160) (false) (false))) (cond (Nat.blt m 162) (false) (cond (Nat.blt m 163) (true) (false)))) (cond (Nat.blt m 167) (cond (Nat.blt m 165) (false) (cond (Nat.blt m 166) (false) (false))) (cond (Nat.blt m 169) (cond (Nat.blt m 168) (false) (false)) (cond (Nat.blt m 170) (false) (false))))) (cond (Nat.blt m 177) (cond (Nat.blt m 174) (cond (Nat.blt m 172) (false) (cond (Nat.blt m 173) (false) (false))) (cond (Nat.blt m 175) (false) (cond (Nat.blt m 176) (true) (false)))) (cond (Nat.blt m 180) (cond (Nat.blt m 178) (false) (cond (Nat.blt m 179) (false) (false))) (cond (Nat.blt m 182) (cond (Nat.blt m 181) (false) (false)) (cond (Nat.blt m 183) (false) (false)))))) (cond (Nat.blt m 197) (cond (Nat.blt m 190) (cond (Nat.blt m 187) (cond (Nat.blt m 185) (false) (cond (Nat.blt m 186) (false) (false))) (cond (Nat.blt m 188) (false) (cond (Nat.blt m 189) (false) (true)))) (cond (Nat.blt m 193) (cond (Nat.blt m 191) (false) (cond (Nat.blt m 192) (false) (false))) (cond (Nat.blt m 195) (cond (Nat.blt m 194) (false) (false)) (cond (Nat.blt m 196) (false) (false))))) (cond (Nat.blt m 204) (cond (Nat.blt m 200) (cond (Nat.blt m 198) (false) (cond (Nat.blt m 199) (false) (false))) (cond (Nat.blt m 202) (cond (Nat.blt m 201) (false) (false)) (cond (Nat.blt m 203) (false) (false)))) (cond (Nat.blt m 207) (cond (Nat.blt m 205) (false) (cond (Nat.blt m 206) (false) (false))) (cond (Nat.blt m 209) (cond (Nat.blt m 208) (true) (false)) (cond (Nat.blt m 210) (false) (false))))))))) (cond (Nat.blt m 316) (cond (Nat.blt m 263) (cond (Nat.blt m 237) (cond (Nat.blt m 224) (cond (Nat.blt m 217) (cond (Nat.blt m 214) (cond (Nat.blt m 212) (false) (cond (Nat.blt m 213) (false) (false))) (cond (Nat.blt m 215) (false) (cond (Nat.blt m 216) (false) (false)))) (cond (Nat.blt m 220) (cond (Nat.blt m 218) (false) (cond (Nat.blt m 219) (false) (false))) (cond (Nat.blt m 222) (cond (Nat.blt m 221) (false) (false)) (cond (Nat.blt m 223) (false) (false))))) (cond (Nat.blt m 230) (cond (Nat.blt m 227) (cond (Nat.blt m 225) (false) (cond (Nat.blt m 226) (false) (false))) (cond (Nat.blt m 228) (false) (cond (Nat.blt m 229) (false) (false)))) (cond (Nat.blt m 233) (cond (Nat.blt m 231) (false) (cond (Nat.blt m 232) (false) (false))) (cond (Nat.blt m 235) (cond (Nat.blt m 234) (false) (false)) (cond (Nat.blt m 236) (false) (false)))))) (cond (Nat.blt m 250) (cond (Nat.blt m 243) (cond (Nat.blt m 240) (cond (Nat.blt m 238) (false) (cond (Nat.blt m 239) (false) (false))) (cond (Nat.blt m 241) (false) (cond (Nat.blt m 242) (false) (false)))) (cond (Nat.blt m 246) (cond (Nat.blt m 244) (false) (cond (Nat.blt m 245) (false) (false))) (cond (Nat.blt m 248) (cond (Nat.blt m 247) (false) (false)) (cond (Nat.blt m 249) (false) (false))))) (cond (Nat.blt m 256) (cond (Nat.blt m 253) (cond (Nat.blt m 251) (false) (cond (Nat.blt m 252) (false) (false))) (cond (Nat.blt m 254) (false) (cond (Nat.blt m 255) (false) (false)))) (cond (Nat.blt m 259) (cond (Nat.blt m 257) (false) (cond (Nat.blt m 258) (false) (false))) (cond (Nat.blt m 261) (cond (Nat.blt m 260) (false) (false)) (cond (Nat.blt m 262) (false) (false))))))) (cond (Nat.blt m 289) (cond (Nat.blt m 276) (cond (Nat.blt m 269) (cond (Nat.blt m 266) (cond (Nat.blt m 264) (true) (cond (Nat.blt m 265) (false) (false))) (cond (Nat.blt m 267) (false) (cond (Nat.blt m 268) (false) (false)))) (cond (Nat.blt m 272) (cond (Nat.blt m 270) (false) (cond (Nat.blt m 271) (false) (false))) (cond (Nat.blt m 274) (cond (Nat.blt m 273) (false) (false)) (cond (Nat.blt m 275) (false) (false))))) (cond (Nat.blt m 282) (cond (Nat.blt m 279) (cond (Nat.blt m 277) (false) (cond (Nat.blt m 278) (false) (false))) (cond (Nat.blt m 280) (false) (cond (Nat.blt m 281) (false) (false)))) (cond (Nat.blt m 285) (cond (Nat.blt m 283) (false) (cond (Nat.blt m 284) (false) (false))) (cond (Nat.blt m 287) (cond (Nat.blt m 286) (false) (false)) (cond (Nat.blt m 288) (false) (false)))))) (cond (Nat.blt m 302) (cond (Nat.blt m 295) (cond (Nat.blt m 292) (cond (Nat.blt m 290) (false) (cond (Nat.blt m 291) (false) (false))) (cond (Nat.blt m 293) (false) (cond (Nat.blt m 294) (false) (false)))) (cond (Nat.blt m 298) (cond (Nat.blt m 296) (false) (cond (Nat.blt m 297) (false) (false))) (cond (Nat.blt m 300) (cond (Nat.blt m 299) (false) (false)) (cond (Nat.blt m 301) (false) (false))))) (cond (Nat.blt m 309) (cond (Nat.blt m 305) (cond (Nat.blt m 303) (false) (cond (Nat.blt m 304) (false) (false))) (cond (Nat.blt m 307) (cond (Nat.blt m 306) (false) (false)) (cond (Nat.blt m 308) (false) (false)))) (cond (Nat.blt m 312) (cond (Nat.blt m 310) (false) (cond (Nat.blt m 311) (false) (false))) (cond (Nat.blt m 314) (cond (Nat.blt m 313) (false) (false)) (cond (Nat.blt m 315) (false) (false)))))))) (cond (Nat.blt m 369) (cond (Nat.blt m 342) (cond (Nat.blt m 329) (cond (Nat.blt m 322) (cond (Nat.blt m 319) (cond (Nat.blt m 317) (false) (cond (Nat.blt m 318) (false) (false))) (cond (Nat.blt m 320) (false) (cond (Nat.blt m 321) (false) (false)))) (cond (Nat.blt m 325) (cond (Nat.blt m 323) (false) (cond (Nat.blt m 324) (false) (false))) (cond (Nat.blt m 327) (cond (Nat.blt m 326) (false) (false)) (cond (Nat.blt m 328) (false) (false))))) (cond (Nat.blt m 335) (cond (Nat.blt m 332) (cond (Nat.blt m 330) (false) (cond (Nat.blt m 331) (false) (false))) (cond (Nat.blt m 333) (false) (cond (Nat.blt m 334) (false) (false)))) (cond (Nat.blt m 338) (cond (Nat.blt m 336) (false) (cond (Nat.blt m 337) (false) (false))) (cond (Nat.blt m 340) (cond (Nat.blt m 339) (false) (false)) (cond (Nat.blt m 341) (false) (false)))))) (cond (Nat.blt m 355) (cond (Nat.blt m 348) (cond (Nat.blt m 345) (cond (Nat.blt m 343) (false) (cond (Nat.blt m 344) (false) (false))) (cond (Nat.blt m 346) (false) (cond (Nat.blt m 347) (false) (false)))) (cond (Nat.blt m 351) (cond (Nat.blt m 349) (false) (cond (Nat.blt m 350) (false) (false))) (cond (Nat.blt m 353) (cond (Nat.blt m 352) (false) (false)) (cond (Nat.blt m 354) (false) (false))))) (cond (Nat.blt m 362) (cond (Nat.blt m 358) (cond (Nat.blt m 356) (false) (cond (Nat.blt m 357) (false) (false))) (cond (Nat.blt m 360) (cond (Nat.blt m 359) (false) (false)) (cond (Nat.blt m 361) (false) (false)))) (cond (Nat.blt m 365) (cond (Nat.blt m 363) (false) (cond (Nat.blt m 364) (false) (false))) (cond (Nat.blt m 367) (cond (Nat.blt m 366) (false) (false)) (cond (Nat.blt m 368) (false) (false))))))) (cond (Nat.blt m 395) (cond (Nat.blt m 382) (cond (Nat.blt m 375) (cond (Nat.blt m 372) (cond (Nat.blt m 370) (false) (cond (Nat.blt m 371) (false) (false))) (cond (Nat.blt m 373) (false) (cond (Nat.blt m 374) (false) (false)))) (cond (Nat.blt m 378) (cond (Nat.blt m 376) (false) (cond (Nat.blt m 377) (false) (false))) (cond (Nat.blt m 380) (cond (Nat.blt m 379) (false) (false)) (cond (Nat.blt m 381) (false) (false))))) (cond (Nat.blt m 388) (cond (Nat.blt m 385) (cond (Nat.blt m 383) (false) (cond (Nat.blt m 384) (false) (false))) (cond (Nat.blt m 386) (false) (cond (Nat.blt m 387) (false) (false)))) (cond (Nat.blt m 391) (cond (Nat.blt m 389) (false) (cond (Nat.blt m 390) (false) (false))) (cond (Nat.blt m 393) (cond (Nat.blt m 392) (false) (false)) (cond (Nat.blt m 394) (false) (false)))))) (cond (Nat.blt m 408) (cond (Nat.blt m 401) (cond (Nat.blt m 398) (cond (Nat.blt m 396) (false) (cond (Nat.blt m 397) (false) (false))) (cond (Nat.blt m 399) (false) (cond (Nat.blt m 400) (false) (false)))) (cond (Nat.blt m 404) (cond (Nat.blt m 402) (false) (cond (Nat.blt m 403) (false) (false))) (cond (Nat.blt m 406) (cond (Nat.blt m 405) (false) (false)) (cond (Nat.blt m 407) (false) (false))))) (cond (Nat.blt m 415) (cond (Nat.blt m 411) (cond (Nat.blt m 409) (false) (cond (Nat.blt m 410) (false) (false))) (cond (Nat.blt m 413) (cond (Nat.blt m 412) (false) (false)) (cond (Nat.blt m 414) (false) (false)))) (cond (Nat.blt m 418) (cond (Nat.blt m 416) (false) (cond (Nat.blt m 417) (false) (false))) (cond (Nat.blt m 420) (cond (Nat.blt m 419) (false) (false)) (cond (Nat.blt m 421) (false) (false)))))))))
set_option maxRecDepth 100000 in
theorem xin_ok0 : ((List.range' 0 60).all (fun m => decide (xin m = decide ((xy m).name = "<init>")))) = true := by decide +kernel
set_option maxRecDepth 100000 in
theorem xin_ok60 : ((List.range' 60 60).all (fun m => decide (xin m = decide ((xy m).name = "<init>")))) = true := by decide +kernel
set_option maxRecDepth 100000 in
theorem xin_ok120 : ((List.range' 120 60).all (fun m => decide (xin m = decide ((xy m).name = "<init>")))) = true := by decide +kernel
set_option maxRecDepth 100000 in
theorem xin_ok180 : ((List.range' 180 60).all (fun m => decide (xin m = decide ((xy m).name = "<init>")))) = true := by decide +kernel
set_option maxRecDepth 100000 in
theorem xin_ok240 : ((List.range' 240 60).all (fun m => decide (xin m = decide ((xy m).name = "<init>")))) = true := by decide +kernel
set_option maxRecDepth 100000 in
theorem xin_ok300 : ((List.range' 300 60).all (fun m => decide (xin m = decide ((xy m).name = "<init>")))) = true := by decide +kernel
set_option maxRecDepth 100000 in
theorem xin_ok360 : ((List.range' 360 60).all (fun m => decide (xin m = decide ((xy m).name = "<init>")))) = true := by decide +kernel
set_option maxRecDepth 100000 in
theorem xin_ok420 : ((List.range' 420 2).all (fun m => decide (xin m = decide ((xy m).name = "<init>")))) = true := by decide +kernel
def xt_0 : List (Nat × Nat) := [(0, 0), (0, 0), (0, 0), (0, 0), (3, 1), (3, 1), (3, 1), (0, 0), (3, 1)]
def xt_1 : List (Nat × Nat) := [(3, 1), (0, 0), (0, 0), (3, 1), (0, 0), (3, 1), (3, 1), (3, 1), (3, 1), (0, 0), (0, 0), (0, 0), (0, 0)]
def xt_2 : List (Nat × Nat) := [(0, 0), (0, 0), (0, 0), (1, 0), (0, 0), (3, 1), (3, 1), (3, 1), (0, 0), (3, 1), (3, 1), (3, 1), (3, 1), (3, 1), (3, 1), (3, 1), (0, 0), (0, 0), (1, 0)]
def xt_3 : List (Nat × Nat) := [(0, 0), (0, 0), (0, 0), (0, 0), (0, 0), (3, 1), (3, 1), (3, 1), (3, 1), (3, 1), (3, 1), (3, 1), (3, 1), (3, 1), (3, 1), (3, 1), (3, 1), (3, 1)]
def xt_4 : List (Nat × Nat) := [(0, 0), (0, 0), (3, 0), (3, 0), (0, 0), (0, 0), (3, 1), (3, 1), (3, 1), (3, 1), (3, 1)]
def xt_5 : List (Nat × Nat) := [(3, 1), (3, 1), (3, 0), (3, 1)]
def xt_6 : List (Nat × Nat) := [(0, 0), (0, 0), (3, 1), (0, 0), (3, 1), (3, 1)]
def xt_7 : List (Nat × Nat) := [(1, 0), (1, 0), (3, 1), (3, 1), (3, 1), (3, 1), (3, 1), (3, 1), (3, 1)]
def xt_8 : List (Nat × Nat) := [(3, 1), (0, 0), (0, 0), (0, 0), (0, 0), (0, 0), (0, 0), (0, 0), (3, 1), (0, 0)]
def xt_9 : List (Nat × Nat) := [(0, 0), (3, 1), (3, 1), (3, 1), (3, 1), (3, 1), (3, 1), (3, 1), (3, 1), (0, 0), (0, 0), (3, 1)]
def xt_10 : List (Nat × Nat) := [(0, 0), (0, 0), (0, 0), (3, 1), (3, 1), (3, 1), (3, 1), (3, 1), (0, 0), (0, 0), (0, 0), (0, 0), (3, 1)]
def xt_11 : List (Nat × Nat) := [(3, 1), (3, 1), (0, 0), (3, 1), (3, 1), (3, 1), (3, 1), (3, 1), (3, 1), (3, 1), (3, 1), (3, 1)]
def xt_12 : List (Nat × Nat) := [(0, 0), (3, 1), (3, 1), (3, 1), (3, 1), (3, 1), (3, 1), (3, 1), (3, 1), (0, 0), (3, 1), (3, 1), (3, 1), (3, 1), (3, 1), (3, 1), (3, 1), (0, 0), (0, 0), (0, 0), (0, 0), (3, 1), (0, 0), (0, 0), (0, 0), (3, 1), (0, 0), (0, 0), (0, 0), (0, 0), (0, 0), (1, 0), (0, 0), (3, 1), (3, 1), (3, 1), (3, 1), (3, 1), (3, 1), (3, 1), (0, 0), (3, 1), (3, 1), (3, 1), (3, 1), (3, 1), (3, 1), (3, 1), (3, 1), (3, 1), (3, 1), (3, 1), (3, 1), (0, 0), (3, 1), (3, 1), (3, 1), (3, 1), (3, 1), (3, 1), (3, 1), (3, 1), (3, 1), (3, 1), (3, 1), (3, 1), (3, 1), (3, 1), (3, 1), (3, 1), (3, 1), (3, 1), (3, 1), (3, 1), (3, 1), (3, 1), (3, 1), (3, 1), (3, 1), (3, 1), (0, 0), (0, 0), (3, 1), (3, 1), (2, 0), (1, 0), (1, 0), (3, 1), (3, 1), (3, 1), (3, 1), (3, 1), (3, 1), (3, 1), (3, 1), (3, 1), (0, 0), (2, 0), (2, 0), (2, 0), (1, 0), (1, 0), (3, 1), (3, 1), (3, 1), (3, 1), (3, 1), (3, 1), (3, 1), (0, 0), (3, 1), (0, 0), (0, 0), (0, 0), (3, 1), (3, 1), (0, 0), (0, 0), (0, 0), (3, 1), (3, 1), (1, 0)]
/-- a class's fields: 0 int, 1 long, 2 boolean, 3 a reference; 1 final -/
def xt (m : Nat) : List (Nat × Nat) := cond (Nat.blt m 6) (cond (Nat.blt m 3) (cond (Nat.blt m 1) (xt_0) (cond (Nat.blt m 2) (xt_1) (xt_2))) (cond (Nat.blt m 4) (xt_3) (cond (Nat.blt m 5) (xt_4) (xt_5)))) (cond (Nat.blt m 9) (cond (Nat.blt m 7) (xt_6) (cond (Nat.blt m 8) (xt_7) (xt_8))) (cond (Nat.blt m 11) (cond (Nat.blt m 10) (xt_9) (xt_10)) (cond (Nat.blt m 12) (xt_11) (xt_12))))
def xt_ck (T : u_T) : Nat → List (Nat × Nat) → Bool
  | _, [] => true
  | k, q :: l => decide ((T k).2.2.2 = decide (q.2 = 1)) && (match q.1 with
    | 0 => decide (am_t T k = .int)
    | 1 => decide (am_t T k = .long)
    | 2 => decide (am_t T k = .boolean)
    | _ => match am_t T k with
      | .object _ => true
      | .array _ => true
      | _ => false) && xt_ck T (k + 1) l
set_option maxRecDepth 100000 in
theorem xt_ok0 : xt_ck TX0 0 xt_0 = true ∧ xt_0.length = 9 := by decide +kernel
set_option maxRecDepth 100000 in
theorem xt_ok1 : xt_ck TX1 0 xt_1 = true ∧ xt_1.length = 13 := by decide +kernel
set_option maxRecDepth 100000 in
theorem xt_ok2 : xt_ck TX2 0 xt_2 = true ∧ xt_2.length = 19 := by decide +kernel
set_option maxRecDepth 100000 in
theorem xt_ok3 : xt_ck TX3 0 xt_3 = true ∧ xt_3.length = 18 := by decide +kernel
set_option maxRecDepth 100000 in
theorem xt_ok4 : xt_ck TX4 0 xt_4 = true ∧ xt_4.length = 11 := by decide +kernel
set_option maxRecDepth 100000 in
theorem xt_ok5 : xt_ck TX5 0 xt_5 = true ∧ xt_5.length = 4 := by decide +kernel
set_option maxRecDepth 100000 in
theorem xt_ok6 : xt_ck TX6 0 xt_6 = true ∧ xt_6.length = 6 := by decide +kernel
set_option maxRecDepth 100000 in
theorem xt_ok7 : xt_ck TX7 0 xt_7 = true ∧ xt_7.length = 9 := by decide +kernel
set_option maxRecDepth 100000 in
theorem xt_ok8 : xt_ck TX8 0 xt_8 = true ∧ xt_8.length = 10 := by decide +kernel
set_option maxRecDepth 100000 in
theorem xt_ok9 : xt_ck TX9 0 xt_9 = true ∧ xt_9.length = 12 := by decide +kernel
set_option maxRecDepth 100000 in
theorem xt_ok10 : xt_ck TX10 0 xt_10 = true ∧ xt_10.length = 13 := by decide +kernel
set_option maxRecDepth 100000 in
theorem xt_ok11 : xt_ck TX11 0 xt_11 = true ∧ xt_11.length = 12 := by decide +kernel
set_option maxRecDepth 100000 in
theorem xt_ok12 : xt_ck TX12 0 xt_12 = true ∧ xt_12.length = 122 := by decide +kernel
def xq : List (Nat × Nat × Nat) := [(13, 0, 1310), (15, 1, 1311)]
set_option maxRecDepth 100000 in
theorem xq_ok : xq.all (fun q => xck q.2.2 (.classLink RL q.1 (if q.2.1 = 0 then am_IA else am_IS))) = true := by decide +kernel
set_option maxHeartbeats 4000000 in
set_option maxRecDepth 100000 in
theorem xi_all {m : Nat} (h : m < 422) (pc : Nat) : xi_ok (xc m) (xi m pc) = true := by
  rcases Nat.lt_or_ge m 211 with z | z
  · rcases Nat.lt_or_ge m 105 with z | z
    · rcases Nat.lt_or_ge m 52 with z | z
      · rcases Nat.lt_or_ge m 26 with z | z
        · rcases Nat.lt_or_ge m 13 with z | z
          · rcases Nat.lt_or_ge m 6 with z | z
            · rcases Nat.lt_or_ge m 3 with z | z
              · rcases Nat.lt_or_ge m 1 with z | z
                · obtain rfl : m = 0 := by omega
                  exact xi_ok0 pc
                · rcases Nat.lt_or_ge m 2 with z | z
                  · obtain rfl : m = 1 := by omega
                    exact xi_ok1 pc
                  · obtain rfl : m = 2 := by omega
                    exact xi_ok2 pc
              · rcases Nat.lt_or_ge m 4 with z | z
                · obtain rfl : m = 3 := by omega
                  exact xi_ok3 pc
                · rcases Nat.lt_or_ge m 5 with z | z
                  · obtain rfl : m = 4 := by omega
                    exact xi_ok4 pc
                  · obtain rfl : m = 5 := by omega
                    exact xi_ok5 pc
            · rcases Nat.lt_or_ge m 9 with z | z
              · rcases Nat.lt_or_ge m 7 with z | z
                · obtain rfl : m = 6 := by omega
                  exact xi_ok6 pc
                · rcases Nat.lt_or_ge m 8 with z | z
                  · obtain rfl : m = 7 := by omega
                    exact xi_ok7 pc
                  · obtain rfl : m = 8 := by omega
                    exact xi_ok8 pc
              · rcases Nat.lt_or_ge m 11 with z | z
                · rcases Nat.lt_or_ge m 10 with z | z
                  · obtain rfl : m = 9 := by omega
                    exact xi_ok9 pc
                  · obtain rfl : m = 10 := by omega
                    exact xi_ok10 pc
                · rcases Nat.lt_or_ge m 12 with z | z
                  · obtain rfl : m = 11 := by omega
                    exact xi_ok11 pc
                  · obtain rfl : m = 12 := by omega
                    exact xi_ok12 pc
          · rcases Nat.lt_or_ge m 19 with z | z
            · rcases Nat.lt_or_ge m 16 with z | z
              · rcases Nat.lt_or_ge m 14 with z | z
                · obtain rfl : m = 13 := by omega
                  exact xi_ok13 pc
                · rcases Nat.lt_or_ge m 15 with z | z
                  · obtain rfl : m = 14 := by omega
                    exact xi_ok14 pc
                  · obtain rfl : m = 15 := by omega
                    exact xi_ok15 pc
              · rcases Nat.lt_or_ge m 17 with z | z
                · obtain rfl : m = 16 := by omega
                  exact xi_ok16 pc
                · rcases Nat.lt_or_ge m 18 with z | z
                  · obtain rfl : m = 17 := by omega
                    exact xi_ok17 pc
                  · obtain rfl : m = 18 := by omega
                    exact xi_ok18 pc
            · rcases Nat.lt_or_ge m 22 with z | z
              · rcases Nat.lt_or_ge m 20 with z | z
                · obtain rfl : m = 19 := by omega
                  exact xi_ok19 pc
                · rcases Nat.lt_or_ge m 21 with z | z
                  · obtain rfl : m = 20 := by omega
                    exact xi_ok20 pc
                  · obtain rfl : m = 21 := by omega
                    exact xi_ok21 pc
              · rcases Nat.lt_or_ge m 24 with z | z
                · rcases Nat.lt_or_ge m 23 with z | z
                  · obtain rfl : m = 22 := by omega
                    exact xi_ok22 pc
                  · obtain rfl : m = 23 := by omega
                    exact xi_ok23 pc
                · rcases Nat.lt_or_ge m 25 with z | z
                  · obtain rfl : m = 24 := by omega
                    exact xi_ok24 pc
                  · obtain rfl : m = 25 := by omega
                    exact xi_ok25 pc
        · rcases Nat.lt_or_ge m 39 with z | z
          · rcases Nat.lt_or_ge m 32 with z | z
            · rcases Nat.lt_or_ge m 29 with z | z
              · rcases Nat.lt_or_ge m 27 with z | z
                · obtain rfl : m = 26 := by omega
                  exact xi_ok26 pc
                · rcases Nat.lt_or_ge m 28 with z | z
                  · obtain rfl : m = 27 := by omega
                    exact xi_ok27 pc
                  · obtain rfl : m = 28 := by omega
                    exact xi_ok28 pc
              · rcases Nat.lt_or_ge m 30 with z | z
                · obtain rfl : m = 29 := by omega
                  exact xi_ok29 pc
                · rcases Nat.lt_or_ge m 31 with z | z
                  · obtain rfl : m = 30 := by omega
                    exact xi_ok30 pc
                  · obtain rfl : m = 31 := by omega
                    exact xi_ok31 pc
            · rcases Nat.lt_or_ge m 35 with z | z
              · rcases Nat.lt_or_ge m 33 with z | z
                · obtain rfl : m = 32 := by omega
                  exact xi_ok32 pc
                · rcases Nat.lt_or_ge m 34 with z | z
                  · obtain rfl : m = 33 := by omega
                    exact xi_ok33 pc
                  · obtain rfl : m = 34 := by omega
                    exact xi_ok34 pc
              · rcases Nat.lt_or_ge m 37 with z | z
                · rcases Nat.lt_or_ge m 36 with z | z
                  · obtain rfl : m = 35 := by omega
                    exact xi_ok35 pc
                  · obtain rfl : m = 36 := by omega
                    exact xi_ok36 pc
                · rcases Nat.lt_or_ge m 38 with z | z
                  · obtain rfl : m = 37 := by omega
                    exact xi_ok37 pc
                  · obtain rfl : m = 38 := by omega
                    exact xi_ok38 pc
          · rcases Nat.lt_or_ge m 45 with z | z
            · rcases Nat.lt_or_ge m 42 with z | z
              · rcases Nat.lt_or_ge m 40 with z | z
                · obtain rfl : m = 39 := by omega
                  exact xi_ok39 pc
                · rcases Nat.lt_or_ge m 41 with z | z
                  · obtain rfl : m = 40 := by omega
                    exact xi_ok40 pc
                  · obtain rfl : m = 41 := by omega
                    exact xi_ok41 pc
              · rcases Nat.lt_or_ge m 43 with z | z
                · obtain rfl : m = 42 := by omega
                  exact xi_ok42 pc
                · rcases Nat.lt_or_ge m 44 with z | z
                  · obtain rfl : m = 43 := by omega
                    exact xi_ok43 pc
                  · obtain rfl : m = 44 := by omega
                    exact xi_ok44 pc
            · rcases Nat.lt_or_ge m 48 with z | z
              · rcases Nat.lt_or_ge m 46 with z | z
                · obtain rfl : m = 45 := by omega
                  exact xi_ok45 pc
                · rcases Nat.lt_or_ge m 47 with z | z
                  · obtain rfl : m = 46 := by omega
                    exact xi_ok46 pc
                  · obtain rfl : m = 47 := by omega
                    exact xi_ok47 pc
              · rcases Nat.lt_or_ge m 50 with z | z
                · rcases Nat.lt_or_ge m 49 with z | z
                  · obtain rfl : m = 48 := by omega
                    exact xi_ok48 pc
                  · obtain rfl : m = 49 := by omega
                    exact xi_ok49 pc
                · rcases Nat.lt_or_ge m 51 with z | z
                  · obtain rfl : m = 50 := by omega
                    exact xi_ok50 pc
                  · obtain rfl : m = 51 := by omega
                    exact xi_ok51 pc
      · rcases Nat.lt_or_ge m 78 with z | z
        · rcases Nat.lt_or_ge m 65 with z | z
          · rcases Nat.lt_or_ge m 58 with z | z
            · rcases Nat.lt_or_ge m 55 with z | z
              · rcases Nat.lt_or_ge m 53 with z | z
                · obtain rfl : m = 52 := by omega
                  exact xi_ok52 pc
                · rcases Nat.lt_or_ge m 54 with z | z
                  · obtain rfl : m = 53 := by omega
                    exact xi_ok53 pc
                  · obtain rfl : m = 54 := by omega
                    exact xi_ok54 pc
              · rcases Nat.lt_or_ge m 56 with z | z
                · obtain rfl : m = 55 := by omega
                  exact xi_ok55 pc
                · rcases Nat.lt_or_ge m 57 with z | z
                  · obtain rfl : m = 56 := by omega
                    exact xi_ok56 pc
                  · obtain rfl : m = 57 := by omega
                    exact xi_ok57 pc
            · rcases Nat.lt_or_ge m 61 with z | z
              · rcases Nat.lt_or_ge m 59 with z | z
                · obtain rfl : m = 58 := by omega
                  exact xi_ok58 pc
                · rcases Nat.lt_or_ge m 60 with z | z
                  · obtain rfl : m = 59 := by omega
                    exact xi_ok59 pc
                  · obtain rfl : m = 60 := by omega
                    exact xi_ok60 pc
              · rcases Nat.lt_or_ge m 63 with z | z
                · rcases Nat.lt_or_ge m 62 with z | z
                  · obtain rfl : m = 61 := by omega
                    exact xi_ok61 pc
                  · obtain rfl : m = 62 := by omega
                    exact xi_ok62 pc
                · rcases Nat.lt_or_ge m 64 with z | z
                  · obtain rfl : m = 63 := by omega
                    exact xi_ok63 pc
                  · obtain rfl : m = 64 := by omega
                    exact xi_ok64 pc
          · rcases Nat.lt_or_ge m 71 with z | z
            · rcases Nat.lt_or_ge m 68 with z | z
              · rcases Nat.lt_or_ge m 66 with z | z
                · obtain rfl : m = 65 := by omega
                  exact xi_ok65 pc
                · rcases Nat.lt_or_ge m 67 with z | z
                  · obtain rfl : m = 66 := by omega
                    exact xi_ok66 pc
                  · obtain rfl : m = 67 := by omega
                    exact xi_ok67 pc
              · rcases Nat.lt_or_ge m 69 with z | z
                · obtain rfl : m = 68 := by omega
                  exact xi_ok68 pc
                · rcases Nat.lt_or_ge m 70 with z | z
                  · obtain rfl : m = 69 := by omega
                    exact xi_ok69 pc
                  · obtain rfl : m = 70 := by omega
                    exact xi_ok70 pc
            · rcases Nat.lt_or_ge m 74 with z | z
              · rcases Nat.lt_or_ge m 72 with z | z
                · obtain rfl : m = 71 := by omega
                  exact xi_ok71 pc
                · rcases Nat.lt_or_ge m 73 with z | z
                  · obtain rfl : m = 72 := by omega
                    exact xi_ok72 pc
                  · obtain rfl : m = 73 := by omega
                    exact xi_ok73 pc
              · rcases Nat.lt_or_ge m 76 with z | z
                · rcases Nat.lt_or_ge m 75 with z | z
                  · obtain rfl : m = 74 := by omega
                    exact xi_ok74 pc
                  · obtain rfl : m = 75 := by omega
                    exact xi_ok75 pc
                · rcases Nat.lt_or_ge m 77 with z | z
                  · obtain rfl : m = 76 := by omega
                    exact xi_ok76 pc
                  · obtain rfl : m = 77 := by omega
                    exact xi_ok77 pc
        · rcases Nat.lt_or_ge m 91 with z | z
          · rcases Nat.lt_or_ge m 84 with z | z
            · rcases Nat.lt_or_ge m 81 with z | z
              · rcases Nat.lt_or_ge m 79 with z | z
                · obtain rfl : m = 78 := by omega
                  exact xi_ok78 pc
                · rcases Nat.lt_or_ge m 80 with z | z
                  · obtain rfl : m = 79 := by omega
                    exact xi_ok79 pc
                  · obtain rfl : m = 80 := by omega
                    exact xi_ok80 pc
              · rcases Nat.lt_or_ge m 82 with z | z
                · obtain rfl : m = 81 := by omega
                  exact xi_ok81 pc
                · rcases Nat.lt_or_ge m 83 with z | z
                  · obtain rfl : m = 82 := by omega
                    exact xi_ok82 pc
                  · obtain rfl : m = 83 := by omega
                    exact xi_ok83 pc
            · rcases Nat.lt_or_ge m 87 with z | z
              · rcases Nat.lt_or_ge m 85 with z | z
                · obtain rfl : m = 84 := by omega
                  exact xi_ok84 pc
                · rcases Nat.lt_or_ge m 86 with z | z
                  · obtain rfl : m = 85 := by omega
                    exact xi_ok85 pc
                  · obtain rfl : m = 86 := by omega
                    exact xi_ok86 pc
              · rcases Nat.lt_or_ge m 89 with z | z
                · rcases Nat.lt_or_ge m 88 with z | z
                  · obtain rfl : m = 87 := by omega
                    exact xi_ok87 pc
                  · obtain rfl : m = 88 := by omega
                    exact xi_ok88 pc
                · rcases Nat.lt_or_ge m 90 with z | z
                  · obtain rfl : m = 89 := by omega
                    exact xi_ok89 pc
                  · obtain rfl : m = 90 := by omega
                    exact xi_ok90 pc
          · rcases Nat.lt_or_ge m 98 with z | z
            · rcases Nat.lt_or_ge m 94 with z | z
              · rcases Nat.lt_or_ge m 92 with z | z
                · obtain rfl : m = 91 := by omega
                  exact xi_ok91 pc
                · rcases Nat.lt_or_ge m 93 with z | z
                  · obtain rfl : m = 92 := by omega
                    exact xi_ok92 pc
                  · obtain rfl : m = 93 := by omega
                    exact xi_ok93 pc
              · rcases Nat.lt_or_ge m 96 with z | z
                · rcases Nat.lt_or_ge m 95 with z | z
                  · obtain rfl : m = 94 := by omega
                    exact xi_ok94 pc
                  · obtain rfl : m = 95 := by omega
                    exact xi_ok95 pc
                · rcases Nat.lt_or_ge m 97 with z | z
                  · obtain rfl : m = 96 := by omega
                    exact xi_ok96 pc
                  · obtain rfl : m = 97 := by omega
                    exact xi_ok97 pc
            · rcases Nat.lt_or_ge m 101 with z | z
              · rcases Nat.lt_or_ge m 99 with z | z
                · obtain rfl : m = 98 := by omega
                  exact xi_ok98 pc
                · rcases Nat.lt_or_ge m 100 with z | z
                  · obtain rfl : m = 99 := by omega
                    exact xi_ok99 pc
                  · obtain rfl : m = 100 := by omega
                    exact xi_ok100 pc
              · rcases Nat.lt_or_ge m 103 with z | z
                · rcases Nat.lt_or_ge m 102 with z | z
                  · obtain rfl : m = 101 := by omega
                    exact xi_ok101 pc
                  · obtain rfl : m = 102 := by omega
                    exact xi_ok102 pc
                · rcases Nat.lt_or_ge m 104 with z | z
                  · obtain rfl : m = 103 := by omega
                    exact xi_ok103 pc
                  · obtain rfl : m = 104 := by omega
                    exact xi_ok104 pc
    · rcases Nat.lt_or_ge m 158 with z | z
      · rcases Nat.lt_or_ge m 131 with z | z
        · rcases Nat.lt_or_ge m 118 with z | z
          · rcases Nat.lt_or_ge m 111 with z | z
            · rcases Nat.lt_or_ge m 108 with z | z
              · rcases Nat.lt_or_ge m 106 with z | z
                · obtain rfl : m = 105 := by omega
                  exact xi_ok105 pc
                · rcases Nat.lt_or_ge m 107 with z | z
                  · obtain rfl : m = 106 := by omega
                    exact xi_ok106 pc
                  · obtain rfl : m = 107 := by omega
                    exact xi_ok107 pc
              · rcases Nat.lt_or_ge m 109 with z | z
                · obtain rfl : m = 108 := by omega
                  exact xi_ok108 pc
                · rcases Nat.lt_or_ge m 110 with z | z
                  · obtain rfl : m = 109 := by omega
                    exact xi_ok109 pc
                  · obtain rfl : m = 110 := by omega
                    exact xi_ok110 pc
            · rcases Nat.lt_or_ge m 114 with z | z
              · rcases Nat.lt_or_ge m 112 with z | z
                · obtain rfl : m = 111 := by omega
                  exact xi_ok111 pc
                · rcases Nat.lt_or_ge m 113 with z | z
                  · obtain rfl : m = 112 := by omega
                    exact xi_ok112 pc
                  · obtain rfl : m = 113 := by omega
                    exact xi_ok113 pc
              · rcases Nat.lt_or_ge m 116 with z | z
                · rcases Nat.lt_or_ge m 115 with z | z
                  · obtain rfl : m = 114 := by omega
                    exact xi_ok114 pc
                  · obtain rfl : m = 115 := by omega
                    exact xi_ok115 pc
                · rcases Nat.lt_or_ge m 117 with z | z
                  · obtain rfl : m = 116 := by omega
                    exact xi_ok116 pc
                  · obtain rfl : m = 117 := by omega
                    exact xi_ok117 pc
          · rcases Nat.lt_or_ge m 124 with z | z
            · rcases Nat.lt_or_ge m 121 with z | z
              · rcases Nat.lt_or_ge m 119 with z | z
                · obtain rfl : m = 118 := by omega
                  exact xi_ok118 pc
                · rcases Nat.lt_or_ge m 120 with z | z
                  · obtain rfl : m = 119 := by omega
                    exact xi_ok119 pc
                  · obtain rfl : m = 120 := by omega
                    exact xi_ok120 pc
              · rcases Nat.lt_or_ge m 122 with z | z
                · obtain rfl : m = 121 := by omega
                  exact xi_ok121 pc
                · rcases Nat.lt_or_ge m 123 with z | z
                  · obtain rfl : m = 122 := by omega
                    exact xi_ok122 pc
                  · obtain rfl : m = 123 := by omega
                    exact xi_ok123 pc
            · rcases Nat.lt_or_ge m 127 with z | z
              · rcases Nat.lt_or_ge m 125 with z | z
                · obtain rfl : m = 124 := by omega
                  exact xi_ok124 pc
                · rcases Nat.lt_or_ge m 126 with z | z
                  · obtain rfl : m = 125 := by omega
                    exact xi_ok125 pc
                  · obtain rfl : m = 126 := by omega
                    exact xi_ok126 pc
              · rcases Nat.lt_or_ge m 129 with z | z
                · rcases Nat.lt_or_ge m 128 with z | z
                  · obtain rfl : m = 127 := by omega
                    exact xi_ok127 pc
                  · obtain rfl : m = 128 := by omega
                    exact xi_ok128 pc
                · rcases Nat.lt_or_ge m 130 with z | z
                  · obtain rfl : m = 129 := by omega
                    exact xi_ok129 pc
                  · obtain rfl : m = 130 := by omega
                    exact xi_ok130 pc
        · rcases Nat.lt_or_ge m 144 with z | z
          · rcases Nat.lt_or_ge m 137 with z | z
            · rcases Nat.lt_or_ge m 134 with z | z
              · rcases Nat.lt_or_ge m 132 with z | z
                · obtain rfl : m = 131 := by omega
                  exact xi_ok131 pc
                · rcases Nat.lt_or_ge m 133 with z | z
                  · obtain rfl : m = 132 := by omega
                    exact xi_ok132 pc
                  · obtain rfl : m = 133 := by omega
                    exact xi_ok133 pc
              · rcases Nat.lt_or_ge m 135 with z | z
                · obtain rfl : m = 134 := by omega
                  exact xi_ok134 pc
                · rcases Nat.lt_or_ge m 136 with z | z
                  · obtain rfl : m = 135 := by omega
                    exact xi_ok135 pc
                  · obtain rfl : m = 136 := by omega
                    exact xi_ok136 pc
            · rcases Nat.lt_or_ge m 140 with z | z
              · rcases Nat.lt_or_ge m 138 with z | z
                · obtain rfl : m = 137 := by omega
                  exact xi_ok137 pc
                · rcases Nat.lt_or_ge m 139 with z | z
                  · obtain rfl : m = 138 := by omega
                    exact xi_ok138 pc
                  · obtain rfl : m = 139 := by omega
                    exact xi_ok139 pc
              · rcases Nat.lt_or_ge m 142 with z | z
                · rcases Nat.lt_or_ge m 141 with z | z
                  · obtain rfl : m = 140 := by omega
                    exact xi_ok140 pc
                  · obtain rfl : m = 141 := by omega
                    exact xi_ok141 pc
                · rcases Nat.lt_or_ge m 143 with z | z
                  · obtain rfl : m = 142 := by omega
                    exact xi_ok142 pc
                  · obtain rfl : m = 143 := by omega
                    exact xi_ok143 pc
          · rcases Nat.lt_or_ge m 151 with z | z
            · rcases Nat.lt_or_ge m 147 with z | z
              · rcases Nat.lt_or_ge m 145 with z | z
                · obtain rfl : m = 144 := by omega
                  exact xi_ok144 pc
                · rcases Nat.lt_or_ge m 146 with z | z
                  · obtain rfl : m = 145 := by omega
                    exact xi_ok145 pc
                  · obtain rfl : m = 146 := by omega
                    exact xi_ok146 pc
              · rcases Nat.lt_or_ge m 149 with z | z
                · rcases Nat.lt_or_ge m 148 with z | z
                  · obtain rfl : m = 147 := by omega
                    exact xi_ok147 pc
                  · obtain rfl : m = 148 := by omega
                    exact xi_ok148 pc
                · rcases Nat.lt_or_ge m 150 with z | z
                  · obtain rfl : m = 149 := by omega
                    exact xi_ok149 pc
                  · obtain rfl : m = 150 := by omega
                    exact xi_ok150 pc
            · rcases Nat.lt_or_ge m 154 with z | z
              · rcases Nat.lt_or_ge m 152 with z | z
                · obtain rfl : m = 151 := by omega
                  exact xi_ok151 pc
                · rcases Nat.lt_or_ge m 153 with z | z
                  · obtain rfl : m = 152 := by omega
                    exact xi_ok152 pc
                  · obtain rfl : m = 153 := by omega
                    exact xi_ok153 pc
              · rcases Nat.lt_or_ge m 156 with z | z
                · rcases Nat.lt_or_ge m 155 with z | z
                  · obtain rfl : m = 154 := by omega
                    exact xi_ok154 pc
                  · obtain rfl : m = 155 := by omega
                    exact xi_ok155 pc
                · rcases Nat.lt_or_ge m 157 with z | z
                  · obtain rfl : m = 156 := by omega
                    exact xi_ok156 pc
                  · obtain rfl : m = 157 := by omega
                    exact xi_ok157 pc
      · rcases Nat.lt_or_ge m 184 with z | z
        · rcases Nat.lt_or_ge m 171 with z | z
          · rcases Nat.lt_or_ge m 164 with z | z
            · rcases Nat.lt_or_ge m 161 with z | z
              · rcases Nat.lt_or_ge m 159 with z | z
                · obtain rfl : m = 158 := by omega
                  exact xi_ok158 pc
                · rcases Nat.lt_or_ge m 160 with z | z
                  · obtain rfl : m = 159 := by omega
                    exact xi_ok159 pc
                  · obtain rfl : m = 160 := by omega
                    exact xi_ok160 pc
              · rcases Nat.lt_or_ge m 162 with z | z
                · obtain rfl : m = 161 := by omega
                  exact xi_ok161 pc
                · rcases Nat.lt_or_ge m 163 with z | z
                  · obtain rfl : m = 162 := by omega
                    exact xi_ok162 pc
                  · obtain rfl : m = 163 := by omega
                    exact xi_ok163 pc
            · rcases Nat.lt_or_ge m 167 with z | z
              · rcases Nat.lt_or_ge m 165 with z | z
                · obtain rfl : m = 164 := by omega
                  exact xi_ok164 pc
                · rcases Nat.lt_or_ge m 166 with z | z
                  · obtain rfl : m = 165 := by omega
                    exact xi_ok165 pc
                  · obtain rfl : m = 166 := by omega
                    exact xi_ok166 pc
              · rcases Nat.lt_or_ge m 169 with z | z
                · rcases Nat.lt_or_ge m 168 with z | z
                  · obtain rfl : m = 167 := by omega
                    exact xi_ok167 pc
                  · obtain rfl : m = 168 := by omega
                    exact xi_ok168 pc
                · rcases Nat.lt_or_ge m 170 with z | z
                  · obtain rfl : m = 169 := by omega
                    exact xi_ok169 pc
                  · obtain rfl : m = 170 := by omega
                    exact xi_ok170 pc
          · rcases Nat.lt_or_ge m 177 with z | z
            · rcases Nat.lt_or_ge m 174 with z | z
              · rcases Nat.lt_or_ge m 172 with z | z
                · obtain rfl : m = 171 := by omega
                  exact xi_ok171 pc
                · rcases Nat.lt_or_ge m 173 with z | z
                  · obtain rfl : m = 172 := by omega
                    exact xi_ok172 pc
                  · obtain rfl : m = 173 := by omega
                    exact xi_ok173 pc
              · rcases Nat.lt_or_ge m 175 with z | z
                · obtain rfl : m = 174 := by omega
                  exact xi_ok174 pc
                · rcases Nat.lt_or_ge m 176 with z | z
                  · obtain rfl : m = 175 := by omega
                    exact xi_ok175 pc
                  · obtain rfl : m = 176 := by omega
                    exact xi_ok176 pc
            · rcases Nat.lt_or_ge m 180 with z | z
              · rcases Nat.lt_or_ge m 178 with z | z
                · obtain rfl : m = 177 := by omega
                  exact xi_ok177 pc
                · rcases Nat.lt_or_ge m 179 with z | z
                  · obtain rfl : m = 178 := by omega
                    exact xi_ok178 pc
                  · obtain rfl : m = 179 := by omega
                    exact xi_ok179 pc
              · rcases Nat.lt_or_ge m 182 with z | z
                · rcases Nat.lt_or_ge m 181 with z | z
                  · obtain rfl : m = 180 := by omega
                    exact xi_ok180 pc
                  · obtain rfl : m = 181 := by omega
                    exact xi_ok181 pc
                · rcases Nat.lt_or_ge m 183 with z | z
                  · obtain rfl : m = 182 := by omega
                    exact xi_ok182 pc
                  · obtain rfl : m = 183 := by omega
                    exact xi_ok183 pc
        · rcases Nat.lt_or_ge m 197 with z | z
          · rcases Nat.lt_or_ge m 190 with z | z
            · rcases Nat.lt_or_ge m 187 with z | z
              · rcases Nat.lt_or_ge m 185 with z | z
                · obtain rfl : m = 184 := by omega
                  exact xi_ok184 pc
                · rcases Nat.lt_or_ge m 186 with z | z
                  · obtain rfl : m = 185 := by omega
                    exact xi_ok185 pc
                  · obtain rfl : m = 186 := by omega
                    exact xi_ok186 pc
              · rcases Nat.lt_or_ge m 188 with z | z
                · obtain rfl : m = 187 := by omega
                  exact xi_ok187 pc
                · rcases Nat.lt_or_ge m 189 with z | z
                  · obtain rfl : m = 188 := by omega
                    exact xi_ok188 pc
                  · obtain rfl : m = 189 := by omega
                    exact xi_ok189 pc
            · rcases Nat.lt_or_ge m 193 with z | z
              · rcases Nat.lt_or_ge m 191 with z | z
                · obtain rfl : m = 190 := by omega
                  exact xi_ok190 pc
                · rcases Nat.lt_or_ge m 192 with z | z
                  · obtain rfl : m = 191 := by omega
                    exact xi_ok191 pc
                  · obtain rfl : m = 192 := by omega
                    exact xi_ok192 pc
              · rcases Nat.lt_or_ge m 195 with z | z
                · rcases Nat.lt_or_ge m 194 with z | z
                  · obtain rfl : m = 193 := by omega
                    exact xi_ok193 pc
                  · obtain rfl : m = 194 := by omega
                    exact xi_ok194 pc
                · rcases Nat.lt_or_ge m 196 with z | z
                  · obtain rfl : m = 195 := by omega
                    exact xi_ok195 pc
                  · obtain rfl : m = 196 := by omega
                    exact xi_ok196 pc
          · rcases Nat.lt_or_ge m 204 with z | z
            · rcases Nat.lt_or_ge m 200 with z | z
              · rcases Nat.lt_or_ge m 198 with z | z
                · obtain rfl : m = 197 := by omega
                  exact xi_ok197 pc
                · rcases Nat.lt_or_ge m 199 with z | z
                  · obtain rfl : m = 198 := by omega
                    exact xi_ok198 pc
                  · obtain rfl : m = 199 := by omega
                    exact xi_ok199 pc
              · rcases Nat.lt_or_ge m 202 with z | z
                · rcases Nat.lt_or_ge m 201 with z | z
                  · obtain rfl : m = 200 := by omega
                    exact xi_ok200 pc
                  · obtain rfl : m = 201 := by omega
                    exact xi_ok201 pc
                · rcases Nat.lt_or_ge m 203 with z | z
                  · obtain rfl : m = 202 := by omega
                    exact xi_ok202 pc
                  · obtain rfl : m = 203 := by omega
                    exact xi_ok203 pc
            · rcases Nat.lt_or_ge m 207 with z | z
              · rcases Nat.lt_or_ge m 205 with z | z
                · obtain rfl : m = 204 := by omega
                  exact xi_ok204 pc
                · rcases Nat.lt_or_ge m 206 with z | z
                  · obtain rfl : m = 205 := by omega
                    exact xi_ok205 pc
                  · obtain rfl : m = 206 := by omega
                    exact xi_ok206 pc
              · rcases Nat.lt_or_ge m 209 with z | z
                · rcases Nat.lt_or_ge m 208 with z | z
                  · obtain rfl : m = 207 := by omega
                    exact xi_ok207 pc
                  · obtain rfl : m = 208 := by omega
                    exact xi_ok208 pc
                · rcases Nat.lt_or_ge m 210 with z | z
                  · obtain rfl : m = 209 := by omega
                    exact xi_ok209 pc
                  · obtain rfl : m = 210 := by omega
                    exact xi_ok210 pc
  · rcases Nat.lt_or_ge m 316 with z | z
    · rcases Nat.lt_or_ge m 263 with z | z
      · rcases Nat.lt_or_ge m 237 with z | z
        · rcases Nat.lt_or_ge m 224 with z | z
          · rcases Nat.lt_or_ge m 217 with z | z
            · rcases Nat.lt_or_ge m 214 with z | z
              · rcases Nat.lt_or_ge m 212 with z | z
                · obtain rfl : m = 211 := by omega
                  exact xi_ok211 pc
                · rcases Nat.lt_or_ge m 213 with z | z
                  · obtain rfl : m = 212 := by omega
                    exact xi_ok212 pc
                  · obtain rfl : m = 213 := by omega
                    exact xi_ok213 pc
              · rcases Nat.lt_or_ge m 215 with z | z
                · obtain rfl : m = 214 := by omega
                  exact xi_ok214 pc
                · rcases Nat.lt_or_ge m 216 with z | z
                  · obtain rfl : m = 215 := by omega
                    exact xi_ok215 pc
                  · obtain rfl : m = 216 := by omega
                    exact xi_ok216 pc
            · rcases Nat.lt_or_ge m 220 with z | z
              · rcases Nat.lt_or_ge m 218 with z | z
                · obtain rfl : m = 217 := by omega
                  exact xi_ok217 pc
                · rcases Nat.lt_or_ge m 219 with z | z
                  · obtain rfl : m = 218 := by omega
                    exact xi_ok218 pc
                  · obtain rfl : m = 219 := by omega
                    exact xi_ok219 pc
              · rcases Nat.lt_or_ge m 222 with z | z
                · rcases Nat.lt_or_ge m 221 with z | z
                  · obtain rfl : m = 220 := by omega
                    exact xi_ok220 pc
                  · obtain rfl : m = 221 := by omega
                    exact xi_ok221 pc
                · rcases Nat.lt_or_ge m 223 with z | z
                  · obtain rfl : m = 222 := by omega
                    exact xi_ok222 pc
                  · obtain rfl : m = 223 := by omega
                    exact xi_ok223 pc
          · rcases Nat.lt_or_ge m 230 with z | z
            · rcases Nat.lt_or_ge m 227 with z | z
              · rcases Nat.lt_or_ge m 225 with z | z
                · obtain rfl : m = 224 := by omega
                  exact xi_ok224 pc
                · rcases Nat.lt_or_ge m 226 with z | z
                  · obtain rfl : m = 225 := by omega
                    exact xi_ok225 pc
                  · obtain rfl : m = 226 := by omega
                    exact xi_ok226 pc
              · rcases Nat.lt_or_ge m 228 with z | z
                · obtain rfl : m = 227 := by omega
                  exact xi_ok227 pc
                · rcases Nat.lt_or_ge m 229 with z | z
                  · obtain rfl : m = 228 := by omega
                    exact xi_ok228 pc
                  · obtain rfl : m = 229 := by omega
                    exact xi_ok229 pc
            · rcases Nat.lt_or_ge m 233 with z | z
              · rcases Nat.lt_or_ge m 231 with z | z
                · obtain rfl : m = 230 := by omega
                  exact xi_ok230 pc
                · rcases Nat.lt_or_ge m 232 with z | z
                  · obtain rfl : m = 231 := by omega
                    exact xi_ok231 pc
                  · obtain rfl : m = 232 := by omega
                    exact xi_ok232 pc
              · rcases Nat.lt_or_ge m 235 with z | z
                · rcases Nat.lt_or_ge m 234 with z | z
                  · obtain rfl : m = 233 := by omega
                    exact xi_ok233 pc
                  · obtain rfl : m = 234 := by omega
                    exact xi_ok234 pc
                · rcases Nat.lt_or_ge m 236 with z | z
                  · obtain rfl : m = 235 := by omega
                    exact xi_ok235 pc
                  · obtain rfl : m = 236 := by omega
                    exact xi_ok236 pc
        · rcases Nat.lt_or_ge m 250 with z | z
          · rcases Nat.lt_or_ge m 243 with z | z
            · rcases Nat.lt_or_ge m 240 with z | z
              · rcases Nat.lt_or_ge m 238 with z | z
                · obtain rfl : m = 237 := by omega
                  exact xi_ok237 pc
                · rcases Nat.lt_or_ge m 239 with z | z
                  · obtain rfl : m = 238 := by omega
                    exact xi_ok238 pc
                  · obtain rfl : m = 239 := by omega
                    exact xi_ok239 pc
              · rcases Nat.lt_or_ge m 241 with z | z
                · obtain rfl : m = 240 := by omega
                  exact xi_ok240 pc
                · rcases Nat.lt_or_ge m 242 with z | z
                  · obtain rfl : m = 241 := by omega
                    exact xi_ok241 pc
                  · obtain rfl : m = 242 := by omega
                    exact xi_ok242 pc
            · rcases Nat.lt_or_ge m 246 with z | z
              · rcases Nat.lt_or_ge m 244 with z | z
                · obtain rfl : m = 243 := by omega
                  exact xi_ok243 pc
                · rcases Nat.lt_or_ge m 245 with z | z
                  · obtain rfl : m = 244 := by omega
                    exact xi_ok244 pc
                  · obtain rfl : m = 245 := by omega
                    exact xi_ok245 pc
              · rcases Nat.lt_or_ge m 248 with z | z
                · rcases Nat.lt_or_ge m 247 with z | z
                  · obtain rfl : m = 246 := by omega
                    exact xi_ok246 pc
                  · obtain rfl : m = 247 := by omega
                    exact xi_ok247 pc
                · rcases Nat.lt_or_ge m 249 with z | z
                  · obtain rfl : m = 248 := by omega
                    exact xi_ok248 pc
                  · obtain rfl : m = 249 := by omega
                    exact xi_ok249 pc
          · rcases Nat.lt_or_ge m 256 with z | z
            · rcases Nat.lt_or_ge m 253 with z | z
              · rcases Nat.lt_or_ge m 251 with z | z
                · obtain rfl : m = 250 := by omega
                  exact xi_ok250 pc
                · rcases Nat.lt_or_ge m 252 with z | z
                  · obtain rfl : m = 251 := by omega
                    exact xi_ok251 pc
                  · obtain rfl : m = 252 := by omega
                    exact xi_ok252 pc
              · rcases Nat.lt_or_ge m 254 with z | z
                · obtain rfl : m = 253 := by omega
                  exact xi_ok253 pc
                · rcases Nat.lt_or_ge m 255 with z | z
                  · obtain rfl : m = 254 := by omega
                    exact xi_ok254 pc
                  · obtain rfl : m = 255 := by omega
                    exact xi_ok255 pc
            · rcases Nat.lt_or_ge m 259 with z | z
              · rcases Nat.lt_or_ge m 257 with z | z
                · obtain rfl : m = 256 := by omega
                  exact xi_ok256 pc
                · rcases Nat.lt_or_ge m 258 with z | z
                  · obtain rfl : m = 257 := by omega
                    exact xi_ok257 pc
                  · obtain rfl : m = 258 := by omega
                    exact xi_ok258 pc
              · rcases Nat.lt_or_ge m 261 with z | z
                · rcases Nat.lt_or_ge m 260 with z | z
                  · obtain rfl : m = 259 := by omega
                    exact xi_ok259 pc
                  · obtain rfl : m = 260 := by omega
                    exact xi_ok260 pc
                · rcases Nat.lt_or_ge m 262 with z | z
                  · obtain rfl : m = 261 := by omega
                    exact xi_ok261 pc
                  · obtain rfl : m = 262 := by omega
                    exact xi_ok262 pc
      · rcases Nat.lt_or_ge m 289 with z | z
        · rcases Nat.lt_or_ge m 276 with z | z
          · rcases Nat.lt_or_ge m 269 with z | z
            · rcases Nat.lt_or_ge m 266 with z | z
              · rcases Nat.lt_or_ge m 264 with z | z
                · obtain rfl : m = 263 := by omega
                  exact xi_ok263 pc
                · rcases Nat.lt_or_ge m 265 with z | z
                  · obtain rfl : m = 264 := by omega
                    exact xi_ok264 pc
                  · obtain rfl : m = 265 := by omega
                    exact xi_ok265 pc
              · rcases Nat.lt_or_ge m 267 with z | z
                · obtain rfl : m = 266 := by omega
                  exact xi_ok266 pc
                · rcases Nat.lt_or_ge m 268 with z | z
                  · obtain rfl : m = 267 := by omega
                    exact xi_ok267 pc
                  · obtain rfl : m = 268 := by omega
                    exact xi_ok268 pc
            · rcases Nat.lt_or_ge m 272 with z | z
              · rcases Nat.lt_or_ge m 270 with z | z
                · obtain rfl : m = 269 := by omega
                  exact xi_ok269 pc
                · rcases Nat.lt_or_ge m 271 with z | z
                  · obtain rfl : m = 270 := by omega
                    exact xi_ok270 pc
                  · obtain rfl : m = 271 := by omega
                    exact xi_ok271 pc
              · rcases Nat.lt_or_ge m 274 with z | z
                · rcases Nat.lt_or_ge m 273 with z | z
                  · obtain rfl : m = 272 := by omega
                    exact xi_ok272 pc
                  · obtain rfl : m = 273 := by omega
                    exact xi_ok273 pc
                · rcases Nat.lt_or_ge m 275 with z | z
                  · obtain rfl : m = 274 := by omega
                    exact xi_ok274 pc
                  · obtain rfl : m = 275 := by omega
                    exact xi_ok275 pc
          · rcases Nat.lt_or_ge m 282 with z | z
            · rcases Nat.lt_or_ge m 279 with z | z
              · rcases Nat.lt_or_ge m 277 with z | z
                · obtain rfl : m = 276 := by omega
                  exact xi_ok276 pc
                · rcases Nat.lt_or_ge m 278 with z | z
                  · obtain rfl : m = 277 := by omega
                    exact xi_ok277 pc
                  · obtain rfl : m = 278 := by omega
                    exact xi_ok278 pc
              · rcases Nat.lt_or_ge m 280 with z | z
                · obtain rfl : m = 279 := by omega
                  exact xi_ok279 pc
                · rcases Nat.lt_or_ge m 281 with z | z
                  · obtain rfl : m = 280 := by omega
                    exact xi_ok280 pc
                  · obtain rfl : m = 281 := by omega
                    exact xi_ok281 pc
            · rcases Nat.lt_or_ge m 285 with z | z
              · rcases Nat.lt_or_ge m 283 with z | z
                · obtain rfl : m = 282 := by omega
                  exact xi_ok282 pc
                · rcases Nat.lt_or_ge m 284 with z | z
                  · obtain rfl : m = 283 := by omega
                    exact xi_ok283 pc
                  · obtain rfl : m = 284 := by omega
                    exact xi_ok284 pc
              · rcases Nat.lt_or_ge m 287 with z | z
                · rcases Nat.lt_or_ge m 286 with z | z
                  · obtain rfl : m = 285 := by omega
                    exact xi_ok285 pc
                  · obtain rfl : m = 286 := by omega
                    exact xi_ok286 pc
                · rcases Nat.lt_or_ge m 288 with z | z
                  · obtain rfl : m = 287 := by omega
                    exact xi_ok287 pc
                  · obtain rfl : m = 288 := by omega
                    exact xi_ok288 pc
        · rcases Nat.lt_or_ge m 302 with z | z
          · rcases Nat.lt_or_ge m 295 with z | z
            · rcases Nat.lt_or_ge m 292 with z | z
              · rcases Nat.lt_or_ge m 290 with z | z
                · obtain rfl : m = 289 := by omega
                  exact xi_ok289 pc
                · rcases Nat.lt_or_ge m 291 with z | z
                  · obtain rfl : m = 290 := by omega
                    exact xi_ok290 pc
                  · obtain rfl : m = 291 := by omega
                    exact xi_ok291 pc
              · rcases Nat.lt_or_ge m 293 with z | z
                · obtain rfl : m = 292 := by omega
                  exact xi_ok292 pc
                · rcases Nat.lt_or_ge m 294 with z | z
                  · obtain rfl : m = 293 := by omega
                    exact xi_ok293 pc
                  · obtain rfl : m = 294 := by omega
                    exact xi_ok294 pc
            · rcases Nat.lt_or_ge m 298 with z | z
              · rcases Nat.lt_or_ge m 296 with z | z
                · obtain rfl : m = 295 := by omega
                  exact xi_ok295 pc
                · rcases Nat.lt_or_ge m 297 with z | z
                  · obtain rfl : m = 296 := by omega
                    exact xi_ok296 pc
                  · obtain rfl : m = 297 := by omega
                    exact xi_ok297 pc
              · rcases Nat.lt_or_ge m 300 with z | z
                · rcases Nat.lt_or_ge m 299 with z | z
                  · obtain rfl : m = 298 := by omega
                    exact xi_ok298 pc
                  · obtain rfl : m = 299 := by omega
                    exact xi_ok299 pc
                · rcases Nat.lt_or_ge m 301 with z | z
                  · obtain rfl : m = 300 := by omega
                    exact xi_ok300 pc
                  · obtain rfl : m = 301 := by omega
                    exact xi_ok301 pc
          · rcases Nat.lt_or_ge m 309 with z | z
            · rcases Nat.lt_or_ge m 305 with z | z
              · rcases Nat.lt_or_ge m 303 with z | z
                · obtain rfl : m = 302 := by omega
                  exact xi_ok302 pc
                · rcases Nat.lt_or_ge m 304 with z | z
                  · obtain rfl : m = 303 := by omega
                    exact xi_ok303 pc
                  · obtain rfl : m = 304 := by omega
                    exact xi_ok304 pc
              · rcases Nat.lt_or_ge m 307 with z | z
                · rcases Nat.lt_or_ge m 306 with z | z
                  · obtain rfl : m = 305 := by omega
                    exact xi_ok305 pc
                  · obtain rfl : m = 306 := by omega
                    exact xi_ok306 pc
                · rcases Nat.lt_or_ge m 308 with z | z
                  · obtain rfl : m = 307 := by omega
                    exact xi_ok307 pc
                  · obtain rfl : m = 308 := by omega
                    exact xi_ok308 pc
            · rcases Nat.lt_or_ge m 312 with z | z
              · rcases Nat.lt_or_ge m 310 with z | z
                · obtain rfl : m = 309 := by omega
                  exact xi_ok309 pc
                · rcases Nat.lt_or_ge m 311 with z | z
                  · obtain rfl : m = 310 := by omega
                    exact xi_ok310 pc
                  · obtain rfl : m = 311 := by omega
                    exact xi_ok311 pc
              · rcases Nat.lt_or_ge m 314 with z | z
                · rcases Nat.lt_or_ge m 313 with z | z
                  · obtain rfl : m = 312 := by omega
                    exact xi_ok312 pc
                  · obtain rfl : m = 313 := by omega
                    exact xi_ok313 pc
                · rcases Nat.lt_or_ge m 315 with z | z
                  · obtain rfl : m = 314 := by omega
                    exact xi_ok314 pc
                  · obtain rfl : m = 315 := by omega
                    exact xi_ok315 pc
    · rcases Nat.lt_or_ge m 369 with z | z
      · rcases Nat.lt_or_ge m 342 with z | z
        · rcases Nat.lt_or_ge m 329 with z | z
          · rcases Nat.lt_or_ge m 322 with z | z
            · rcases Nat.lt_or_ge m 319 with z | z
              · rcases Nat.lt_or_ge m 317 with z | z
                · obtain rfl : m = 316 := by omega
                  exact xi_ok316 pc
                · rcases Nat.lt_or_ge m 318 with z | z
                  · obtain rfl : m = 317 := by omega
                    exact xi_ok317 pc
                  · obtain rfl : m = 318 := by omega
                    exact xi_ok318 pc
              · rcases Nat.lt_or_ge m 320 with z | z
                · obtain rfl : m = 319 := by omega
                  exact xi_ok319 pc
                · rcases Nat.lt_or_ge m 321 with z | z
                  · obtain rfl : m = 320 := by omega
                    exact xi_ok320 pc
                  · obtain rfl : m = 321 := by omega
                    exact xi_ok321 pc
            · rcases Nat.lt_or_ge m 325 with z | z
              · rcases Nat.lt_or_ge m 323 with z | z
                · obtain rfl : m = 322 := by omega
                  exact xi_ok322 pc
                · rcases Nat.lt_or_ge m 324 with z | z
                  · obtain rfl : m = 323 := by omega
                    exact xi_ok323 pc
                  · obtain rfl : m = 324 := by omega
                    exact xi_ok324 pc
              · rcases Nat.lt_or_ge m 327 with z | z
                · rcases Nat.lt_or_ge m 326 with z | z
                  · obtain rfl : m = 325 := by omega
                    exact xi_ok325 pc
                  · obtain rfl : m = 326 := by omega
                    exact xi_ok326 pc
                · rcases Nat.lt_or_ge m 328 with z | z
                  · obtain rfl : m = 327 := by omega
                    exact xi_ok327 pc
                  · obtain rfl : m = 328 := by omega
                    exact xi_ok328 pc
          · rcases Nat.lt_or_ge m 335 with z | z
            · rcases Nat.lt_or_ge m 332 with z | z
              · rcases Nat.lt_or_ge m 330 with z | z
                · obtain rfl : m = 329 := by omega
                  exact xi_ok329 pc
                · rcases Nat.lt_or_ge m 331 with z | z
                  · obtain rfl : m = 330 := by omega
                    exact xi_ok330 pc
                  · obtain rfl : m = 331 := by omega
                    exact xi_ok331 pc
              · rcases Nat.lt_or_ge m 333 with z | z
                · obtain rfl : m = 332 := by omega
                  exact xi_ok332 pc
                · rcases Nat.lt_or_ge m 334 with z | z
                  · obtain rfl : m = 333 := by omega
                    exact xi_ok333 pc
                  · obtain rfl : m = 334 := by omega
                    exact xi_ok334 pc
            · rcases Nat.lt_or_ge m 338 with z | z
              · rcases Nat.lt_or_ge m 336 with z | z
                · obtain rfl : m = 335 := by omega
                  exact xi_ok335 pc
                · rcases Nat.lt_or_ge m 337 with z | z
                  · obtain rfl : m = 336 := by omega
                    exact xi_ok336 pc
                  · obtain rfl : m = 337 := by omega
                    exact xi_ok337 pc
              · rcases Nat.lt_or_ge m 340 with z | z
                · rcases Nat.lt_or_ge m 339 with z | z
                  · obtain rfl : m = 338 := by omega
                    exact xi_ok338 pc
                  · obtain rfl : m = 339 := by omega
                    exact xi_ok339 pc
                · rcases Nat.lt_or_ge m 341 with z | z
                  · obtain rfl : m = 340 := by omega
                    exact xi_ok340 pc
                  · obtain rfl : m = 341 := by omega
                    exact xi_ok341 pc
        · rcases Nat.lt_or_ge m 355 with z | z
          · rcases Nat.lt_or_ge m 348 with z | z
            · rcases Nat.lt_or_ge m 345 with z | z
              · rcases Nat.lt_or_ge m 343 with z | z
                · obtain rfl : m = 342 := by omega
                  exact xi_ok342 pc
                · rcases Nat.lt_or_ge m 344 with z | z
                  · obtain rfl : m = 343 := by omega
                    exact xi_ok343 pc
                  · obtain rfl : m = 344 := by omega
                    exact xi_ok344 pc
              · rcases Nat.lt_or_ge m 346 with z | z
                · obtain rfl : m = 345 := by omega
                  exact xi_ok345 pc
                · rcases Nat.lt_or_ge m 347 with z | z
                  · obtain rfl : m = 346 := by omega
                    exact xi_ok346 pc
                  · obtain rfl : m = 347 := by omega
                    exact xi_ok347 pc
            · rcases Nat.lt_or_ge m 351 with z | z
              · rcases Nat.lt_or_ge m 349 with z | z
                · obtain rfl : m = 348 := by omega
                  exact xi_ok348 pc
                · rcases Nat.lt_or_ge m 350 with z | z
                  · obtain rfl : m = 349 := by omega
                    exact xi_ok349 pc
                  · obtain rfl : m = 350 := by omega
                    exact xi_ok350 pc
              · rcases Nat.lt_or_ge m 353 with z | z
                · rcases Nat.lt_or_ge m 352 with z | z
                  · obtain rfl : m = 351 := by omega
                    exact xi_ok351 pc
                  · obtain rfl : m = 352 := by omega
                    exact xi_ok352 pc
                · rcases Nat.lt_or_ge m 354 with z | z
                  · obtain rfl : m = 353 := by omega
                    exact xi_ok353 pc
                  · obtain rfl : m = 354 := by omega
                    exact xi_ok354 pc
          · rcases Nat.lt_or_ge m 362 with z | z
            · rcases Nat.lt_or_ge m 358 with z | z
              · rcases Nat.lt_or_ge m 356 with z | z
                · obtain rfl : m = 355 := by omega
                  exact xi_ok355 pc
                · rcases Nat.lt_or_ge m 357 with z | z
                  · obtain rfl : m = 356 := by omega
                    exact xi_ok356 pc
                  · obtain rfl : m = 357 := by omega
                    exact xi_ok357 pc
              · rcases Nat.lt_or_ge m 360 with z | z
                · rcases Nat.lt_or_ge m 359 with z | z
                  · obtain rfl : m = 358 := by omega
                    exact xi_ok358 pc
                  · obtain rfl : m = 359 := by omega
                    exact xi_ok359 pc
                · rcases Nat.lt_or_ge m 361 with z | z
                  · obtain rfl : m = 360 := by omega
                    exact xi_ok360 pc
                  · obtain rfl : m = 361 := by omega
                    exact xi_ok361 pc
            · rcases Nat.lt_or_ge m 365 with z | z
              · rcases Nat.lt_or_ge m 363 with z | z
                · obtain rfl : m = 362 := by omega
                  exact xi_ok362 pc
                · rcases Nat.lt_or_ge m 364 with z | z
                  · obtain rfl : m = 363 := by omega
                    exact xi_ok363 pc
                  · obtain rfl : m = 364 := by omega
                    exact xi_ok364 pc
              · rcases Nat.lt_or_ge m 367 with z | z
                · rcases Nat.lt_or_ge m 366 with z | z
                  · obtain rfl : m = 365 := by omega
                    exact xi_ok365 pc
                  · obtain rfl : m = 366 := by omega
                    exact xi_ok366 pc
                · rcases Nat.lt_or_ge m 368 with z | z
                  · obtain rfl : m = 367 := by omega
                    exact xi_ok367 pc
                  · obtain rfl : m = 368 := by omega
                    exact xi_ok368 pc
      · rcases Nat.lt_or_ge m 395 with z | z
        · rcases Nat.lt_or_ge m 382 with z | z
          · rcases Nat.lt_or_ge m 375 with z | z
            · rcases Nat.lt_or_ge m 372 with z | z
              · rcases Nat.lt_or_ge m 370 with z | z
                · obtain rfl : m = 369 := by omega
                  exact xi_ok369 pc
                · rcases Nat.lt_or_ge m 371 with z | z
                  · obtain rfl : m = 370 := by omega
                    exact xi_ok370 pc
                  · obtain rfl : m = 371 := by omega
                    exact xi_ok371 pc
              · rcases Nat.lt_or_ge m 373 with z | z
                · obtain rfl : m = 372 := by omega
                  exact xi_ok372 pc
                · rcases Nat.lt_or_ge m 374 with z | z
                  · obtain rfl : m = 373 := by omega
                    exact xi_ok373 pc
                  · obtain rfl : m = 374 := by omega
                    exact xi_ok374 pc
            · rcases Nat.lt_or_ge m 378 with z | z
              · rcases Nat.lt_or_ge m 376 with z | z
                · obtain rfl : m = 375 := by omega
                  exact xi_ok375 pc
                · rcases Nat.lt_or_ge m 377 with z | z
                  · obtain rfl : m = 376 := by omega
                    exact xi_ok376 pc
                  · obtain rfl : m = 377 := by omega
                    exact xi_ok377 pc
              · rcases Nat.lt_or_ge m 380 with z | z
                · rcases Nat.lt_or_ge m 379 with z | z
                  · obtain rfl : m = 378 := by omega
                    exact xi_ok378 pc
                  · obtain rfl : m = 379 := by omega
                    exact xi_ok379 pc
                · rcases Nat.lt_or_ge m 381 with z | z
                  · obtain rfl : m = 380 := by omega
                    exact xi_ok380 pc
                  · obtain rfl : m = 381 := by omega
                    exact xi_ok381 pc
          · rcases Nat.lt_or_ge m 388 with z | z
            · rcases Nat.lt_or_ge m 385 with z | z
              · rcases Nat.lt_or_ge m 383 with z | z
                · obtain rfl : m = 382 := by omega
                  exact xi_ok382 pc
                · rcases Nat.lt_or_ge m 384 with z | z
                  · obtain rfl : m = 383 := by omega
                    exact xi_ok383 pc
                  · obtain rfl : m = 384 := by omega
                    exact xi_ok384 pc
              · rcases Nat.lt_or_ge m 386 with z | z
                · obtain rfl : m = 385 := by omega
                  exact xi_ok385 pc
                · rcases Nat.lt_or_ge m 387 with z | z
                  · obtain rfl : m = 386 := by omega
                    exact xi_ok386 pc
                  · obtain rfl : m = 387 := by omega
                    exact xi_ok387 pc
            · rcases Nat.lt_or_ge m 391 with z | z
              · rcases Nat.lt_or_ge m 389 with z | z
                · obtain rfl : m = 388 := by omega
                  exact xi_ok388 pc
                · rcases Nat.lt_or_ge m 390 with z | z
                  · obtain rfl : m = 389 := by omega
                    exact xi_ok389 pc
                  · obtain rfl : m = 390 := by omega
                    exact xi_ok390 pc
              · rcases Nat.lt_or_ge m 393 with z | z
                · rcases Nat.lt_or_ge m 392 with z | z
                  · obtain rfl : m = 391 := by omega
                    exact xi_ok391 pc
                  · obtain rfl : m = 392 := by omega
                    exact xi_ok392 pc
                · rcases Nat.lt_or_ge m 394 with z | z
                  · obtain rfl : m = 393 := by omega
                    exact xi_ok393 pc
                  · obtain rfl : m = 394 := by omega
                    exact xi_ok394 pc
        · rcases Nat.lt_or_ge m 408 with z | z
          · rcases Nat.lt_or_ge m 401 with z | z
            · rcases Nat.lt_or_ge m 398 with z | z
              · rcases Nat.lt_or_ge m 396 with z | z
                · obtain rfl : m = 395 := by omega
                  exact xi_ok395 pc
                · rcases Nat.lt_or_ge m 397 with z | z
                  · obtain rfl : m = 396 := by omega
                    exact xi_ok396 pc
                  · obtain rfl : m = 397 := by omega
                    exact xi_ok397 pc
              · rcases Nat.lt_or_ge m 399 with z | z
                · obtain rfl : m = 398 := by omega
                  exact xi_ok398 pc
                · rcases Nat.lt_or_ge m 400 with z | z
                  · obtain rfl : m = 399 := by omega
                    exact xi_ok399 pc
                  · obtain rfl : m = 400 := by omega
                    exact xi_ok400 pc
            · rcases Nat.lt_or_ge m 404 with z | z
              · rcases Nat.lt_or_ge m 402 with z | z
                · obtain rfl : m = 401 := by omega
                  exact xi_ok401 pc
                · rcases Nat.lt_or_ge m 403 with z | z
                  · obtain rfl : m = 402 := by omega
                    exact xi_ok402 pc
                  · obtain rfl : m = 403 := by omega
                    exact xi_ok403 pc
              · rcases Nat.lt_or_ge m 406 with z | z
                · rcases Nat.lt_or_ge m 405 with z | z
                  · obtain rfl : m = 404 := by omega
                    exact xi_ok404 pc
                  · obtain rfl : m = 405 := by omega
                    exact xi_ok405 pc
                · rcases Nat.lt_or_ge m 407 with z | z
                  · obtain rfl : m = 406 := by omega
                    exact xi_ok406 pc
                  · obtain rfl : m = 407 := by omega
                    exact xi_ok407 pc
          · rcases Nat.lt_or_ge m 415 with z | z
            · rcases Nat.lt_or_ge m 411 with z | z
              · rcases Nat.lt_or_ge m 409 with z | z
                · obtain rfl : m = 408 := by omega
                  exact xi_ok408 pc
                · rcases Nat.lt_or_ge m 410 with z | z
                  · obtain rfl : m = 409 := by omega
                    exact xi_ok409 pc
                  · obtain rfl : m = 410 := by omega
                    exact xi_ok410 pc
              · rcases Nat.lt_or_ge m 413 with z | z
                · rcases Nat.lt_or_ge m 412 with z | z
                  · obtain rfl : m = 411 := by omega
                    exact xi_ok411 pc
                  · obtain rfl : m = 412 := by omega
                    exact xi_ok412 pc
                · rcases Nat.lt_or_ge m 414 with z | z
                  · obtain rfl : m = 413 := by omega
                    exact xi_ok413 pc
                  · obtain rfl : m = 414 := by omega
                    exact xi_ok414 pc
            · rcases Nat.lt_or_ge m 418 with z | z
              · rcases Nat.lt_or_ge m 416 with z | z
                · obtain rfl : m = 415 := by omega
                  exact xi_ok415 pc
                · rcases Nat.lt_or_ge m 417 with z | z
                  · obtain rfl : m = 416 := by omega
                    exact xi_ok416 pc
                  · obtain rfl : m = 417 := by omega
                    exact xi_ok417 pc
              · rcases Nat.lt_or_ge m 420 with z | z
                · rcases Nat.lt_or_ge m 419 with z | z
                  · obtain rfl : m = 418 := by omega
                    exact xi_ok418 pc
                  · obtain rfl : m = 419 := by omega
                    exact xi_ok419 pc
                · rcases Nat.lt_or_ge m 421 with z | z
                  · obtain rfl : m = 420 := by omega
                    exact xi_ok420 pc
                  · obtain rfl : m = 421 := by omega
                    exact xi_ok421 pc
def xm_n : Nat := 422
set_option maxRecDepth 100000 in
theorem xo_all : (List.range 422).all (fun m => decide (xo m < 18)) = true := by decide +kernel
set_option maxHeartbeats 4000000 in
theorem xm_all {m : Nat} (h0 : 0 < m) (h : m < 422) : xm_ck m (xm_f m) = true := by
  rcases (by omega : (1 ≤ m ∧ m < 41) ∨ (41 ≤ m ∧ m < 81) ∨ (81 ≤ m ∧ m < 121) ∨ (121 ≤ m ∧ m < 161) ∨ (161 ≤ m ∧ m < 201) ∨ (201 ≤ m ∧ m < 241) ∨ (241 ≤ m ∧ m < 281) ∨ (281 ≤ m ∧ m < 321) ∨ (321 ≤ m ∧ m < 361) ∨ (361 ≤ m ∧ m < 401) ∨ (401 ≤ m ∧ m < 422)) with z | z | z | z | z | z | z | z | z | z | z
  · exact List.all_eq_true.mp xm_ok1 m (List.mem_range'_1.mpr (by omega))
  · exact List.all_eq_true.mp xm_ok41 m (List.mem_range'_1.mpr (by omega))
  · exact List.all_eq_true.mp xm_ok81 m (List.mem_range'_1.mpr (by omega))
  · exact List.all_eq_true.mp xm_ok121 m (List.mem_range'_1.mpr (by omega))
  · exact List.all_eq_true.mp xm_ok161 m (List.mem_range'_1.mpr (by omega))
  · exact List.all_eq_true.mp xm_ok201 m (List.mem_range'_1.mpr (by omega))
  · exact List.all_eq_true.mp xm_ok241 m (List.mem_range'_1.mpr (by omega))
  · exact List.all_eq_true.mp xm_ok281 m (List.mem_range'_1.mpr (by omega))
  · exact List.all_eq_true.mp xm_ok321 m (List.mem_range'_1.mpr (by omega))
  · exact List.all_eq_true.mp xm_ok361 m (List.mem_range'_1.mpr (by omega))
  · exact List.all_eq_true.mp xm_ok401 m (List.mem_range'_1.mpr (by omega))
theorem xin_all {m : Nat} (h : m < 422) : xin m = decide ((xy m).name = "<init>") := by
  rcases (by omega : (0 ≤ m ∧ m < 60) ∨ (60 ≤ m ∧ m < 120) ∨ (120 ≤ m ∧ m < 180) ∨ (180 ≤ m ∧ m < 240) ∨ (240 ≤ m ∧ m < 300) ∨ (300 ≤ m ∧ m < 360) ∨ (360 ≤ m ∧ m < 420) ∨ (420 ≤ m ∧ m < 422)) with z | z | z | z | z | z | z | z
  · exact of_decide_eq_true (List.all_eq_true.mp xin_ok0 m (List.mem_range'_1.mpr (by omega)))
  · exact of_decide_eq_true (List.all_eq_true.mp xin_ok60 m (List.mem_range'_1.mpr (by omega)))
  · exact of_decide_eq_true (List.all_eq_true.mp xin_ok120 m (List.mem_range'_1.mpr (by omega)))
  · exact of_decide_eq_true (List.all_eq_true.mp xin_ok180 m (List.mem_range'_1.mpr (by omega)))
  · exact of_decide_eq_true (List.all_eq_true.mp xin_ok240 m (List.mem_range'_1.mpr (by omega)))
  · exact of_decide_eq_true (List.all_eq_true.mp xin_ok300 m (List.mem_range'_1.mpr (by omega)))
  · exact of_decide_eq_true (List.all_eq_true.mp xin_ok360 m (List.mem_range'_1.mpr (by omega)))
  · exact of_decide_eq_true (List.all_eq_true.mp xin_ok420 m (List.mem_range'_1.mpr (by omega)))
theorem xf_all {m : Nat} (h : m < 18) : (xf m).all (xf_ck m) = true := by
  rcases Nat.lt_or_ge m 9 with z | z
  · rcases Nat.lt_or_ge m 4 with z | z
    · rcases Nat.lt_or_ge m 2 with z | z
      · rcases Nat.lt_or_ge m 1 with z | z
        · obtain rfl : m = 0 := by omega
          exact xf_ok0
        · obtain rfl : m = 1 := by omega
          exact xf_ok1
      · rcases Nat.lt_or_ge m 3 with z | z
        · obtain rfl : m = 2 := by omega
          exact xf_ok2
        · obtain rfl : m = 3 := by omega
          exact xf_ok3
    · rcases Nat.lt_or_ge m 6 with z | z
      · rcases Nat.lt_or_ge m 5 with z | z
        · obtain rfl : m = 4 := by omega
          exact xf_ok4
        · obtain rfl : m = 5 := by omega
          exact xf_ok5
      · rcases Nat.lt_or_ge m 7 with z | z
        · obtain rfl : m = 6 := by omega
          exact xf_ok6
        · rcases Nat.lt_or_ge m 8 with z | z
          · obtain rfl : m = 7 := by omega
            exact xf_ok7
          · obtain rfl : m = 8 := by omega
            exact xf_ok8
  · rcases Nat.lt_or_ge m 13 with z | z
    · rcases Nat.lt_or_ge m 11 with z | z
      · rcases Nat.lt_or_ge m 10 with z | z
        · obtain rfl : m = 9 := by omega
          exact xf_ok9
        · obtain rfl : m = 10 := by omega
          exact xf_ok10
      · rcases Nat.lt_or_ge m 12 with z | z
        · obtain rfl : m = 11 := by omega
          exact xf_ok11
        · obtain rfl : m = 12 := by omega
          exact xf_ok12
    · rcases Nat.lt_or_ge m 15 with z | z
      · rcases Nat.lt_or_ge m 14 with z | z
        · obtain rfl : m = 13 := by omega
          exact xf_ok13
        · obtain rfl : m = 14 := by omega
          exact xf_ok14
      · rcases Nat.lt_or_ge m 16 with z | z
        · obtain rfl : m = 15 := by omega
          exact xf_ok15
        · rcases Nat.lt_or_ge m 17 with z | z
          · obtain rfl : m = 16 := by omega
            exact xf_ok16
          · obtain rfl : m = 17 := by omega
            exact xf_ok17
theorem xl_all {m : Nat} (h : m < 18) : (xl m).all (xl_ck m) = true := by
  rcases Nat.lt_or_ge m 9 with z | z
  · rcases Nat.lt_or_ge m 4 with z | z
    · rcases Nat.lt_or_ge m 2 with z | z
      · rcases Nat.lt_or_ge m 1 with z | z
        · obtain rfl : m = 0 := by omega
          exact xl_ok0
        · obtain rfl : m = 1 := by omega
          exact xl_ok1
      · rcases Nat.lt_or_ge m 3 with z | z
        · obtain rfl : m = 2 := by omega
          exact xl_ok2
        · obtain rfl : m = 3 := by omega
          exact xl_ok3
    · rcases Nat.lt_or_ge m 6 with z | z
      · rcases Nat.lt_or_ge m 5 with z | z
        · obtain rfl : m = 4 := by omega
          exact xl_ok4
        · obtain rfl : m = 5 := by omega
          exact xl_ok5
      · rcases Nat.lt_or_ge m 7 with z | z
        · obtain rfl : m = 6 := by omega
          exact xl_ok6
        · rcases Nat.lt_or_ge m 8 with z | z
          · obtain rfl : m = 7 := by omega
            exact xl_ok7
          · obtain rfl : m = 8 := by omega
            exact xl_ok8
  · rcases Nat.lt_or_ge m 13 with z | z
    · rcases Nat.lt_or_ge m 11 with z | z
      · rcases Nat.lt_or_ge m 10 with z | z
        · obtain rfl : m = 9 := by omega
          exact xl_ok9
        · obtain rfl : m = 10 := by omega
          exact xl_ok10
      · rcases Nat.lt_or_ge m 12 with z | z
        · obtain rfl : m = 11 := by omega
          exact xl_ok11
        · obtain rfl : m = 12 := by omega
          exact xl_ok12
    · rcases Nat.lt_or_ge m 15 with z | z
      · rcases Nat.lt_or_ge m 14 with z | z
        · obtain rfl : m = 13 := by omega
          exact xl_ok13
        · obtain rfl : m = 14 := by omega
          exact xl_ok14
      · rcases Nat.lt_or_ge m 16 with z | z
        · obtain rfl : m = 15 := by omega
          exact xl_ok15
        · rcases Nat.lt_or_ge m 17 with z | z
          · obtain rfl : m = 16 := by omega
            exact xl_ok16
          · obtain rfl : m = 17 := by omega
            exact xl_ok17
theorem xw_all {m : Nat} (h : m < 18) : (xw m).all (xw_ck m) = true := by
  rcases Nat.lt_or_ge m 9 with z | z
  · rcases Nat.lt_or_ge m 4 with z | z
    · rcases Nat.lt_or_ge m 2 with z | z
      · rcases Nat.lt_or_ge m 1 with z | z
        · obtain rfl : m = 0 := by omega
          exact xw_ok0
        · obtain rfl : m = 1 := by omega
          exact xw_ok1
      · rcases Nat.lt_or_ge m 3 with z | z
        · obtain rfl : m = 2 := by omega
          exact xw_ok2
        · obtain rfl : m = 3 := by omega
          exact xw_ok3
    · rcases Nat.lt_or_ge m 6 with z | z
      · rcases Nat.lt_or_ge m 5 with z | z
        · obtain rfl : m = 4 := by omega
          exact xw_ok4
        · obtain rfl : m = 5 := by omega
          exact xw_ok5
      · rcases Nat.lt_or_ge m 7 with z | z
        · obtain rfl : m = 6 := by omega
          exact xw_ok6
        · rcases Nat.lt_or_ge m 8 with z | z
          · obtain rfl : m = 7 := by omega
            exact xw_ok7
          · obtain rfl : m = 8 := by omega
            exact xw_ok8
  · rcases Nat.lt_or_ge m 13 with z | z
    · rcases Nat.lt_or_ge m 11 with z | z
      · rcases Nat.lt_or_ge m 10 with z | z
        · obtain rfl : m = 9 := by omega
          exact xw_ok9
        · obtain rfl : m = 10 := by omega
          exact xw_ok10
      · rcases Nat.lt_or_ge m 12 with z | z
        · obtain rfl : m = 11 := by omega
          exact xw_ok11
        · obtain rfl : m = 12 := by omega
          exact xw_ok12
    · rcases Nat.lt_or_ge m 15 with z | z
      · rcases Nat.lt_or_ge m 14 with z | z
        · obtain rfl : m = 13 := by omega
          exact xw_ok13
        · obtain rfl : m = 14 := by omega
          exact xw_ok14
      · rcases Nat.lt_or_ge m 16 with z | z
        · obtain rfl : m = 15 := by omega
          exact xw_ok15
        · rcases Nat.lt_or_ge m 17 with z | z
          · obtain rfl : m = 16 := by omega
            exact xw_ok16
          · obtain rfl : m = 17 := by omega
            exact xw_ok17
theorem xa_all {m : Nat} (h : m < 18) : (xa m).all (xa_ck m) = true := by
  rcases Nat.lt_or_ge m 9 with z | z
  · rcases Nat.lt_or_ge m 4 with z | z
    · rcases Nat.lt_or_ge m 2 with z | z
      · rcases Nat.lt_or_ge m 1 with z | z
        · obtain rfl : m = 0 := by omega
          exact xa_ok0
        · obtain rfl : m = 1 := by omega
          exact xa_ok1
      · rcases Nat.lt_or_ge m 3 with z | z
        · obtain rfl : m = 2 := by omega
          exact xa_ok2
        · obtain rfl : m = 3 := by omega
          exact xa_ok3
    · rcases Nat.lt_or_ge m 6 with z | z
      · rcases Nat.lt_or_ge m 5 with z | z
        · obtain rfl : m = 4 := by omega
          exact xa_ok4
        · obtain rfl : m = 5 := by omega
          exact xa_ok5
      · rcases Nat.lt_or_ge m 7 with z | z
        · obtain rfl : m = 6 := by omega
          exact xa_ok6
        · rcases Nat.lt_or_ge m 8 with z | z
          · obtain rfl : m = 7 := by omega
            exact xa_ok7
          · obtain rfl : m = 8 := by omega
            exact xa_ok8
  · rcases Nat.lt_or_ge m 13 with z | z
    · rcases Nat.lt_or_ge m 11 with z | z
      · rcases Nat.lt_or_ge m 10 with z | z
        · obtain rfl : m = 9 := by omega
          exact xa_ok9
        · obtain rfl : m = 10 := by omega
          exact xa_ok10
      · rcases Nat.lt_or_ge m 12 with z | z
        · obtain rfl : m = 11 := by omega
          exact xa_ok11
        · obtain rfl : m = 12 := by omega
          exact xa_ok12
    · rcases Nat.lt_or_ge m 15 with z | z
      · rcases Nat.lt_or_ge m 14 with z | z
        · obtain rfl : m = 13 := by omega
          exact xa_ok13
        · obtain rfl : m = 14 := by omega
          exact xa_ok14
      · rcases Nat.lt_or_ge m 16 with z | z
        · obtain rfl : m = 15 := by omega
          exact xa_ok15
        · rcases Nat.lt_or_ge m 17 with z | z
          · obtain rfl : m = 16 := by omega
            exact xa_ok16
          · obtain rfl : m = 17 := by omega
            exact xa_ok17
theorem xb_all {m : Nat} (h : m < 18) : (xb m).all (xb_ck m) = true := by
  rcases Nat.lt_or_ge m 9 with z | z
  · rcases Nat.lt_or_ge m 4 with z | z
    · rcases Nat.lt_or_ge m 2 with z | z
      · rcases Nat.lt_or_ge m 1 with z | z
        · obtain rfl : m = 0 := by omega
          exact xb_ok0
        · obtain rfl : m = 1 := by omega
          exact xb_ok1
      · rcases Nat.lt_or_ge m 3 with z | z
        · obtain rfl : m = 2 := by omega
          exact xb_ok2
        · obtain rfl : m = 3 := by omega
          exact xb_ok3
    · rcases Nat.lt_or_ge m 6 with z | z
      · rcases Nat.lt_or_ge m 5 with z | z
        · obtain rfl : m = 4 := by omega
          exact xb_ok4
        · obtain rfl : m = 5 := by omega
          exact xb_ok5
      · rcases Nat.lt_or_ge m 7 with z | z
        · obtain rfl : m = 6 := by omega
          exact xb_ok6
        · rcases Nat.lt_or_ge m 8 with z | z
          · obtain rfl : m = 7 := by omega
            exact xb_ok7
          · obtain rfl : m = 8 := by omega
            exact xb_ok8
  · rcases Nat.lt_or_ge m 13 with z | z
    · rcases Nat.lt_or_ge m 11 with z | z
      · rcases Nat.lt_or_ge m 10 with z | z
        · obtain rfl : m = 9 := by omega
          exact xb_ok9
        · obtain rfl : m = 10 := by omega
          exact xb_ok10
      · rcases Nat.lt_or_ge m 12 with z | z
        · obtain rfl : m = 11 := by omega
          exact xb_ok11
        · obtain rfl : m = 12 := by omega
          exact xb_ok12
    · rcases Nat.lt_or_ge m 15 with z | z
      · rcases Nat.lt_or_ge m 14 with z | z
        · obtain rfl : m = 13 := by omega
          exact xb_ok13
        · obtain rfl : m = 14 := by omega
          exact xb_ok14
      · rcases Nat.lt_or_ge m 16 with z | z
        · obtain rfl : m = 15 := by omega
          exact xb_ok15
        · rcases Nat.lt_or_ge m 17 with z | z
          · obtain rfl : m = 16 := by omega
            exact xb_ok16
          · obtain rfl : m = 17 := by omega
            exact xb_ok17
theorem xl_n0 : xl_0.all (fun q => decide (q.2.1 < 422 ∨ 1000 ≤ q.2.1)) = true := by decide +kernel
theorem xl_n1 : xl_1.all (fun q => decide (q.2.1 < 422 ∨ 1000 ≤ q.2.1)) = true := by decide +kernel
theorem xl_n2 : xl_2.all (fun q => decide (q.2.1 < 422 ∨ 1000 ≤ q.2.1)) = true := by decide +kernel
theorem xl_n3 : xl_3.all (fun q => decide (q.2.1 < 422 ∨ 1000 ≤ q.2.1)) = true := by decide +kernel
theorem xl_n4 : xl_4.all (fun q => decide (q.2.1 < 422 ∨ 1000 ≤ q.2.1)) = true := by decide +kernel
theorem xl_n5 : xl_5.all (fun q => decide (q.2.1 < 422 ∨ 1000 ≤ q.2.1)) = true := by decide +kernel
theorem xl_n6 : xl_6.all (fun q => decide (q.2.1 < 422 ∨ 1000 ≤ q.2.1)) = true := by decide +kernel
theorem xl_n7 : xl_7.all (fun q => decide (q.2.1 < 422 ∨ 1000 ≤ q.2.1)) = true := by decide +kernel
theorem xl_n8 : xl_8.all (fun q => decide (q.2.1 < 422 ∨ 1000 ≤ q.2.1)) = true := by decide +kernel
theorem xl_n9 : xl_9.all (fun q => decide (q.2.1 < 422 ∨ 1000 ≤ q.2.1)) = true := by decide +kernel
theorem xl_n10 : xl_10.all (fun q => decide (q.2.1 < 422 ∨ 1000 ≤ q.2.1)) = true := by decide +kernel
theorem xl_n11 : xl_11.all (fun q => decide (q.2.1 < 422 ∨ 1000 ≤ q.2.1)) = true := by decide +kernel
theorem xl_n12 : xl_12.all (fun q => decide (q.2.1 < 422 ∨ 1000 ≤ q.2.1)) = true := by decide +kernel
theorem xl_n13 : xl_13.all (fun q => decide (q.2.1 < 422 ∨ 1000 ≤ q.2.1)) = true := by decide +kernel
theorem xl_n14 : xl_14.all (fun q => decide (q.2.1 < 422 ∨ 1000 ≤ q.2.1)) = true := by decide +kernel
theorem xl_n15 : xl_15.all (fun q => decide (q.2.1 < 422 ∨ 1000 ≤ q.2.1)) = true := by decide +kernel
theorem xl_n16 : xl_16.all (fun q => decide (q.2.1 < 422 ∨ 1000 ≤ q.2.1)) = true := by decide +kernel
theorem xl_n17 : xl_17.all (fun q => decide (q.2.1 < 422 ∨ 1000 ≤ q.2.1)) = true := by decide +kernel
theorem xl_nall {m : Nat} (h : m < 18) : (xl m).all (fun q => decide (q.2.1 < 422 ∨ 1000 ≤ q.2.1)) = true := by
  rcases Nat.lt_or_ge m 9 with z | z
  · rcases Nat.lt_or_ge m 4 with z | z
    · rcases Nat.lt_or_ge m 2 with z | z
      · rcases Nat.lt_or_ge m 1 with z | z
        · obtain rfl : m = 0 := by omega
          exact xl_n0
        · obtain rfl : m = 1 := by omega
          exact xl_n1
      · rcases Nat.lt_or_ge m 3 with z | z
        · obtain rfl : m = 2 := by omega
          exact xl_n2
        · obtain rfl : m = 3 := by omega
          exact xl_n3
    · rcases Nat.lt_or_ge m 6 with z | z
      · rcases Nat.lt_or_ge m 5 with z | z
        · obtain rfl : m = 4 := by omega
          exact xl_n4
        · obtain rfl : m = 5 := by omega
          exact xl_n5
      · rcases Nat.lt_or_ge m 7 with z | z
        · obtain rfl : m = 6 := by omega
          exact xl_n6
        · rcases Nat.lt_or_ge m 8 with z | z
          · obtain rfl : m = 7 := by omega
            exact xl_n7
          · obtain rfl : m = 8 := by omega
            exact xl_n8
  · rcases Nat.lt_or_ge m 13 with z | z
    · rcases Nat.lt_or_ge m 11 with z | z
      · rcases Nat.lt_or_ge m 10 with z | z
        · obtain rfl : m = 9 := by omega
          exact xl_n9
        · obtain rfl : m = 10 := by omega
          exact xl_n10
      · rcases Nat.lt_or_ge m 12 with z | z
        · obtain rfl : m = 11 := by omega
          exact xl_n11
        · obtain rfl : m = 12 := by omega
          exact xl_n12
    · rcases Nat.lt_or_ge m 15 with z | z
      · rcases Nat.lt_or_ge m 14 with z | z
        · obtain rfl : m = 13 := by omega
          exact xl_n13
        · obtain rfl : m = 14 := by omega
          exact xl_n14
      · rcases Nat.lt_or_ge m 16 with z | z
        · obtain rfl : m = 15 := by omega
          exact xl_n15
        · rcases Nat.lt_or_ge m 17 with z | z
          · obtain rfl : m = 16 := by omega
            exact xl_n16
          · obtain rfl : m = 17 := by omega
            exact xl_n17
